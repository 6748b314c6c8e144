section
-- ===== PART A: goes FIRST, ahead of the names: the tables' words, and 'selects' of the private methods out of them =====
/-- a private method of a class that the tables say can be made, by its rows of tables_1 -/
def lw_okq (q : MethodName × Nat) : Prop := (q.1.cls ≠ "java/lang/invoke/MethodHandle" ∧ q.1.cls ≠ "java/lang/invoke/VarHandle") ∧ Cond.instantiable q.1.cls q.2 ∈ tables_1 ∧ Cond.privateMethod q.1 ∈ tables_1 ∧ Cond.instanceMethod q.1 ∈ tables_1
theorem lw_p0 : lw_okq (⟨"Creditfabric", "layAnew", "(IIII)V"⟩, 12) := ⟨⟨by decide +kernel, by decide +kernel⟩, List.mem_of_getElem? (i := 18) (by decide +kernel), List.mem_of_getElem? (i := 192) (by decide +kernel), List.mem_of_getElem? (i := 193) (by decide +kernel)⟩
theorem lw_p1 : lw_okq (⟨"Creditfabric$Circles", "awaitedBy", "(I)I"⟩, 5) := ⟨⟨by decide +kernel, by decide +kernel⟩, List.mem_of_getElem? (i := 166) (by decide +kernel), List.mem_of_getElem? (i := 310) (by decide +kernel), List.mem_of_getElem? (i := 311) (by decide +kernel)⟩
theorem lw_p2 : lw_okq (⟨"Creditfabric$Circles", "nextBuffer", "(III)I"⟩, 5) := ⟨⟨by decide +kernel, by decide +kernel⟩, List.mem_of_getElem? (i := 166) (by decide +kernel), List.mem_of_getElem? (i := 332) (by decide +kernel), List.mem_of_getElem? (i := 333) (by decide +kernel)⟩
theorem lw_p3 : lw_okq (⟨"Creditfabric$Circles", "comesBack", "(I)Z"⟩, 5) := ⟨⟨by decide +kernel, by decide +kernel⟩, List.mem_of_getElem? (i := 166) (by decide +kernel), List.mem_of_getElem? (i := 348) (by decide +kernel), List.mem_of_getElem? (i := 349) (by decide +kernel)⟩
theorem lw_p4 : lw_okq (⟨"Creditfabric$Circles", "hangAlong", "(I)V"⟩, 5) := ⟨⟨by decide +kernel, by decide +kernel⟩, List.mem_of_getElem? (i := 166) (by decide +kernel), List.mem_of_getElem? (i := 361) (by decide +kernel), List.mem_of_getElem? (i := 362) (by decide +kernel)⟩
theorem lw_p5 : lw_okq (⟨"Creditfabric$Circles", "cutEnds", "()Z"⟩, 5) := ⟨⟨by decide +kernel, by decide +kernel⟩, List.mem_of_getElem? (i := 166) (by decide +kernel), List.mem_of_getElem? (i := 366) (by decide +kernel), List.mem_of_getElem? (i := 367) (by decide +kernel)⟩
theorem lw_p6 : lw_okq (⟨"Creditfabric$Circles", "isEnd", "(III)Z"⟩, 5) := ⟨⟨by decide +kernel, by decide +kernel⟩, List.mem_of_getElem? (i := 166) (by decide +kernel), List.mem_of_getElem? (i := 370) (by decide +kernel), List.mem_of_getElem? (i := 371) (by decide +kernel)⟩
theorem lw_p7 : lw_okq (⟨"java/lang/Throwable", "fillInStackTrace", "(I)Ljava/lang/Throwable;"⟩, 6) := ⟨⟨by decide +kernel, by decide +kernel⟩, List.mem_of_getElem? (i := 420) (by decide +kernel), List.mem_of_getElem? (i := 418) (by decide +kernel), List.mem_of_getElem? (i := 419) (by decide +kernel)⟩
theorem lw_p8 : lw_okq (⟨"Creditfabric", "checkSwitch", "(I)V"⟩, 12) := ⟨⟨by decide +kernel, by decide +kernel⟩, List.mem_of_getElem? (i := 18) (by decide +kernel), List.mem_of_getElem? (i := 461) (by decide +kernel), List.mem_of_getElem? (i := 462) (by decide +kernel)⟩
theorem lw_p9 : lw_okq (⟨"Creditfabric", "runOne", "()V"⟩, 12) := ⟨⟨by decide +kernel, by decide +kernel⟩, List.mem_of_getElem? (i := 18) (by decide +kernel), List.mem_of_getElem? (i := 547) (by decide +kernel), List.mem_of_getElem? (i := 548) (by decide +kernel)⟩
theorem lw_p10 : lw_okq (⟨"Creditfabric", "chooseAt", "(I)V"⟩, 12) := ⟨⟨by decide +kernel, by decide +kernel⟩, List.mem_of_getElem? (i := 18) (by decide +kernel), List.mem_of_getElem? (i := 556) (by decide +kernel), List.mem_of_getElem? (i := 557) (by decide +kernel)⟩
theorem lw_p11 : lw_okq (⟨"Creditfabric", "canGo", "(III)Z"⟩, 12) := ⟨⟨by decide +kernel, by decide +kernel⟩, List.mem_of_getElem? (i := 18) (by decide +kernel), List.mem_of_getElem? (i := 563) (by decide +kernel), List.mem_of_getElem? (i := 564) (by decide +kernel)⟩
theorem lw_p12 : lw_okq (⟨"Creditfabric", "takeTurn", "(III)V"⟩, 12) := ⟨⟨by decide +kernel, by decide +kernel⟩, List.mem_of_getElem? (i := 18) (by decide +kernel), List.mem_of_getElem? (i := 573) (by decide +kernel), List.mem_of_getElem? (i := 574) (by decide +kernel)⟩
theorem lw_p13 : lw_okq (⟨"Creditfabric", "move", "(I)V"⟩, 12) := ⟨⟨by decide +kernel, by decide +kernel⟩, List.mem_of_getElem? (i := 18) (by decide +kernel), List.mem_of_getElem? (i := 577) (by decide +kernel), List.mem_of_getElem? (i := 578) (by decide +kernel)⟩
theorem lw_p14 : lw_okq (⟨"Creditfabric", "markInCrowd", "(I)V"⟩, 12) := ⟨⟨by decide +kernel, by decide +kernel⟩, List.mem_of_getElem? (i := 18) (by decide +kernel), List.mem_of_getElem? (i := 612) (by decide +kernel), List.mem_of_getElem? (i := 613) (by decide +kernel)⟩
theorem lw_p15 : lw_okq (⟨"Creditfabric", "checkLink", "(II)V"⟩, 12) := ⟨⟨by decide +kernel, by decide +kernel⟩, List.mem_of_getElem? (i := 18) (by decide +kernel), List.mem_of_getElem? (i := 634) (by decide +kernel), List.mem_of_getElem? (i := 635) (by decide +kernel)⟩
def lw_privs_1 : List (MethodName × Nat) := [(⟨"Creditfabric", "layAnew", "(IIII)V"⟩, 12), (⟨"Creditfabric$Circles", "awaitedBy", "(I)I"⟩, 5), (⟨"Creditfabric$Circles", "nextBuffer", "(III)I"⟩, 5), (⟨"Creditfabric$Circles", "comesBack", "(I)Z"⟩, 5), (⟨"Creditfabric$Circles", "hangAlong", "(I)V"⟩, 5), (⟨"Creditfabric$Circles", "cutEnds", "()Z"⟩, 5), (⟨"Creditfabric$Circles", "isEnd", "(III)Z"⟩, 5), (⟨"java/lang/Throwable", "fillInStackTrace", "(I)Ljava/lang/Throwable;"⟩, 6), (⟨"Creditfabric", "checkSwitch", "(I)V"⟩, 12), (⟨"Creditfabric", "runOne", "()V"⟩, 12), (⟨"Creditfabric", "chooseAt", "(I)V"⟩, 12), (⟨"Creditfabric", "canGo", "(III)Z"⟩, 12), (⟨"Creditfabric", "takeTurn", "(III)V"⟩, 12), (⟨"Creditfabric", "move", "(I)V"⟩, 12), (⟨"Creditfabric", "markInCrowd", "(I)V"⟩, 12), (⟨"Creditfabric", "checkLink", "(II)V"⟩, 12)]
theorem lw_r1 : ∀ q ∈ lw_privs_1, lw_okq q := List.forall_mem_cons.mpr ⟨lw_p0, List.forall_mem_cons.mpr ⟨lw_p1, List.forall_mem_cons.mpr ⟨lw_p2, List.forall_mem_cons.mpr ⟨lw_p3, List.forall_mem_cons.mpr ⟨lw_p4, List.forall_mem_cons.mpr ⟨lw_p5, List.forall_mem_cons.mpr ⟨lw_p6, List.forall_mem_cons.mpr ⟨lw_p7, List.forall_mem_cons.mpr ⟨lw_p8, List.forall_mem_cons.mpr ⟨lw_p9, List.forall_mem_cons.mpr ⟨lw_p10, List.forall_mem_cons.mpr ⟨lw_p11, List.forall_mem_cons.mpr ⟨lw_p12, List.forall_mem_cons.mpr ⟨lw_p13, List.forall_mem_cons.mpr ⟨lw_p14, List.forall_mem_cons.mpr ⟨lw_p15, fun _ h => absurd h List.not_mem_nil⟩⟩⟩⟩⟩⟩⟩⟩⟩⟩⟩⟩⟩⟩⟩⟩
theorem lw_p16 : lw_okq (⟨"Creditfabric", "bufferBehind", "(III)I"⟩, 12) := ⟨⟨by decide +kernel, by decide +kernel⟩, List.mem_of_getElem? (i := 18) (by decide +kernel), List.mem_of_getElem? (i := 639) (by decide +kernel), List.mem_of_getElem? (i := 640) (by decide +kernel)⟩
theorem lw_p17 : lw_okq (⟨"Creditfabric", "checkPacket", "(I)V"⟩, 12) := ⟨⟨by decide +kernel, by decide +kernel⟩, List.mem_of_getElem? (i := 18) (by decide +kernel), List.mem_of_getElem? (i := 681) (by decide +kernel), List.mem_of_getElem? (i := 682) (by decide +kernel)⟩
theorem lw_p18 : lw_okq (⟨"CreditfabricModel", "begins", "(IIII)V"⟩, 26) := ⟨⟨by decide +kernel, by decide +kernel⟩, List.mem_of_getElem? (i := 707) (by decide +kernel), List.mem_of_getElem? (i := 713) (by decide +kernel), List.mem_of_getElem? (i := 714) (by decide +kernel)⟩
theorem lw_p19 : lw_okq (⟨"CreditfabricModel", "goes", "(ZZZ)Z"⟩, 26) := ⟨⟨by decide +kernel, by decide +kernel⟩, List.mem_of_getElem? (i := 707) (by decide +kernel), List.mem_of_getElem? (i := 808) (by decide +kernel), List.mem_of_getElem? (i := 809) (by decide +kernel)⟩
theorem lw_p20 : lw_okq (⟨"CreditfabricModel", "isSwitch", "(I)Z"⟩, 26) := ⟨⟨by decide +kernel, by decide +kernel⟩, List.mem_of_getElem? (i := 707) (by decide +kernel), List.mem_of_getElem? (i := 816) (by decide +kernel), List.mem_of_getElem? (i := 817) (by decide +kernel)⟩
theorem lw_p21 : lw_okq (⟨"CreditfabricModel", "puts", "(II)V"⟩, 26) := ⟨⟨by decide +kernel, by decide +kernel⟩, List.mem_of_getElem? (i := 707) (by decide +kernel), List.mem_of_getElem? (i := 823) (by decide +kernel), List.mem_of_getElem? (i := 824) (by decide +kernel)⟩
theorem lw_p22 : lw_okq (⟨"CreditfabricModel", "ticks", "()I"⟩, 26) := ⟨⟨by decide +kernel, by decide +kernel⟩, List.mem_of_getElem? (i := 707) (by decide +kernel), List.mem_of_getElem? (i := 831) (by decide +kernel), List.mem_of_getElem? (i := 832) (by decide +kernel)⟩
theorem lw_p23 : lw_okq (⟨"CreditfabricModel", "comeBack", "()V"⟩, 26) := ⟨⟨by decide +kernel, by decide +kernel⟩, List.mem_of_getElem? (i := 707) (by decide +kernel), List.mem_of_getElem? (i := 835) (by decide +kernel), List.mem_of_getElem? (i := 836) (by decide +kernel)⟩
theorem lw_p24 : lw_okq (⟨"CreditfabricModel", "neighbour", "(II)I"⟩, 26) := ⟨⟨by decide +kernel, by decide +kernel⟩, List.mem_of_getElem? (i := 707) (by decide +kernel), List.mem_of_getElem? (i := 839) (by decide +kernel), List.mem_of_getElem? (i := 840) (by decide +kernel)⟩
theorem lw_p25 : lw_okq (⟨"CreditfabricModel", "chooses", "(II)V"⟩, 26) := ⟨⟨by decide +kernel, by decide +kernel⟩, List.mem_of_getElem? (i := 707) (by decide +kernel), List.mem_of_getElem? (i := 843) (by decide +kernel), List.mem_of_getElem? (i := 844) (by decide +kernel)⟩
theorem lw_p26 : lw_okq (⟨"CreditfabricModel", "wanted", "(II)I"⟩, 26) := ⟨⟨by decide +kernel, by decide +kernel⟩, List.mem_of_getElem? (i := 707) (by decide +kernel), List.mem_of_getElem? (i := 847) (by decide +kernel), List.mem_of_getElem? (i := 848) (by decide +kernel)⟩
theorem lw_p27 : lw_okq (⟨"CreditfabricModel", "canGo", "(III)Z"⟩, 26) := ⟨⟨by decide +kernel, by decide +kernel⟩, List.mem_of_getElem? (i := 707) (by decide +kernel), List.mem_of_getElem? (i := 851) (by decide +kernel), List.mem_of_getElem? (i := 852) (by decide +kernel)⟩
theorem lw_p28 : lw_okq (⟨"CreditfabricModel", "leaves", "(II)V"⟩, 26) := ⟨⟨by decide +kernel, by decide +kernel⟩, List.mem_of_getElem? (i := 707) (by decide +kernel), List.mem_of_getElem? (i := 858) (by decide +kernel), List.mem_of_getElem? (i := 859) (by decide +kernel)⟩
theorem lw_p29 : lw_okq (⟨"CreditfabricModel", "takes", "(I)I"⟩, 26) := ⟨⟨by decide +kernel, by decide +kernel⟩, List.mem_of_getElem? (i := 707) (by decide +kernel), List.mem_of_getElem? (i := 862) (by decide +kernel), List.mem_of_getElem? (i := 863) (by decide +kernel)⟩
theorem lw_p30 : lw_okq (⟨"CreditfabricModel", "inSwitch", "(I)I"⟩, 26) := ⟨⟨by decide +kernel, by decide +kernel⟩, List.mem_of_getElem? (i := 707) (by decide +kernel), List.mem_of_getElem? (i := 866) (by decide +kernel), List.mem_of_getElem? (i := 867) (by decide +kernel)⟩
theorem lw_p31 : lw_okq (⟨"CreditfabricModel", "isLink", "(II)Z"⟩, 26) := ⟨⟨by decide +kernel, by decide +kernel⟩, List.mem_of_getElem? (i := 707) (by decide +kernel), List.mem_of_getElem? (i := 878) (by decide +kernel), List.mem_of_getElem? (i := 879) (by decide +kernel)⟩
def lw_privs_2 : List (MethodName × Nat) := [(⟨"Creditfabric", "bufferBehind", "(III)I"⟩, 12), (⟨"Creditfabric", "checkPacket", "(I)V"⟩, 12), (⟨"CreditfabricModel", "begins", "(IIII)V"⟩, 26), (⟨"CreditfabricModel", "goes", "(ZZZ)Z"⟩, 26), (⟨"CreditfabricModel", "isSwitch", "(I)Z"⟩, 26), (⟨"CreditfabricModel", "puts", "(II)V"⟩, 26), (⟨"CreditfabricModel", "ticks", "()I"⟩, 26), (⟨"CreditfabricModel", "comeBack", "()V"⟩, 26), (⟨"CreditfabricModel", "neighbour", "(II)I"⟩, 26), (⟨"CreditfabricModel", "chooses", "(II)V"⟩, 26), (⟨"CreditfabricModel", "wanted", "(II)I"⟩, 26), (⟨"CreditfabricModel", "canGo", "(III)Z"⟩, 26), (⟨"CreditfabricModel", "leaves", "(II)V"⟩, 26), (⟨"CreditfabricModel", "takes", "(I)I"⟩, 26), (⟨"CreditfabricModel", "inSwitch", "(I)I"⟩, 26), (⟨"CreditfabricModel", "isLink", "(II)Z"⟩, 26)]
theorem lw_r2 : ∀ q ∈ lw_privs_2, lw_okq q := List.forall_mem_cons.mpr ⟨lw_p16, List.forall_mem_cons.mpr ⟨lw_p17, List.forall_mem_cons.mpr ⟨lw_p18, List.forall_mem_cons.mpr ⟨lw_p19, List.forall_mem_cons.mpr ⟨lw_p20, List.forall_mem_cons.mpr ⟨lw_p21, List.forall_mem_cons.mpr ⟨lw_p22, List.forall_mem_cons.mpr ⟨lw_p23, List.forall_mem_cons.mpr ⟨lw_p24, List.forall_mem_cons.mpr ⟨lw_p25, List.forall_mem_cons.mpr ⟨lw_p26, List.forall_mem_cons.mpr ⟨lw_p27, List.forall_mem_cons.mpr ⟨lw_p28, List.forall_mem_cons.mpr ⟨lw_p29, List.forall_mem_cons.mpr ⟨lw_p30, List.forall_mem_cons.mpr ⟨lw_p31, fun _ h => absurd h List.not_mem_nil⟩⟩⟩⟩⟩⟩⟩⟩⟩⟩⟩⟩⟩⟩⟩⟩
theorem lw_p32 : lw_okq (⟨"CreditfabricModel", "isPacket", "(I)Z"⟩, 26) := ⟨⟨by decide +kernel, by decide +kernel⟩, List.mem_of_getElem? (i := 707) (by decide +kernel), List.mem_of_getElem? (i := 914) (by decide +kernel), List.mem_of_getElem? (i := 915) (by decide +kernel)⟩
theorem lw_p33 : lw_okq (⟨"CreditfabricModel", "waitsFor", "(I)I"⟩, 26) := ⟨⟨by decide +kernel, by decide +kernel⟩, List.mem_of_getElem? (i := 707) (by decide +kernel), List.mem_of_getElem? (i := 934) (by decide +kernel), List.mem_of_getElem? (i := 935) (by decide +kernel)⟩
theorem lw_p34 : lw_okq (⟨"CreditfabricModel", "lays", "()V"⟩, 26) := ⟨⟨by decide +kernel, by decide +kernel⟩, List.mem_of_getElem? (i := 707) (by decide +kernel), List.mem_of_getElem? (i := 942) (by decide +kernel), List.mem_of_getElem? (i := 943) (by decide +kernel)⟩
def lw_privs_3 : List (MethodName × Nat) := [(⟨"CreditfabricModel", "isPacket", "(I)Z"⟩, 26), (⟨"CreditfabricModel", "waitsFor", "(I)I"⟩, 26), (⟨"CreditfabricModel", "lays", "()V"⟩, 26)]
theorem lw_r3 : ∀ q ∈ lw_privs_3, lw_okq q := List.forall_mem_cons.mpr ⟨lw_p32, List.forall_mem_cons.mpr ⟨lw_p33, List.forall_mem_cons.mpr ⟨lw_p34, fun _ h => absurd h List.not_mem_nil⟩⟩⟩
def lw_privs : List (MethodName × Nat) := lw_privs_1 ++ (lw_privs_2 ++ (lw_privs_3))
def lw_tbl : List Cond := k2_sels lw_privs ++ tables_1
theorem lw_privs_ok : ∀ q ∈ lw_privs, lw_okq q := by
  show ∀ q ∈ lw_privs_1 ++ (lw_privs_2 ++ (lw_privs_3)), lw_okq q
  exact List.forall_mem_append.mpr ⟨lw_r1, List.forall_mem_append.mpr ⟨lw_r2, lw_r3⟩⟩
-- ===== end of PART A; then your names; then what follows =====
end
section
/-! ===== BEGIN words of one list among another's, by their places ===== -/
theorem goodIn_r {big : List Cond} (ws : List Cond) (ps : List Nat) (hp : ws = ps.filterMap (fun i => big[i]?)) (h : ws.all goodWord = true) : GoodIn big ws := by
  intro w hw
  have h1 := List.all_eq_true.mp h w hw
  rw [hp] at hw
  obtain ⟨i, -, hi⟩ := List.mem_filterMap.mp hw
  have hm : w ∈ big := by first | exact List.mem_of_getElem? hi | exact List.getElem?_mem hi
  exact ⟨hm, good_of_word h1⟩
theorem goodIn_app {big a b : List Cond} (ha : GoodIn big a) (hb : GoodIn big b) : GoodIn big (a ++ b) := fun w h => (List.mem_append.mp h).elim (ha w) (hb w)
theorem goodIn_ca {big a b : List Cond} {c : Cond} (ha : GoodIn big (c :: a)) (hb : GoodIn big b) : GoodIn big (c :: (a ++ b)) := fun w h => (List.mem_cons.mp h).elim (fun e => ha w (List.mem_cons.mpr (Or.inl e))) (fun h => (List.mem_append.mp h).elim (fun h => ha w (List.mem_cons.mpr (Or.inr h))) (hb w))
theorem goodIn_sub {big ws : List Cond} (hm : ∀ w ∈ ws, w ∈ big) (h : ws.all goodWord = true) : GoodIn big ws := fun w hw => ⟨hm w hw, good_of_word (List.all_eq_true.mp h w hw)⟩
/-! ===== END ===== -/

/-! ===== BEGIN exceptions that leave a method, and their catching by the caller (launches without stack traces) ===== -/
section VXA
/-! The laws vx_back, vx_callV, vx_callS, vx_callSW, vx_throw0, vx_throwS follow proofs of the library, with one case more: JvmDerived/Free/Laws.lean (Back.of_free), Shelf42/LK1.lean (callV, callS), Shelf/KitTraced.lean (throwNew0V, throwNewS). -/
/-- where a method has thrown q: the class by its name, the cell, what was written, the world -/
def vx_T (XC : String → State → State → Prop) (st : State) (q : Addr) (t : State) (mc ms : Nat) (free : Addr → Prop) : Prop :=
  ∃ (E : String) (ce : Cell) (L : List Loc), XC E st t ∧ t.heap[q]? = some ce ∧ ce.vm = .none ∧ st.vm.findClass E = some ce.cls ∧ st.WarmedH t.vm ∧ st.sameButNew ({ t with vm := st.vm } : State) L mc ms ∧ ∀ z ∈ L, free z.base
def vx_Q (Qc : Array Value → State → Outcome → State → Prop) (XC : String → State → State → Prop) (mc ms : Nat) (free : Addr → Prop) : Array Value → State → Outcome → State → Prop := fun a st o t =>
  (Qc a st o t ∧ ∃ L, FrameEnd st o t L mc ms ∧ ∀ q ∈ L, free q.base) ∨ ∃ q, o = .threw q ∧ vx_T XC st q t mc ms free
/-- a callee that returns or throws -/
def vx_Met (l : Launch) (y : MethodName) (ws : List Cond) (rm : Room) (Pc : Array Value → State → Prop) (Qc : Array Value → State → Outcome → State → Prop) (XC : String → State → State → Prop) (mc ms : Nat) (free : Addr → Prop) : Prop :=
  MetFree l y (headSpec ws rm) Pc (fun _ _ _ _ _ => True) (vx_Q Qc XC mc ms free)
def vx_Post (XC : String → State → State → Prop) (mc ms : Nat) (free : Addr → Prop) : Pt → Array Value → Addr → Pt → Prop := fun A a q B =>
  ∃ (g : JFrame) (mk : MethodId) (t : State) (L : List Loc) (E : String) (ce : Cell), B.U.heap = t.heap ∧ B.U.vm = t.vm ∧ XC E (A.U.calling g mk a) t ∧ t.heap[q]? = some ce ∧ ce.vm = .none ∧ A.U.vm.findClass E = some ce.cls ∧ B.locs = A.locs ++ L ∧ (∀ z ∈ L, free z.base) ∧ B.cells = A.cells + mc ∧ B.slots = A.slots + ms
def vx_Back (l : Launch) (R : Room) (p : Program) (e : Env) (below : List Frame) (s : State) (sargs : Array Value) (y : MethodName) (len W9 : Nat)
    (Pre : Pt → Array Value → Prop) (Post : Pt → Array Value → Option Value → Pt → Prop) (PostX : Pt → Array Value → Addr → Pt → Prop) : Prop :=
  ∀ (m : MethodId) (meth : Method) (c : Code) (A : Pt) (g : JFrame) (ig : Instr) (mk : MethodId) (a : Array Value),
    Stand p l e R s m sargs below meth c A.U A.locs A.cells A.slots → g.method = m → g.locals.size = c.maxLocals → decode c.code g.pc = .ok (ig, len) →
    2 * g.monitorRoom + (g.stack.map fun v => v.category).sum ≤ W9 → A.U.methodNamed? y = some mk → Pre A a →
    (∃ (v : Option Value) (B : Pt), Stand p l e R s m sargs below meth c B.U B.locs B.cells B.slots ∧ Post A a v B ∧
      Steps p.tables e below (doInvoke e (A.U.setTop g) [] mk a).1 (B.U.setTop { g with pc := g.pc + len, stack := v.toList ++ g.stack })) ∨
    (∃ (q : Addr) (B : Pt), Stand p l e R s m sargs below meth c B.U B.locs B.cells B.slots ∧ PostX A a q B ∧
      Steps p.tables e below (doInvoke e (A.U.setTop g) [] mk a).1 ((B.U.setTop g).pushFrame (.throwing q)))
section Payer
variable {l : Launch} {R : Room} {p : Program} {e : Env} {below : List Frame} {s : State} {sargs : Array Value} {y : MethodName} {len W9 : Nat}
theorem vx_back {ws : List Cond} {rm : Room} {Pc : Array Value → State → Prop} {Qc : Array Value → State → Outcome → State → Prop} {XC : String → State → State → Prop} {mc ms : Nat} {free : Addr → Prop} {bytes : ByteArray} {maxL : Nat} {ret : Option FieldType}
    (hM : vx_Met l y ws rm Pc Qc XC mc ms free) (hblind : FrameBlind Pc) (hrc : rm.cells = mc) (hrs : rm.slots = ms)
    (hframes : rm.frames + 1 ≤ R.frames) (hlocals : W9 + (maxL + 11) + rm.locals ≤ R.locals)
    (hws : ∀ w ∈ ws, ∀ a' U, s.WarmedH U.vm → w.before a' U = true) (hcode : Cond.code y bytes maxL ret ∈ ws) (hinit : ∀ a' U, s.WarmedH U.vm → (Cond.initialized y.cls).before a' U = true) :
    vx_Back l R p e below s sargs y len W9 (PreOf R mc ms Pc) (PostOf Qc mc ms free) (vx_Post XC mc ms free) := by
  intro m meth c A g ig mk a X hg hsize hdg hW hn hp
  have h1 : (headSpec ws rm).pre.before a A.U = true := atoms_intro fun w hw => hws w hw _ _ X.warmed
  have h2 : (Cond.code y bytes maxL ret).before a A.U = true := hws _ hcode _ _ X.warmed
  have h3 : (Cond.initialized y.cls).before a A.U = true := hinit _ _ X.warmed
  have h4 : A.cells + (headSpec ws rm).room.cells ≤ R.cells := by rw [show (headSpec ws rm).room.cells = mc from hrc]; exact hp.1
  have h5 : A.slots + (headSpec ws rm).room.slots ≤ R.slots := by rw [show (headSpec ws rm).room.slots = ms from hrs]; exact hp.2.1
  have hPc : Pc a (A.U.calling g mk a) := hblind _ _ _ _ hp.2.2
  obtain ⟨U, Ls, c0, s0⟩ := A
  dsimp only [Pt.U, Pt.locs, Pt.cells, Pt.slots] at h1 h2 h3 h4 h5 X hn hPc ⊢
  obtain ⟨methY, cY, hmY, hcY, -, hlY, -, -, -, -⟩ := Cond.code_spec hn h2
  obtain ⟨kY, hkY, -⟩ := className_of_methodNamed hn
  have hinitY : kY.init = .initialized := Cond.initialized_spec (findClass_of_methodNamed hn) hkY h3
  have h : At U g.method c below := by rw [hg]; exact X.here
  have hlocals9 : W9 + (maxL + 11) + (headSpec ws rm).room.locals ≤ R.locals := hlocals
  have happ : (headSpec ws rm).appliesLoose y e.platform (U.calling g mk a) = true :=
    Spec.appliesLoose_calling (g := g) h hdg hn hkY hinitY
      (X.room_calling (g := g) (R' := (headSpec ws rm).room) hsize hmY hcY hframes (by rw [hlY]; omega) h4 h5) h1
  obtain ⟨mid, hmid⟩ := h.above
  have hfr : (U.setTop g).frames = (.java g :: mid) ++ below := by rw [State.frames_setTop' g h.top, hmid]; rfl
  obtain ⟨o, s₂, hsteps, -, hend, hq⟩ := Steps.callFree hM p X.admits X.cas X.clock (acts := []) hfr happ hPc trivial
  have hq' : vx_Q Qc XC mc ms free a (U.calling g mk a) o s₂ := hq
  rw [State.frames_setTop' g h.top] at hend
  obtain ⟨g₀, hg0⟩ := Option.isSome_iff_exists.mp h.top
  obtain ⟨r, hr⟩ := State.topJava?_eq_some.mp hg0
  have hr' : (({ U with heap := s₂.heap, slotsUsed := s₂.slotsUsed } : State).setVm s₂.vm).frames = .java g₀ :: r := hr
  rcases hq' with ⟨hqc, L, hfe, hL⟩ | ⟨q, rfl, E, ce, L, hx, hce, hcv, hcl, hW₂, hsm, hL⟩
  · obtain ⟨⟨v, rfl⟩, hW₂, e2, q2, q3, q4, q5, q6⟩ := id hfe
    have e3 : s₂ = ({ (U.calling g mk a).setFrames s₂.frames with heap := s₂.heap, slotsUsed := s₂.slotsUsed } : State).setVm s₂.vm := by
      have : s₂ = ({ s₂ with vm := (U.calling g mk a).vm } : State).setVm s₂.vm := rfl
      rw [e2] at this
      exact this
    obtain ⟨c₂, i₂, len₂, hc₂, hd₂, hf₂⟩ := hend
    have hW' : U.WarmedH s₂.vm := hW₂
    have hcc : c₂ = c := by
      have h1 : s₂.code? g.method = U.code? g.method := by
        rw [State.code?_eq, State.code?_eq, hW'.alike.method?]
      exact Option.some.inj (hc₂.symm.trans (h1.trans h.code))
    subst hcc
    have hlen : len₂ = len := by rw [hdg] at hd₂; cases hd₂; rfl
    subst hlen
    have hs₂ : s₂ = (({ U with heap := s₂.heap, slotsUsed := s₂.slotsUsed } : State).setVm s₂.vm).setTop { g with pc := g.pc + len₂, stack := v.toList ++ g.stack } := by
      refine e3.trans ?_
      rw [hf₂, State.calling_eq h.top, State.setFrames_setFrames, State.setTop_of_frames _ hr', hr]
      rfl
    have hsame : U.sameButNew ({ U with heap := s₂.heap, slotsUsed := s₂.slotsUsed } : State) L mc ms := by
      refine ⟨?_, q2, q3, q4, q5, q6⟩
      obtain ⟨t, ht, -⟩ := State.frames_cons hr
      show ({ U with heap := s₂.heap, slotsUsed := s₂.slotsUsed } : State) = { U.setFrames U.frames with heap := s₂.heap, slotsUsed := s₂.slotsUsed }
      rw [State.setFrames_self ht]
    subst hg
    refine Or.inl ⟨v, ⟨(({ U with heap := s₂.heap, slotsUsed := s₂.slotsUsed } : State).setVm s₂.vm), Ls ++ L, c0 + mc, s0 + ms⟩,
      ⟨X.admits, X.cas, X.clock, X.frames, X.room, X.hears, X.method, X.code, (X.here.setHeapUsed s₂.heap s₂.slotsUsed).setVm hW'.alike, X.tail, State.WarmedH.trans X.warmed hW', X.limits, X.bytes, X.same.trans (hsame.setVm s.vm)⟩,
      ⟨g, mk, s₂, L, rfl, rfl, hqc, rfl, hL, rfl, rfl⟩, ?_⟩
    show Steps p.tables e below _ ((({ U with heap := s₂.heap, slotsUsed := s₂.slotsUsed } : State).setVm s₂.vm).setTop { g with pc := g.pc + len₂, stack := v.toList ++ g.stack })
    rw [← hs₂]
    exact hsteps
  · obtain ⟨e2, q2, q3, q4, q5, q6⟩ := id hsm
    have e3 : s₂ = ({ (U.calling g mk a).setFrames s₂.frames with heap := s₂.heap, slotsUsed := s₂.slotsUsed } : State).setVm s₂.vm := by
      have : s₂ = ({ s₂ with vm := (U.calling g mk a).vm } : State).setVm s₂.vm := rfl
      rw [e2] at this
      exact this
    have hf₂ : s₂.frames = .throwing q :: .java g :: U.frames.tail := hend
    have hW' : U.WarmedH s₂.vm := hW₂
    have hs₂ : s₂ = ((({ U with heap := s₂.heap, slotsUsed := s₂.slotsUsed } : State).setVm s₂.vm).setTop g).pushFrame (.throwing q) := by
      refine e3.trans ?_
      rw [hf₂, State.calling_eq h.top, State.setFrames_setFrames, State.pushFrame, State.frames_setTop _ hr', State.setTop_of_frames _ hr', State.setFrames_setFrames, hr]
      rfl
    have hsame : U.sameButNew ({ U with heap := s₂.heap, slotsUsed := s₂.slotsUsed } : State) L mc ms := by
      refine ⟨?_, q2, q3, q4, q5, q6⟩
      obtain ⟨t, ht, -⟩ := State.frames_cons hr
      show ({ U with heap := s₂.heap, slotsUsed := s₂.slotsUsed } : State) = { U.setFrames U.frames with heap := s₂.heap, slotsUsed := s₂.slotsUsed }
      rw [State.setFrames_self ht]
    subst hg
    refine Or.inr ⟨q, ⟨(({ U with heap := s₂.heap, slotsUsed := s₂.slotsUsed } : State).setVm s₂.vm), Ls ++ L, c0 + mc, s0 + ms⟩,
      ⟨X.admits, X.cas, X.clock, X.frames, X.room, X.hears, X.method, X.code, (X.here.setHeapUsed s₂.heap s₂.slotsUsed).setVm hW'.alike, X.tail, State.WarmedH.trans X.warmed hW', X.limits, X.bytes, X.same.trans (hsame.setVm s.vm)⟩,
      ⟨g, mk, s₂, L, E, ce, rfl, rfl, hx, hce, hcv, hcl, rfl, hL, rfl, rfl⟩, ?_⟩
    show Steps p.tables e below _ (((({ U with heap := s₂.heap, slotsUsed := s₂.slotsUsed } : State).setVm s₂.vm).setTop g).pushFrame (.throwing q))
    rw [← hs₂]
    exact hsteps
end Payer
section Calls
variable {p : Program} {l : Launch} {e : Env} {R : Room} {s : State} {m : MethodId} {args : Array Value} {below : List Frame} {meth : Method} {c : Code} {T : State} {locs : List Loc} {cells slots : Nat}
theorem vx_callV (X : Stand p l e R s m args below meth c T locs cells slots) (hexec : p.tables.exec = Jvm.exec) {own C : String} {index : Nat} {y : MethodName} {bytes : ByteArray} {maxL : Nat} {ret : Option FieldType}
    (hown : s.vm.findClass own = some m.cls) (hlink : (Cond.methodLink own index y).before args s = true) (hinst : (Cond.instanceMethod y).before args s = true) (hsel : (Cond.selects C y y).before args s = true)
    (hcode : (Cond.code y bytes maxL ret).before args s = true) (hy : y.cls ≠ "java/lang/invoke/MethodHandle" ∧ y.cls ≠ "java/lang/invoke/VarHandle")
    {W9 : Nat} {Pre : Pt → Array Value → Prop} {Post : Pt → Array Value → Option Value → Pt → Prop} {PostX : Pt → Array Value → Addr → Pt → Prop} (hK : vx_Back l R p e below s args y 3 W9 Pre Post PostX)
    {b : Addr} {cellB : Cell} (hcell : T.heap[b]? = some cellB) (hobj : cellB.vm.isStatics = false) (hcls : s.vm.findClass C = some cellB.cls)
    {g : JFrame} (hg : g.method = m) (hsize : g.locals.size = c.maxLocals) {argsL rest : List Value} (hlen : ∀ sig, parseMethodDescriptor y.desc = some sig → argsL.length = sig.parameters.length)
    (hstack : g.stack = argsL.reverse ++ .ref b :: rest) (hW : 2 * g.monitorRoom + (rest.map fun v => v.category).sum ≤ W9) (hdg : decode c.code g.pc = .ok (.invokevirtual index, 3))
    (hpre : ∀ vm₁, s.WarmedH vm₁ → Pre ⟨T.setVm vm₁, locs, cells, slots⟩ (Value.ref b :: argsL).toArray) :
    (∃ (v : Option Value) (vm₁ : Vm) (B : Pt), s.WarmedH vm₁ ∧ Stand p l e R s m args below meth c B.U B.locs B.cells B.slots ∧ Post ⟨T.setVm vm₁, locs, cells, slots⟩ (Value.ref b :: argsL).toArray v B ∧
      ∀ target, Steps p.tables e below (B.U.setTop { g with pc := g.pc + 3, stack := v.toList ++ rest }) target → Steps p.tables e below (T.setTop g) target) ∨
    (∃ (q : Addr) (vm₁ : Vm) (B : Pt), s.WarmedH vm₁ ∧ Stand p l e R s m args below meth c B.U B.locs B.cells B.slots ∧ PostX ⟨T.setVm vm₁, locs, cells, slots⟩ (Value.ref b :: argsL).toArray q B ∧
      Steps p.tables e below (T.setTop g) ((B.U.setTop { g with stack := rest }).pushFrame (.throwing q))) := by
  obtain ⟨mk, methM, hnamed, hmethM, hstM, habM⟩ := Cond.instanceMethod_spec hinst
  obtain ⟨methM', cM, hmethM', -, -, -, -, -, -, hsigM⟩ := Cond.code_spec hnamed hcode
  cases hmethM.symm.trans hmethM'
  obtain ⟨c2, r2, m2, q1, q2, q3, q4, kP, hkP, hkPi⟩ := Cond.selects_spec hsel
  cases hcls.symm.trans q1
  cases (State.methodFound?_of_named hnamed hy).symm.trans q2
  cases hnamed.symm.trans q3
  have hselP : selectMethod e.platform s.vm cellB.cls mk = .method mk := by rw [Launch.admits_selectMethod X.admits]; exact q4
  obtain ⟨vm₁, X₁, hstep₁⟩ := X.invokevirtual hexec hown hlink hnamed hmethM hstM hkP hkPi hy (a := b) (cell := cellB) hcell
    (fun z h => by rw [h] at hobj; cases hobj) hselP hmethM habM hkP hkPi (g := g) hg (argsL := argsL) (rest := rest) (hlen _ hsigM) hstack hdg
  rcases hK m meth c ⟨T.setVm vm₁, locs, cells, slots⟩ { g with stack := rest } (.invokevirtual index) mk (Value.ref b :: argsL).toArray X₁ hg hsize hdg hW (X₁.named hnamed) (hpre vm₁ X₁.warmed) with ⟨v, B, X', hpost, hsteps⟩ | ⟨q, B, X', hpost, hsteps⟩
  · exact Or.inl ⟨v, vm₁, B, X₁.warmed, X', hpost, fun target h => hstep₁ _ fun acts => by rw [doInvoke_state]; exact hsteps.trans h⟩
  · exact Or.inr ⟨q, vm₁, B, X₁.warmed, X', hpost, hstep₁ _ fun acts => by rw [doInvoke_state]; exact hsteps⟩
theorem vx_callS (X : Stand p l e R s m args below meth c T locs cells slots) (hexec : p.tables.exec = Jvm.exec) {own : String} {index : Nat} {y : MethodName} {bytes : ByteArray} {maxL : Nat} {ret : Option FieldType}
    (hown : s.vm.findClass own = some m.cls) (hlink : (Cond.methodLink own index y).before args s = true) (hstat : (Cond.static y).before args s = true) (hinit : (Cond.initialized y.cls).before args s = true)
    (hcode : (Cond.code y bytes maxL ret).before args s = true) (hy : y.cls ≠ "java/lang/invoke/MethodHandle" ∧ y.cls ≠ "java/lang/invoke/VarHandle")
    {W9 : Nat} {Pre : Pt → Array Value → Prop} {Post : Pt → Array Value → Option Value → Pt → Prop} {PostX : Pt → Array Value → Addr → Pt → Prop} (hK : vx_Back l R p e below s args y 3 W9 Pre Post PostX)
    {g : JFrame} (hg : g.method = m) (hsize : g.locals.size = c.maxLocals) {argsL rest : List Value} (hlen : ∀ sig, parseMethodDescriptor y.desc = some sig → argsL.length = sig.parameters.length)
    (hstack : g.stack = argsL.reverse ++ rest) (hW : 2 * g.monitorRoom + (rest.map fun v => v.category).sum ≤ W9) (hdg : decode c.code g.pc = .ok (.invokestatic index, 3))
    (hpre : ∀ vm₁, s.WarmedH vm₁ → Pre ⟨T.setVm vm₁, locs, cells, slots⟩ argsL.toArray) :
    (∃ (v : Option Value) (vm₁ : Vm) (B : Pt), s.WarmedH vm₁ ∧ Stand p l e R s m args below meth c B.U B.locs B.cells B.slots ∧ Post ⟨T.setVm vm₁, locs, cells, slots⟩ argsL.toArray v B ∧
      ∀ target, Steps p.tables e below (B.U.setTop { g with pc := g.pc + 3, stack := v.toList ++ rest }) target → Steps p.tables e below (T.setTop g) target) ∨
    (∃ (q : Addr) (vm₁ : Vm) (B : Pt), s.WarmedH vm₁ ∧ Stand p l e R s m args below meth c B.U B.locs B.cells B.slots ∧ PostX ⟨T.setVm vm₁, locs, cells, slots⟩ argsL.toArray q B ∧
      Steps p.tables e below (T.setTop g) ((B.U.setTop { g with stack := rest }).pushFrame (.throwing q))) := by
  obtain ⟨mk, hnamed⟩ := Cond.code_named hcode
  obtain ⟨methM, cM, hmethM, -, -, -, -, -, -, hsigM⟩ := Cond.code_spec hnamed hcode
  have hstatic : methM.isStatic = true := Cond.static_spec hnamed hmethM hstat
  obtain ⟨kP, hkP, -⟩ := className_of_methodNamed hnamed
  have hinitP : kP.init = .initialized := Cond.initialized_spec (findClass_of_methodNamed hnamed) hkP hinit
  obtain ⟨vm₁, X₁, hstep₁⟩ := X.invokestatic hexec hown hlink hnamed hmethM hstatic hkP hinitP hy (g := g) hg (argsL := argsL) (rest := rest) (hlen _ hsigM) hstack hdg
  rcases hK m meth c ⟨T.setVm vm₁, locs, cells, slots⟩ { g with stack := rest } (.invokestatic index) mk argsL.toArray X₁ hg hsize hdg hW (X₁.named hnamed) (hpre vm₁ X₁.warmed) with ⟨v, B, X', hpost, hsteps⟩ | ⟨q, B, X', hpost, hsteps⟩
  · exact Or.inl ⟨v, vm₁, B, X₁.warmed, X', hpost, fun target h => hstep₁ _ fun acts => by rw [doInvoke_state]; exact hsteps.trans h⟩
  · exact Or.inr ⟨q, vm₁, B, X₁.warmed, X', hpost, hstep₁ _ fun acts => by rw [doInvoke_state]; exact hsteps⟩
end Calls
theorem vx_cls {s : State} {T : State} {vm₁ : Vm} {E : String} {k : ClassId} (hW : s.WarmedH vm₁) (h : (T.setVm vm₁).vm.findClass E = some k) : s.vm.findClass E = some k := by
  have h1 : vm₁.findClass E = some k := h
  rw [hW.alike.findClass] at h1
  exact h1
/-- the method's frame g, with q thrown over it -/
def vx_W (p : Program) (l : Launch) (e : Env) (R : Room) (s : State) (m : MethodId) (args : Array Value) (below : List Frame) (meth : Method) (c : Code) (H : Heap) (locs : List Loc) (cells slots : Nat) (Q : State → Prop) (g : JFrame) (q : Addr) : Prop :=
  ∀ T : State, T.heap = H → Stand p l e R s m args below meth c T locs cells slots → ∃ t, Steps p.tables e below ((T.setTop g).pushFrame (.throwing q)) t ∧ Q t
def vx_Run (p : Program) (l : Launch) (e : Env) (R : Room) (s : State) (m : MethodId) (args : Array Value) (below : List Frame) (meth : Method) (c : Code) (H : Heap) (locs : List Loc) (cells slots mc ms : Nat) (g : JFrame) (rest : List Value) (Qa : State → Outcome → State → Prop) (XC : String → State → State → Prop) (free : Addr → Prop) : Prop :=
  ∀ T : State, T.heap = H → Stand p l e R s m args below meth c T locs cells slots →
    (∃ (v : Option Value) (st₀ t T' : State) (L : List Loc), st₀.heap = H ∧ Stand p l e R s m args below meth c T' (locs ++ L) (cells + mc) (slots + ms) ∧ (∀ q ∈ L, free q.base) ∧ T'.heap = t.heap ∧ T'.vm = t.vm ∧ Qa st₀ (.returned v) t ∧
      Goes p e below T g T' { g with pc := g.pc + 3, stack := v.toList ++ rest }) ∨
    (∃ (q : Addr) (st₀ t T' : State) (L : List Loc) (E : String) (ce : Cell), st₀.heap = H ∧ Stand p l e R s m args below meth c T' (locs ++ L) (cells + mc) (slots + ms) ∧ (∀ z ∈ L, free z.base) ∧ T'.heap = t.heap ∧ T'.vm = t.vm ∧ XC E st₀ t ∧ t.heap[q]? = some ce ∧ ce.vm = .none ∧ s.vm.findClass E = some ce.cls ∧
      Steps p.tables e below (T.setTop g) ((T'.setTop { g with stack := rest }).pushFrame (.throwing q)))
def vx_X {S : Type} (px : S → Prop) (B : String → S → State → Prop) (A : Nat → Prop) : String → State → State → Prop := fun E st t => ∃ u : S, px u ∧ B E u t ∧ va_F A st t
section Runs
variable {p : Program} {l : Launch} {e : Env} {R : Room} {s : State} {m : MethodId} {args : Array Value} {below : List Frame} {meth : Method} {c : Code} {H : Heap} {locs : List Loc} {cells slots : Nat}
variable {y : MethodName} {bytes cc : ByteArray} {maxL nL mc ms n index : Nat} {ret : Option FieldType} {ws : List Cond} {rm : Room} {Pc : Array Value → State → Prop} {Qc : Array Value → State → Outcome → State → Prop} {XC : String → State → State → Prop} {free : Addr → Prop} {Ts : List Cond} {own C : String} {b : Addr} {As rest : List Value} {g : JFrame}
theorem vx_callBack (cb : CallB R s args own index y bytes maxL ret ws rm mc ms n) (hM : vx_Met l y ws rm Pc Qc XC mc ms free) (hbl : FrameBlind Pc) : vx_Back l R p e below s args y 3 8 (PreOf R mc ms Pc) (PostOf Qc mc ms free) (vx_Post XC mc ms free) := by
  obtain ⟨hrc, hrs, hfr, hlo, hws, hcw, -, hini, -⟩ := cb
  exact vx_back (bytes := bytes) (maxL := maxL) (ret := ret) hM hbl hrc hrs hfr hlo hws hcw (fun a' U hW => word_at hW (Or.inl (by first | rfl | simp [Cond.onTables, Cond.keeps, Cond.steady])) hini)
theorem vx_runV (S : CallFix p m c cc nL s args Ts own) (hM : vx_Met l y ws rm Pc Qc XC mc ms free) (cw : CallW R s args own C index y bytes maxL ret ws rm mc ms n) (hp : PreV s H C b Pc As)
    (hg : g.method = m) (hn : As.length = n) (hsize : g.locals.size = nL) (hstack : g.stack = As.reverse ++ .ref b :: rest) (hW : 2 * g.monitorRoom + (rest.map fun v => v.category).sum ≤ 8) (hdg : decode cc g.pc = .ok (.invokevirtual index, 3)) (hf : cells + mc ≤ R.cells ∧ slots + ms ≤ R.slots) :
    vx_Run p l e R s m args below meth c H locs cells slots mc ms g rest (Qc (Value.ref b :: As).toArray) XC free := by
  have hK : vx_Back l R p e below s args y 3 8 (PreOf R mc ms Pc) (PostOf Qc mc ms free) (vx_Post XC mc ms free) := vx_callBack cw.1 hM hp.1
  obtain ⟨⟨-, -, -, -, -, -, hcode, -, hy, hlen, hl⟩, hin, hse⟩ := cw
  obtain ⟨hx, hb, hml, ho, -⟩ := S
  obtain ⟨-, ⟨cellB, hcB, hoB, hclB⟩, hPc⟩ := hp
  intro T hT X
  rcases vx_callV X hx (C := C) (bytes := bytes) (maxL := maxL) (ret := ret) ho hl hin hse hcode hy hK (by rw [hT]; exact hcB) hoB hclB hg (hsize.trans hml.symm) (argsL := As) (rest := rest) (fun sig h => hn.trans (hlen sig h)) hstack hW (by rw [hb]; exact hdg)
    (fun vm₁ hW₁ => ⟨hf.1, hf.2, hPc (T.setVm vm₁) hT hW₁⟩) with ⟨v, vm₁, ⟨U', l2, c2, s2⟩, hW₁, X', ⟨g', mk, t, L, e1, e2, hq, h1, hL, h2, h3⟩, st⟩ | ⟨q, vm₁, ⟨U', l2, c2, s2⟩, hW₁, X', ⟨g', mk, t, L, E, ce, e1, e2, hq, hce, hcv, hcl, h1, hL, h2, h3⟩, st⟩
  · dsimp only [Pt.U, Pt.locs, Pt.cells, Pt.slots] at X' e1 e2 h1 h2 h3 st
    subst h1; subst h2; subst h3
    exact Or.inl ⟨v, (T.setVm vm₁).calling g' mk (Value.ref b :: As).toArray, t, U', L, hT, X', hL, e1, e2, hq, st⟩
  · dsimp only [Pt.U, Pt.locs, Pt.cells, Pt.slots] at X' e1 e2 h1 h2 h3 st hcl
    subst h1; subst h2; subst h3
    exact Or.inr ⟨q, (T.setVm vm₁).calling g' mk (Value.ref b :: As).toArray, t, U', L, E, ce, hT, X', hL, e1, e2, hq, hce, hcv, vx_cls hW₁ hcl, st⟩
theorem vx_runS (S : CallFix p m c cc nL s args Ts own) (hM : vx_Met l y ws rm Pc Qc XC mc ms free) (cw : CallB R s args own index y bytes maxL ret ws rm mc ms n ∧ (Cond.static y).before args s = true) (hp : PreS s H Pc As)
    (hg : g.method = m) (hn : As.length = n) (hsize : g.locals.size = nL) (hstack : g.stack = As.reverse ++ rest) (hW : 2 * g.monitorRoom + (rest.map fun v => v.category).sum ≤ 8) (hdg : decode cc g.pc = .ok (.invokestatic index, 3)) (hf : cells + mc ≤ R.cells ∧ slots + ms ≤ R.slots) :
    vx_Run p l e R s m args below meth c H locs cells slots mc ms g rest (Qc As.toArray) XC free := by
  have hK : vx_Back l R p e below s args y 3 8 (PreOf R mc ms Pc) (PostOf Qc mc ms free) (vx_Post XC mc ms free) := vx_callBack cw.1 hM hp.1
  obtain ⟨⟨-, -, -, -, -, -, hcode, hini, hy, hlen, hl⟩, hstt⟩ := cw
  obtain ⟨hx, hb, hml, ho, -⟩ := S
  intro T hT X
  rcases vx_callS X hx (bytes := bytes) (maxL := maxL) (ret := ret) ho hl hstt hini hcode hy hK hg (hsize.trans hml.symm) (argsL := As) (rest := rest) (fun sig h => hn.trans (hlen sig h)) hstack hW (by rw [hb]; exact hdg)
    (fun vm₁ hW₁ => ⟨hf.1, hf.2, hp.2 (T.setVm vm₁) hT hW₁⟩) with ⟨v, vm₁, ⟨U', l2, c2, s2⟩, hW₁, X', ⟨g', mk, t, L, e1, e2, hq, h1, hL, h2, h3⟩, st⟩ | ⟨q, vm₁, ⟨U', l2, c2, s2⟩, hW₁, X', ⟨g', mk, t, L, E, ce, e1, e2, hq, hce, hcv, hcl, h1, hL, h2, h3⟩, st⟩
  · dsimp only [Pt.U, Pt.locs, Pt.cells, Pt.slots] at X' e1 e2 h1 h2 h3 st
    subst h1; subst h2; subst h3
    exact Or.inl ⟨v, (T.setVm vm₁).calling g' mk As.toArray, t, U', L, hT, X', hL, e1, e2, hq, st⟩
  · dsimp only [Pt.U, Pt.locs, Pt.cells, Pt.slots] at X' e1 e2 h1 h2 h3 st hcl
    subst h1; subst h2; subst h3
    exact Or.inr ⟨q, (T.setVm vm₁).calling g' mk As.toArray, t, U', L, E, ce, hT, X', hL, e1, e2, hq, hce, hcv, vx_cls hW₁ hcl, st⟩
end Runs
section Rows
variable {p : Program} {l : Launch} {e : Env} {R : Room} {s : State} {m : MethodId} {args : Array Value} {below : List Frame} {meth : Method} {c : Code} {H : Heap} {locs : List Loc} {cells slots : Nat} {Q : State → Prop}
variable {mc ms : Nat} {free : Addr → Prop} {A0 A1 : Nat → Prop} {H0 : Heap} {a : Array Value} {pc : Nat} {ls : Array Slot} {st0 rest : List Value}
theorem vx_keep {st₀ t T' : State} {L : List Loc} (h0 : st₀.heap = H) (e1 : T'.heap = t.heap) (hS : va_S A0 H0 H locs) (hA : ∀ q, q < H.size → A1 q → A0 q) (hf : ∀ q, free q → A0 q) (hL : ∀ q ∈ L, free q.base) (hF : va_F A1 st₀ t) :
    H.size ≤ T'.heap.size ∧ (∀ q : Nat, q < H.size → ¬ A1 q → T'.heap[q]? = H[q]?) ∧ va_S A0 H0 T'.heap (locs ++ L) := by
  obtain ⟨hz, hk⟩ := hF
  rw [h0] at hz hk
  exact ⟨by rw [e1]; exact hz, fun q h1 h2 => by rw [e1]; exact hk q h1 h2,
    ⟨Nat.le_trans hS.1 (by rw [e1]; exact hz), fun q h1 h2 => by rw [e1, hk q (Nat.lt_of_lt_of_le h1 hS.1) (fun z => h2 (hA q (Nat.lt_of_lt_of_le h1 hS.1) z))]; exact hS.2.1 q h1 h2, fun q hq => by
      rcases List.mem_append.mp hq with h | h
      · exact hS.2.2 q h
      · exact hf _ (hL q h)⟩⟩
theorem vx_calli {S SX : Type} {post : Int32 → S → Prop} {px : SX → Prop} {B : S → State → Prop} {BX : String → SX → State → Prop} {AX : Nat → Prop} (hr : vx_Run p l e R s m args below meth c H locs cells slots mc ms (F0 m pc ls st0) rest (va_Qi post B A1 a) (vx_X px BX AX) free) (hS : va_S A0 H0 H locs) (hA : ∀ q, q < H.size → A1 q → A0 q) (hf : ∀ q, free q → A0 q) (hAX : ∀ q, q < H.size → AX q → A0 q)
    (kx : ∀ (E : String) (ce : Cell) (q9 : Addr) (u : SX) (t : State) (H1 : Heap) (locs1 : List Loc), t.heap = H1 → s.vm.Alike t.vm → px u → BX E u t → H.size ≤ H1.size → (∀ q : Nat, q < H.size → ¬ AX q → H1[q]? = H[q]?) → va_S A0 H0 H1 locs1 → H1[q9]? = some ce → ce.vm = .none → s.vm.findClass E = some ce.cls → vx_W p l e R s m args below meth c H1 locs1 (cells + mc) (slots + ms) Q (F0 m pc ls rest) q9)
    (kk : ∀ (r : Int32) (u : S) (t : State) (H1 : Heap) (locs1 : List Loc), t.heap = H1 → s.vm.Alike t.vm → post r u → B u t → H.size ≤ H1.size → (∀ q : Nat, q < H.size → ¬ A1 q → H1[q]? = H[q]?) → va_S A0 H0 H1 locs1 → W p l e R s m args below meth c H1 locs1 (cells + mc) (slots + ms) Q (F0 m (pc + 3) ls (.int r :: rest))) : W p l e R s m args below meth c H locs cells slots Q (F0 m pc ls st0) := by
  intro T hT X
  rcases hr T hT X with ⟨v, st₀, t, T', L, h0, X', hL, e1, e2, ⟨⟨r, u, hv, hp, hb⟩, hF⟩, st⟩ | ⟨q, st₀, t, T', L, E, ce, h0, X', hL, e1, e2, ⟨u, hp, hb, hF⟩, hce, hcv, hcl, st⟩
  · cases hv
    obtain ⟨k1, k2, k3⟩ := vx_keep h0 e1 hS hA hf hL hF
    obtain ⟨t2, a1, b1⟩ := kk r u t T'.heap (locs ++ L) e1.symm (by rw [← e2]; exact X'.warmed.alike) hp hb k1 k2 k3 T' rfl X'
    exact ⟨t2, st t2 a1, b1⟩
  · obtain ⟨k1, k2, k3⟩ := vx_keep h0 e1 hS hAX hf hL hF
    obtain ⟨t2, a1, b1⟩ := kx E ce q u t T'.heap (locs ++ L) e1.symm (by rw [← e2]; exact X'.warmed.alike) hp hb k1 k2 k3 (by rw [e1]; exact hce) hcv hcl T' rfl X'
    exact ⟨t2, st.trans a1, b1⟩
theorem vx_calll {S SX : Type} {post : Int64 → S → Prop} {px : SX → Prop} {B : S → State → Prop} {BX : String → SX → State → Prop} {AX : Nat → Prop} (hr : vx_Run p l e R s m args below meth c H locs cells slots mc ms (F0 m pc ls st0) rest (va_Ql post B A1 a) (vx_X px BX AX) free) (hS : va_S A0 H0 H locs) (hA : ∀ q, q < H.size → A1 q → A0 q) (hf : ∀ q, free q → A0 q) (hAX : ∀ q, q < H.size → AX q → A0 q)
    (kx : ∀ (E : String) (ce : Cell) (q9 : Addr) (u : SX) (t : State) (H1 : Heap) (locs1 : List Loc), t.heap = H1 → s.vm.Alike t.vm → px u → BX E u t → H.size ≤ H1.size → (∀ q : Nat, q < H.size → ¬ AX q → H1[q]? = H[q]?) → va_S A0 H0 H1 locs1 → H1[q9]? = some ce → ce.vm = .none → s.vm.findClass E = some ce.cls → vx_W p l e R s m args below meth c H1 locs1 (cells + mc) (slots + ms) Q (F0 m pc ls rest) q9)
    (kk : ∀ (r : Int64) (u : S) (t : State) (H1 : Heap) (locs1 : List Loc), t.heap = H1 → s.vm.Alike t.vm → post r u → B u t → H.size ≤ H1.size → (∀ q : Nat, q < H.size → ¬ A1 q → H1[q]? = H[q]?) → va_S A0 H0 H1 locs1 → W p l e R s m args below meth c H1 locs1 (cells + mc) (slots + ms) Q (F0 m (pc + 3) ls (.long r :: rest))) : W p l e R s m args below meth c H locs cells slots Q (F0 m pc ls st0) := by
  intro T hT X
  rcases hr T hT X with ⟨v, st₀, t, T', L, h0, X', hL, e1, e2, ⟨⟨r, u, hv, hp, hb⟩, hF⟩, st⟩ | ⟨q, st₀, t, T', L, E, ce, h0, X', hL, e1, e2, ⟨u, hp, hb, hF⟩, hce, hcv, hcl, st⟩
  · cases hv
    obtain ⟨k1, k2, k3⟩ := vx_keep h0 e1 hS hA hf hL hF
    obtain ⟨t2, a1, b1⟩ := kk r u t T'.heap (locs ++ L) e1.symm (by rw [← e2]; exact X'.warmed.alike) hp hb k1 k2 k3 T' rfl X'
    exact ⟨t2, st t2 a1, b1⟩
  · obtain ⟨k1, k2, k3⟩ := vx_keep h0 e1 hS hAX hf hL hF
    obtain ⟨t2, a1, b1⟩ := kx E ce q u t T'.heap (locs ++ L) e1.symm (by rw [← e2]; exact X'.warmed.alike) hp hb k1 k2 k3 (by rw [e1]; exact hce) hcv hcl T' rfl X'
    exact ⟨t2, st.trans a1, b1⟩
theorem vx_callf {S SX : Type} {post : UInt32 → S → Prop} {px : SX → Prop} {B : S → State → Prop} {BX : String → SX → State → Prop} {AX : Nat → Prop} (hr : vx_Run p l e R s m args below meth c H locs cells slots mc ms (F0 m pc ls st0) rest (va_Qf post B A1 a) (vx_X px BX AX) free) (hS : va_S A0 H0 H locs) (hA : ∀ q, q < H.size → A1 q → A0 q) (hf : ∀ q, free q → A0 q) (hAX : ∀ q, q < H.size → AX q → A0 q)
    (kx : ∀ (E : String) (ce : Cell) (q9 : Addr) (u : SX) (t : State) (H1 : Heap) (locs1 : List Loc), t.heap = H1 → s.vm.Alike t.vm → px u → BX E u t → H.size ≤ H1.size → (∀ q : Nat, q < H.size → ¬ AX q → H1[q]? = H[q]?) → va_S A0 H0 H1 locs1 → H1[q9]? = some ce → ce.vm = .none → s.vm.findClass E = some ce.cls → vx_W p l e R s m args below meth c H1 locs1 (cells + mc) (slots + ms) Q (F0 m pc ls rest) q9)
    (kk : ∀ (r : UInt32) (u : S) (t : State) (H1 : Heap) (locs1 : List Loc), t.heap = H1 → s.vm.Alike t.vm → post r u → B u t → H.size ≤ H1.size → (∀ q : Nat, q < H.size → ¬ A1 q → H1[q]? = H[q]?) → va_S A0 H0 H1 locs1 → W p l e R s m args below meth c H1 locs1 (cells + mc) (slots + ms) Q (F0 m (pc + 3) ls (.float r :: rest))) : W p l e R s m args below meth c H locs cells slots Q (F0 m pc ls st0) := by
  intro T hT X
  rcases hr T hT X with ⟨v, st₀, t, T', L, h0, X', hL, e1, e2, ⟨⟨r, u, hv, hp, hb⟩, hF⟩, st⟩ | ⟨q, st₀, t, T', L, E, ce, h0, X', hL, e1, e2, ⟨u, hp, hb, hF⟩, hce, hcv, hcl, st⟩
  · cases hv
    obtain ⟨k1, k2, k3⟩ := vx_keep h0 e1 hS hA hf hL hF
    obtain ⟨t2, a1, b1⟩ := kk r u t T'.heap (locs ++ L) e1.symm (by rw [← e2]; exact X'.warmed.alike) hp hb k1 k2 k3 T' rfl X'
    exact ⟨t2, st t2 a1, b1⟩
  · obtain ⟨k1, k2, k3⟩ := vx_keep h0 e1 hS hAX hf hL hF
    obtain ⟨t2, a1, b1⟩ := kx E ce q u t T'.heap (locs ++ L) e1.symm (by rw [← e2]; exact X'.warmed.alike) hp hb k1 k2 k3 (by rw [e1]; exact hce) hcv hcl T' rfl X'
    exact ⟨t2, st.trans a1, b1⟩
theorem vx_calld {S SX : Type} {post : UInt64 → S → Prop} {px : SX → Prop} {B : S → State → Prop} {BX : String → SX → State → Prop} {AX : Nat → Prop} (hr : vx_Run p l e R s m args below meth c H locs cells slots mc ms (F0 m pc ls st0) rest (va_Qd post B A1 a) (vx_X px BX AX) free) (hS : va_S A0 H0 H locs) (hA : ∀ q, q < H.size → A1 q → A0 q) (hf : ∀ q, free q → A0 q) (hAX : ∀ q, q < H.size → AX q → A0 q)
    (kx : ∀ (E : String) (ce : Cell) (q9 : Addr) (u : SX) (t : State) (H1 : Heap) (locs1 : List Loc), t.heap = H1 → s.vm.Alike t.vm → px u → BX E u t → H.size ≤ H1.size → (∀ q : Nat, q < H.size → ¬ AX q → H1[q]? = H[q]?) → va_S A0 H0 H1 locs1 → H1[q9]? = some ce → ce.vm = .none → s.vm.findClass E = some ce.cls → vx_W p l e R s m args below meth c H1 locs1 (cells + mc) (slots + ms) Q (F0 m pc ls rest) q9)
    (kk : ∀ (r : UInt64) (u : S) (t : State) (H1 : Heap) (locs1 : List Loc), t.heap = H1 → s.vm.Alike t.vm → post r u → B u t → H.size ≤ H1.size → (∀ q : Nat, q < H.size → ¬ A1 q → H1[q]? = H[q]?) → va_S A0 H0 H1 locs1 → W p l e R s m args below meth c H1 locs1 (cells + mc) (slots + ms) Q (F0 m (pc + 3) ls (.double r :: rest))) : W p l e R s m args below meth c H locs cells slots Q (F0 m pc ls st0) := by
  intro T hT X
  rcases hr T hT X with ⟨v, st₀, t, T', L, h0, X', hL, e1, e2, ⟨⟨r, u, hv, hp, hb⟩, hF⟩, st⟩ | ⟨q, st₀, t, T', L, E, ce, h0, X', hL, e1, e2, ⟨u, hp, hb, hF⟩, hce, hcv, hcl, st⟩
  · cases hv
    obtain ⟨k1, k2, k3⟩ := vx_keep h0 e1 hS hA hf hL hF
    obtain ⟨t2, a1, b1⟩ := kk r u t T'.heap (locs ++ L) e1.symm (by rw [← e2]; exact X'.warmed.alike) hp hb k1 k2 k3 T' rfl X'
    exact ⟨t2, st t2 a1, b1⟩
  · obtain ⟨k1, k2, k3⟩ := vx_keep h0 e1 hS hAX hf hL hF
    obtain ⟨t2, a1, b1⟩ := kx E ce q u t T'.heap (locs ++ L) e1.symm (by rw [← e2]; exact X'.warmed.alike) hp hb k1 k2 k3 (by rw [e1]; exact hce) hcv hcl T' rfl X'
    exact ⟨t2, st.trans a1, b1⟩
theorem vx_callv {S SX : Type} {post : S → Prop} {px : SX → Prop} {B : S → State → Prop} {BX : String → SX → State → Prop} {AX : Nat → Prop} (hr : vx_Run p l e R s m args below meth c H locs cells slots mc ms (F0 m pc ls st0) rest (va_Qv post B A1 a) (vx_X px BX AX) free) (hS : va_S A0 H0 H locs) (hA : ∀ q, q < H.size → A1 q → A0 q) (hf : ∀ q, free q → A0 q) (hAX : ∀ q, q < H.size → AX q → A0 q)
    (kx : ∀ (E : String) (ce : Cell) (q9 : Addr) (u : SX) (t : State) (H1 : Heap) (locs1 : List Loc), t.heap = H1 → s.vm.Alike t.vm → px u → BX E u t → H.size ≤ H1.size → (∀ q : Nat, q < H.size → ¬ AX q → H1[q]? = H[q]?) → va_S A0 H0 H1 locs1 → H1[q9]? = some ce → ce.vm = .none → s.vm.findClass E = some ce.cls → vx_W p l e R s m args below meth c H1 locs1 (cells + mc) (slots + ms) Q (F0 m pc ls rest) q9)
    (kk : ∀ (u : S) (t : State) (H1 : Heap) (locs1 : List Loc), t.heap = H1 → s.vm.Alike t.vm → post u → B u t → H.size ≤ H1.size → (∀ q : Nat, q < H.size → ¬ A1 q → H1[q]? = H[q]?) → va_S A0 H0 H1 locs1 → W p l e R s m args below meth c H1 locs1 (cells + mc) (slots + ms) Q (F0 m (pc + 3) ls (rest))) : W p l e R s m args below meth c H locs cells slots Q (F0 m pc ls st0) := by
  intro T hT X
  rcases hr T hT X with ⟨v, st₀, t, T', L, h0, X', hL, e1, e2, ⟨⟨u, hv, hp, hb⟩, hF⟩, st⟩ | ⟨q, st₀, t, T', L, E, ce, h0, X', hL, e1, e2, ⟨u, hp, hb, hF⟩, hce, hcv, hcl, st⟩
  · cases hv
    obtain ⟨k1, k2, k3⟩ := vx_keep h0 e1 hS hA hf hL hF
    obtain ⟨t2, a1, b1⟩ := kk u t T'.heap (locs ++ L) e1.symm (by rw [← e2]; exact X'.warmed.alike) hp hb k1 k2 k3 T' rfl X'
    exact ⟨t2, st t2 a1, b1⟩
  · obtain ⟨k1, k2, k3⟩ := vx_keep h0 e1 hS hAX hf hL hF
    obtain ⟨t2, a1, b1⟩ := kx E ce q u t T'.heap (locs ++ L) e1.symm (by rw [← e2]; exact X'.warmed.alike) hp hb k1 k2 k3 (by rw [e1]; exact hce) hcv hcl T' rfl X'
    exact ⟨t2, st.trans a1, b1⟩
/-- caught by the row x of this method's table; the rows ahead don't take it -/
theorem vx_catch {own name : String} {E : String} {ce : Cell} {q : Addr} (hown : s.vm.findClass own = some m.cls) (pre : List ExceptionTableEntry) (x : ExceptionTableEntry) (suf : List ExceptionTableEntry) (hsplit : c.exceptionTable.toList = pre ++ x :: suf)
    (hpass : ∀ z ∈ pre, covers z pc = false ∨ (z.catchType ≠ 0 ∧ ∃ nm : String, (Cond.classLink own z.catchType nm).before args s = true ∧ va_Nc E nm s)) (hx : covers x pc = true) (h0 : x.catchType ≠ 0)
    (hlink : (Cond.classLink own x.catchType name).before args s = true) (hcast : (Cond.castable E name).before args s = true) (hcell : H[q]? = some ce) (hv : ce.vm = .none) (hcl : s.vm.findClass E = some ce.cls)
    (kk : W p l e R s m args below meth c H locs cells slots Q (F0 m x.handlerPc ls [.ref q])) : vx_W p l e R s m args below meth c H locs cells slots Q (F0 m pc ls rest) q := by
  intro T hT X
  have hpl : e.platform.magicAccessors = ({} : Platform).magicAccessors := by rw [X.admits.platform]
  obtain ⟨c3, c4, hc3, hc4, hasg⟩ := Cond.castable_spec hcast
  cases Option.some.inj (hc3.symm.trans hcl)
  obtain ⟨c5, hc5, hcl5⟩ := Cond.classLink_spec hown hlink e.platform hpl
  cases Option.some.inj (hc4.symm.trans hc5)
  obtain ⟨vm', X', st⟩ := X.thenCaughtThrough q (g := F0 m pc ls rest) rfl (Steps.refl _) (by rw [hT]; exact hcell) (by rw [hv]; rfl) (by obtain ⟨k9, h9, -⟩ := Vm.findClass_spec hcl; exact ⟨k9, h9⟩) pre x suf hsplit
    (fun z hz => by
      rcases hpass z hz with h | ⟨hz0, nm, hl1, hn1⟩
      · exact Or.inl h
      · obtain ⟨c6, hc6, hcl6⟩ := Cond.classLink_spec hown hl1 e.platform hpl
        obtain ⟨a8, b8, h1, h2, h3⟩ := hn1
        cases Option.some.inj (h1.symm.trans hcl)
        cases Option.some.inj (h2.symm.trans hc6)
        exact Or.inr ⟨hz0, _, hcl6, h3⟩) hx (Or.inr ⟨h0, c4, hcl5, hasg⟩)
  obtain ⟨t, a1, b1⟩ := kk (T.setVm vm') hT X'
  exact ⟨t, st.trans a1, b1⟩
end Rows
section Ends
variable {p : Program} {l : Launch} {e : Env} {R : Room} {s : State} {m : MethodId} {args : Array Value} {below : List Frame} {meth : Method} {c : Code} {H : Heap} {locs : List Loc} {cells slots : Nat} {Q : State → Prop}
variable {mc ms : Nat} {free : Addr → Prop} {A0 A1 : Nat → Prop} {H0 : Heap} {a : Array Value} {ls : Array Slot} {st0 rest : List Value}
variable {Qc : Array Value → State → Outcome → State → Prop} {XC : String → State → State → Prop}
/-- what a body that may throw owes at its end -/
def vx_MQ (below : List Frame) (Qc : Array Value → State → Outcome → State → Prop) (XC : String → State → State → Prop) (a : Array Value) (s : State) (mc ms : Nat) (free : Addr → Prop) : State → Prop := fun t =>
  ∃ o, t.status = .running ∧ Ended t below o ∧ vx_Q Qc XC mc ms free a s o t
theorem vx_ret {g : JFrame} {mc ms : Nat} (k : W p l e R s m args below meth c H locs cells slots (MQ below Qc args s mc ms free) g) : W p l e R s m args below meth c H locs cells slots (vx_MQ below Qc XC args s mc ms free) g := by
  intro T hT X
  obtain ⟨t, a1, o, b1, b2, b3, b4⟩ := k T hT X
  exact ⟨t, a1, o, b1, b2, Or.inl ⟨b3, b4⟩⟩
/-- not caught here: it goes on to the caller -/
theorem vx_widen {g : JFrame} {q : Addr} {k n : Nat} (h1 : cells ≤ k) (h2 : slots ≤ n) (kk : vx_W p l e R s m args below meth c H locs k n Q g q) : vx_W p l e R s m args below meth c H locs cells slots Q g q := fun T hT X => kk T hT (stand_widen X h1 h2)
theorem vx_out {pc : Nat} {E : String} {ce : Cell} {q : Addr} {mc ms : Nat} (hout : ∀ x ∈ c.exceptionTable.toList, covers x pc = false) (hlocks : meth.locks = false) (hcell : H[q]? = some ce) (hv : ce.vm = .none) (hcl : s.vm.findClass E = some ce.cls)
    (hx : ∀ t : State, t.heap = H → s.vm.Alike t.vm → XC E s t) (hf : ∀ z ∈ locs, free z.base) (hc : cells ≤ mc) (hs : slots ≤ ms) :
    vx_W p l e R s m args below meth c H locs cells slots (vx_MQ below Qc XC args s mc ms free) (F0 m pc ls rest) q := by
  intro T hT X
  obtain ⟨st1, hrun, hend, hW, hsm⟩ := X.leaveThrown q (g := F0 m pc ls rest) rfl rfl rfl hout hlocks
  have hcell9 : (T.setFrames (.throwing q :: below)).heap[q]? = some ce := by
    show T.heap[q]? = some ce
    rw [hT]; exact hcell
  exact ⟨_, st1, .threw q, hrun, hend, Or.inr ⟨q, rfl, E, ce, locs, hx _ hT hW.alike, hcell9, hv, hcl, hW, hsm.mono hc hs, hf⟩⟩
theorem vx_frame {U : State} {k n : Nat} (h : s.sameButNew ({ U with vm := s.vm } : State) locs k n) : s.heap.size ≤ U.heap.size ∧ ∀ q : Nat, q < s.heap.size → (∀ z ∈ locs, z.base ≠ q) → U.heap[q]? = s.heap[q]? := by
  obtain ⟨-, h2, -, -, -, h6⟩ := h
  refine ⟨h2, fun q hq hz => ?_⟩
  obtain ⟨c9, e1, e2, e3, e4⟩ := h6 q _ (Array.getElem?_eq_getElem hq)
  have hs : c9.slots = (s.heap[q]).slots := Array.ext_getElem? fun i => e4 i fun hm => hz _ hm rfl
  have h9 : c9 = s.heap[q] := by
    rw [hs] at e2
    exact e2
  have e5 : U.heap[q]? = some c9 := e1
  rw [e5, h9, Array.getElem?_eq_getElem hq]
/-- the words of a throw but the four that speak of the heap -/
def vx_no (w : Cond) : Bool := decide (w ≠ .isRef (.static Bundle.tN "UNASSIGNED_STACK" Bundle.steD)) && decide (w ≠ .isRef (.static Bundle.tN "SUPPRESSED_SENTINEL" Bundle.listD)) && decide (w ≠ .laysStatic Bundle.tN "UNASSIGNED_STACK" Bundle.steD) && decide (w ≠ .laysStatic Bundle.tN "SUPPRESSED_SENTINEL" Bundle.listD)
def vx_at0 (own : String) (ic : Nat) (X : String) (names : List String) : List Cond := (Bundle.ownAtoms0 own ic X names).filter vx_no
def vx_atS (own : String) (ic : Nat) (X : String) (names : List String) : List Cond := (Bundle.ownAtoms own ic X names).filter vx_no
/-- a word that the tables alone decide, or a good one -/
def vx_ot (w : Cond) : Bool := w.onTables || goodWord w
theorem vx_ot_at {args a' : Array Value} {s U : State} {w : Cond} (hW : s.WarmedH U.vm) (hvm : s.vm = U.vm) (hg : vx_ot w = true) (h : w.before args s = true) : w.before a' U = true := by
  simp only [vx_ot, Bool.or_eq_true] at hg
  rcases hg with hg | hg
  · exact va_tabs hg hvm h
  · exact word_at hW (good_of_word hg) h
/-- a list's words: the good ones out of the method's own list, the others by premises of their own -/
theorem vx_hat {args : Array Value} {s : State} {L B : List Cond} (h1 : ∀ w ∈ L.filter goodWord, w.before args s = true) (h2 : ∀ w ∈ L.filter (fun w => !goodWord w), w ∈ B) (h3 : ∀ w ∈ B, w.before args s = true) : ∀ w ∈ L, w.before args s = true := by
  intro w hw
  by_cases g : goodWord w = true
  · exact h1 w (List.mem_filter.mpr ⟨hw, g⟩)
  · refine h3 w (h2 w (List.mem_filter.mpr ⟨hw, ?_⟩))
    show (!goodWord w) = true
    cases hgw : goodWord w
    · rfl
    · exact absurd hgw g
theorem vx_c {args : Array Value} {s : State} {w : Cond} {B : List Cond} (h : w.before args s = true) (t : ∀ w ∈ B, w.before args s = true) : ∀ w' ∈ w :: B, w'.before args s = true := fun w' h' => (List.mem_cons.mp h').elim (fun e => by rw [e]; exact h) (t w')
theorem vx_n {args : Array Value} {s : State} : ∀ w ∈ ([] : List Cond), w.before args s = true := fun _ h => nomatch h
theorem vx_own {args : Array Value} {s : State} {L : List Cond} (h1 : ∀ w ∈ L.filter vx_no, w.before args s = true)
    (hU : (Cond.isRef (.static Bundle.tN "UNASSIGNED_STACK" Bundle.steD)).before args s = true) (hN : (Cond.isRef (.static Bundle.tN "SUPPRESSED_SENTINEL" Bundle.listD)).before args s = true)
    (lU : (Cond.laysStatic Bundle.tN "UNASSIGNED_STACK" Bundle.steD).before args s = true) (lN : (Cond.laysStatic Bundle.tN "SUPPRESSED_SENTINEL" Bundle.listD).before args s = true) : ∀ w ∈ L, w.before args s = true := by
  intro w hw
  by_cases e1 : w = .isRef (.static Bundle.tN "UNASSIGNED_STACK" Bundle.steD)
  · rw [e1]; exact hU
  · by_cases e2 : w = .isRef (.static Bundle.tN "SUPPRESSED_SENTINEL" Bundle.listD)
    · rw [e2]; exact hN
    · by_cases e3 : w = .laysStatic Bundle.tN "UNASSIGNED_STACK" Bundle.steD
      · rw [e3]; exact lU
      · by_cases e4 : w = .laysStatic Bundle.tN "SUPPRESSED_SENTINEL" Bundle.listD
        · rw [e4]; exact lN
        · exact h1 w (List.mem_filter.mpr ⟨hw, by unfold vx_no; rw [decide_eq_true e1, decide_eq_true e2, decide_eq_true e3, decide_eq_true e4]; rfl⟩)
/-- where a static field lies, its class's statics cell in H -/
def vx_L (C n d : String) (A : Nat → Prop) (U : State) (H : Heap) : Prop := ∃ (c : ClassId) (k : Class) (i : Nat) (f : Field) (a : Nat) (cell : Cell), U.vm.findClass C = some c ∧ U.fieldFound? C n d = some (c, k, i, f) ∧ f.isStatic = true ∧ k.statics = some a ∧ H[a]? = some cell ∧ cell.vm.isStatics = true ∧ cell.cls = c ∧ f.slot < cell.slots.size ∧ k.staticTypes[f.slot]? = some f.type ∧ ¬ A a
theorem vx_L.moved {C n d : String} {A : Nat → Prop} {u U : State} {H : Heap} (hvm : u.vm.Alike U.vm) (h : vx_L C n d A u H) : vx_L C n d A U H := by
  obtain ⟨c, k, i, f, a, cell, h1, h2, h3, h4, h5, h6, h7, h8, h9, h10⟩ := h
  obtain ⟨k', hi', he⟩ := State.fieldFound?_setVm hvm h2
  exact ⟨c, k', i, f, a, cell, by rw [hvm.findClass]; exact h1, hi', h3, by rw [he]; exact h4, h5, h6, h7, h8, by rw [he]; exact h9, h10⟩
theorem vx_L.kept {C n d : String} {A : Nat → Prop} {U : State} {H H1 : Heap} (h : vx_L C n d A U H) (hq : ∀ a : Nat, a < H.size → ¬ A a → H1[a]? = H[a]?) : vx_L C n d A U H1 := by
  obtain ⟨c, k, i, f, a, cell, h1, h2, h3, h4, h5, h6, h7, h8, h9, h10⟩ := h
  exact ⟨c, k, i, f, a, cell, h1, h2, h3, h4, by rw [hq a (Array.getElem?_eq_some_iff.mp h5).1 h10]; exact h5, h6, h7, h8, h9, h10⟩
theorem vx_L.narrow {C n d : String} {A B : Nat → Prop} {U : State} {H : Heap} (h : vx_L C n d A U H) (hAB : ∀ q, B q → A q) : vx_L C n d B U H := by
  obtain ⟨c, k, i, f, a, cell, h1, h2, h3, h4, h5, h6, h7, h8, h9, h10⟩ := h
  exact ⟨c, k, i, f, a, cell, h1, h2, h3, h4, h5, h6, h7, h8, h9, fun z => h10 (hAB _ z)⟩
theorem vx_L.word {C n d : String} {A : Nat → Prop} {s : State} {args : Array Value} (h : vx_L C n d A s s.heap) : (Cond.laysStatic C n d).before args s = true := by
  obtain ⟨c, k, i, f, a, cell, h1, h2, h3, h4, h5, h6, h7, h8, h9, -⟩ := h
  show (Cond.laysStatic C n d).holds args s none s [] = true
  exact Cond.laysStatic_of h1 h2 h3 h4 h5 h6 h7 h8 h9
/-- .. and what it holds: null or some reference -/
def vx_Zq (C n d : String) (A : Nat → Prop) (U : State) (H : Heap) : Prop := va_Zq C n d A U H ∧ vx_L C n d A U H
theorem vx_Zq.moved {C n d : String} {A : Nat → Prop} {u U : State} {H : Heap} (hvm : u.vm.Alike U.vm) (h : vx_Zq C n d A u H) : vx_Zq C n d A U H := ⟨va_Zq.moved hvm h.1, vx_L.moved hvm h.2⟩
theorem vx_Zq.kept {C n d : String} {A : Nat → Prop} {U : State} {H H1 : Heap} (h : vx_Zq C n d A U H) (hq : ∀ a : Nat, a < H.size → ¬ A a → H1[a]? = H[a]?) : vx_Zq C n d A U H1 := ⟨va_Zq.kept h.1 hq, vx_L.kept h.2 hq⟩
theorem vx_Zq.narrow {C n d : String} {A B : Nat → Prop} {U : State} {H : Heap} (h : vx_Zq C n d A U H) (hAB : ∀ q, B q → A q) : vx_Zq C n d B U H := ⟨va_Zq.narrow h.1 hAB, vx_L.narrow h.2 hAB⟩
theorem vx_Zqof {args : Array Value} {s : State} {C n d : String} {A : Nat → Prop} (hl : (Cond.laysStatic C n d).before args s = true) (hini : (Cond.initialized C).before args s = true) (h : (Cond.isRef (.static C n d)).before args s = true) (hA : ∀ a : Nat, a < s.heap.size → ¬ A a) : vx_Zq C n d A s s.heap := by
  refine ⟨va_Zqof hl hini h hA, ?_⟩
  obtain ⟨c, k, i, f, a, cell, h1, h2, h3, h4, h5, h6, h7, h8, h9⟩ := Cond.laysStatic_spec hl
  exact ⟨c, k, i, f, a, cell, h1, h2, h3, h4, h5, h6, h7, h8, h9, hA a (Array.getElem?_eq_some_iff.mp h5).1⟩
theorem vx_isRef {C n d : String} {v : Value} {A : Nat → Prop} {s : State} {args : Array Value} (h : va_Z C n d v A s s.heap) (hv : v.isRef = true) : (Cond.isRef (.static C n d)).before args s = true := by
  obtain ⟨cf, kf, fi, f, a, cell, h1, h2, h3, h4, h5, h6, h7, -⟩ := h
  have he : (Term.static C n d).eval args s none [] s = some v := by
    simp [Term.eval, State.fieldNamed?, h1, h2, h4, h5, h6, h7]
  simp only [Cond.before, Cond.holds, Cond.value, he]
  cases v <;> simp_all [Value.isRef]
theorem vx_isRefq {C n d : String} {A : Nat → Prop} {s : State} {args : Array Value} (h : va_Zq C n d A s s.heap) : (Cond.isRef (.static C n d)).before args s = true := by
  rcases h with h | ⟨t, h⟩
  · exact vx_isRef h rfl
  · exact vx_isRef h rfl
/-- the same frame, seen from here: as if the method were called anew in this heap -/
theorem vx_rebase {T : State} (X : Stand p l e R s m args below meth c T locs cells slots) {R' : Room} (hf : R'.frames ≤ R.frames) (hl : R'.locals ≤ R.locals) (hc : cells + R'.cells ≤ R.cells) (hs : slots + R'.slots ≤ R.slots) :
    Stand p l e R' ((T.setVm s.vm).setFrames (.invoking m args :: below)) m args below meth c T [] 0 0 := by
  have htop : (T.setVm s.vm).topJava?.isSome := X.here.top
  have hF : ((T.setVm s.vm).setFrames (.invoking m args :: below)).frames = .invoking m args :: below := State.frames_setFrames _ (State.cur_lt_of_top htop)
  obtain ⟨g₀, hg0⟩ := Option.isSome_iff_exists.mp htop
  obtain ⟨r, hr⟩ := State.topJava?_eq_some.mp hg0
  have hl9 : e.platform.stackLimits (T.setVm s.vm).me = e.platform.stackLimits s.me := X.limits
  have hb9 : (T.setVm s.vm).me.stackBytes = s.me.stackBytes := X.bytes
  refine ⟨X.admits, X.cas, X.clock, hF, ?_, X.hears, X.method, X.code, X.here, X.tail, X.warmed, ?_, ?_, ?_⟩
  · have h := X.room
    have hU : ((T.setVm s.vm).setFrames (.invoking m args :: below)).localsInUse = s.localsInUse := by
      rw [State.localsInUse_invoking hF (meth := meth) (c := c) X.method X.code, State.localsInUse_invoking X.frames X.method X.code]
    simp only [State.hasRoom, Bool.and_eq_true, decide_eq_true_eq] at h ⊢
    obtain ⟨⟨⟨⟨h1, h2, h3, h4, h5, h6⟩, h7⟩, h8⟩, h9⟩ := h
    rw [X.frames, List.length_cons] at h2 h3
    have q1 := X.heapSize
    have q2 := X.used
    simp only [hF, hU, List.length_cons, State.stackLimits_setFrames, State.stackBytes_setFrames, hl9, hb9]
    refine ⟨⟨⟨⟨by omega, by omega, by omega, by omega, by omega, h6⟩, ?_⟩, ?_⟩, X.book⟩
    · show T.heap.size + R'.cells ≤ e.platform.maxCells
      omega
    · show T.slotsUsed + R'.slots ≤ e.platform.maxSlots
      omega
  · rw [State.stackLimits_setFrames]; rfl
  · rw [State.stackBytes_setFrames]; rfl
  · refine ⟨?_, Nat.le_refl _, Nat.le_refl _, ?_, ?_, fun a c9 h9 => ⟨c9, h9, rfl, rfl, fun _ _ => rfl⟩⟩
    · obtain ⟨t, ht, -⟩ := State.frames_cons hr
      show T.setVm s.vm = { ((T.setVm s.vm).setFrames (.invoking m args :: below)).setFrames (T.setVm s.vm).frames with heap := T.heap, slotsUsed := T.slotsUsed }
      rw [State.setFrames_setFrames, State.setFrames_self ht]
      rfl
    · show T.slotsUsed = T.slotsUsed + ((T.heap.toList.drop T.heap.size).map (·.slots.size)).sum
      rw [List.drop_eq_nil_of_le (Nat.le_of_eq Array.length_toList)]
      rfl
    · show ((T.heap.toList.drop T.heap.size).map (·.slots.size)).sum ≤ 0
      rw [List.drop_eq_nil_of_le (Nat.le_of_eq Array.length_toList)]
      exact Nat.le_refl _
/-- 'throw new E()': new; dup; invokespecial; athrow -/
theorem vx_throw0 {cc : ByteArray} {pc : Nat} (hexec : p.tables.exec = Jvm.exec) (hb : c.code = cc) (hl : l.stackTraces = false) {own cls : String} {names : List String} {ik ic mc ms : Nat} {A : Nat → Prop}
    (hown : s.vm.findClass own = some m.cls) (hcls : Bundle.fit cls = true) (hnames : ∀ n ∈ names, Bundle.fit n = true)
    (hk : (Cond.classLink own ik cls).before args s = true) (hini : (Cond.initialized cls).before args s = true) (hat : ∀ w ∈ vx_at0 own ic cls names, w.before args s = true)
    (hgood : ∀ w ∈ Cond.classLink own ik cls :: Cond.initialized cls :: vx_at0 own ic cls names, vx_ot w = true)
    (hU : vx_Zq Bundle.tN "UNASSIGNED_STACK" Bundle.steD A s s.heap) (hN : vx_Zq Bundle.tN "SUPPRESSED_SENTINEL" Bundle.listD A s s.heap) (hS : va_S A s.heap H locs) (hsize : ls.size = c.maxLocals)
    (d0 : decode cc pc = .ok (.new ik, 3)) (d3 : decode cc (pc + 3) = .ok (.dup, 1)) (d4 : decode cc (pc + 4) = .ok (.invokespecial ic, 3)) (d7 : decode cc (pc + 7) = .ok (.athrow, 1))
    (hout : ∀ x ∈ c.exceptionTable.toList, covers x (pc + 7) = false)
    (hRframes : names.length + 3 < R.frames) (hRlocals : (rest.map fun v => v.category).sum + (13 * (names.length + 1) + 42) ≤ R.locals) (hRcells : cells + 1 ≤ R.cells) (hRslots : slots + 6 ≤ R.slots) (hlocks : meth.locks = false)
    (hx : ∀ t : State, s.vm.Alike t.vm → H.size ≤ t.heap.size → (∀ q : Nat, q < H.size → t.heap[q]? = H[q]?) → XC cls s t)
    (hf : ∀ z ∈ locs, free z.base) (hc : cells + 1 ≤ mc) (hs : slots + 6 ≤ ms) :
    W p l e R s m args below meth c H locs cells slots (vx_MQ below Qc XC args s mc ms free) (F0 m pc ls rest) := by
  intro T hT X
  have htr : e.platform.stackTraces = false := (show e.platform.stackTraces = l.stackTraces by rw [X.admits.platform]).trans hl
  have Y := vx_rebase X (R' := { frames := R.frames, locals := R.locals, cells := 1, slots := 6 }) (Nat.le_refl _) (Nat.le_refl _) hRcells hRslots
  obtain ⟨s', hA⟩ : ∃ z, z = (T.setVm s.vm).setFrames (.invoking m args :: below) := ⟨_, rfl⟩
  rw [← hA] at Y
  have hvm : s'.vm = s.vm := by rw [hA]; rfl
  have hhp : s'.heap = H := by rw [hA]; exact hT
  have hW0 : s.WarmedH s'.vm := by rw [hvm]; exact State.WarmedH.refl s
  have hat' : ∀ w ∈ vx_at0 own ic cls names, w.before args s' = true := fun w hw => vx_ot_at hW0 hvm.symm (hgood w (List.mem_cons_of_mem _ (List.mem_cons_of_mem _ hw))) (hat w hw)
  have hk' : (Cond.classLink own ik cls).before args s' = true := vx_ot_at hW0 hvm.symm (hgood _ List.mem_cons_self) hk
  have hini' : (Cond.initialized cls).before args s' = true := vx_ot_at hW0 hvm.symm (hgood _ (List.mem_cons_of_mem _ List.mem_cons_self)) hini
  have hU' : vx_Zq Bundle.tN "UNASSIGNED_STACK" Bundle.steD A s' s'.heap := by rw [hhp]; exact vx_Zq.moved hW0.alike (hU.kept hS.2.1)
  have hN' : vx_Zq Bundle.tN "SUPPRESSED_SENTINEL" Bundle.listD A s' s'.heap := by rw [hhp]; exact vx_Zq.moved hW0.alike (hN.kept hS.2.1)
  have h : ∀ w ∈ Bundle.ownAtoms0 own ic cls names, w.before args s' = true := vx_own hat' (vx_isRefq hU'.1) (vx_isRefq hN'.1) hU'.2.word hN'.2.word
  have hown' : s'.vm.findClass own = some m.cls := by rw [hvm]; exact hown
  have hins : (Cond.instantiable cls 6).before args s' = true := h _ (by simp [Bundle.ownAtoms0])
  obtain ⟨vm₁, cX, kX, hfX, hkX, -, -, X₁, st1⟩ := Y.newCold hexec (own := own) (C := cls) (index := ik) (n := 6) hown' hk' hins hini'
    (g := F0 m pc ls rest) rfl (by rw [hb]; exact d0) (Nat.le_refl _) (Nat.le_refl _)
  generalize hT1 : (T.setVm vm₁).pushCell { cls := cX, slots := kX.instanceTypes.map defaultValue, vm := .none } = T1 at X₁ st1
  have hcat : (Value.ref T.heap.size).category = 1 := rfl
  have hcellA : T1.heap[T.heap.size]? = some (freshCell cX kX) := by rw [← hT1]; exact State.heap_pushCell_size _ _
  have d3' : decode c.code (pc + 3) = .ok (.dup, 1) := by rw [hb]; exact d3
  obtain ⟨U, hsteps, hrun, hend, hW, hsame, ce, hce, hO⟩ := X₁.ctorThrow0 hexec htr (own := own) (cls := cls) (names := names) (ic := ic) hown' hcls hnames h (fun x hx => nomatch hx) hfX hkX hcellA (by rw [hhp, hT]; exact Nat.le_refl _)
    (g := { method := m, pc := pc + 4, locals := ls, stack := .ref T.heap.size :: .ref T.heap.size :: rest, locked := none }) rfl hsize rfl rfl (rest := rest) rfl
    (by rw [hb]; exact d4) (by rw [hb]; exact d7) hout hRframes (by simp only [List.map_cons, List.sum_cons, hcat]; omega) hlocks
  obtain ⟨f1, f2⟩ := vx_frame hsame
  rw [hhp] at f1 f2
  have hWs : s.WarmedH U.vm := State.WarmedH.trans hW0 hW
  have hcl : s.vm.findClass cls = some ce.cls := by
    have h9 := hO.cls
    rw [hvm] at h9
    exact h9
  have hall : s.sameButNew ({ U with vm := s.vm } : State) locs mc ms := by
    subst hA
    obtain ⟨e1, e2⟩ := hsame
    rw [State.setFrames_setFrames] at e1
    have h2 : (T.setVm s.vm).sameButNew ({ U with vm := s.vm } : State) [] (0 + 1) (0 + 6) := ⟨e1, e2⟩
    have h3 := X.same.trans h2
    rw [List.append_nil] at h3
    exact h3.mono hc hs
  refine ⟨U, ?_, .threw T.heap.size, hrun, hend, Or.inr ⟨T.heap.size, rfl, cls, ce, locs, hx U hWs.alike f1 (fun q hq => f2 q hq (fun z hz => nomatch hz)), hce, hO.vm, hcl, hWs, hall, hf⟩⟩
  refine st1 _ ?_
  show Steps p.tables e below (T1.setTop { method := m, pc := pc + 3, locals := ls, stack := .ref T.heap.size :: rest, locked := none }) _
  jvm_step X₁.here [X₁.here.top, hexec, d3', Value.category]
  exact hsteps
/-- 'throw new E("text")': new; dup; ldc; invokespecial; athrow -/
theorem vx_throwS {cc : ByteArray} {pc : Nat} (hexec : p.tables.exec = Jvm.exec) (hb : c.code = cc) (hl : l.stackTraces = false) {own cls text : String} {names : List String} {ik is ic mc ms sa : Nat} {A : Nat → Prop}
    (hown : s.vm.findClass own = some m.cls) (hcls : Bundle.fit cls = true) (hnames : ∀ n ∈ names, Bundle.fit n = true)
    (hk : (Cond.classLink own ik cls).before args s = true) (hini : (Cond.initialized cls).before args s = true) (hstr : vk_R own is text sa s) (hat : ∀ w ∈ vx_atS own ic cls names, w.before args s = true)
    (hgood : ∀ w ∈ Cond.classLink own ik cls :: Cond.initialized cls :: vx_atS own ic cls names, vx_ot w = true)
    (hU : vx_Zq Bundle.tN "UNASSIGNED_STACK" Bundle.steD A s s.heap) (hN : vx_Zq Bundle.tN "SUPPRESSED_SENTINEL" Bundle.listD A s s.heap) (hS : va_S A s.heap H locs) (hsize : ls.size = c.maxLocals)
    (d0 : decode cc pc = .ok (.new ik, 3)) (d3 : decode cc (pc + 3) = .ok (.dup, 1)) (d4 : decode cc (pc + 4) = .ok (.ldc is, 2)) (d6 : decode cc (pc + 6) = .ok (.invokespecial ic, 3)) (d9 : decode cc (pc + 9) = .ok (.athrow, 1))
    (hout : ∀ x ∈ c.exceptionTable.toList, covers x (pc + 9) = false)
    (hRframes : names.length + 3 < R.frames) (hRlocals : (rest.map fun v => v.category).sum + (13 * (names.length + 1) + 43) ≤ R.locals) (hRcells : cells + 1 ≤ R.cells) (hRslots : slots + 6 ≤ R.slots) (hlocks : meth.locks = false)
    (hx : ∀ t : State, s.vm.Alike t.vm → H.size ≤ t.heap.size → (∀ q : Nat, q < H.size → t.heap[q]? = H[q]?) → XC cls s t)
    (hf : ∀ z ∈ locs, free z.base) (hc : cells + 1 ≤ mc) (hs : slots + 6 ≤ ms) :
    W p l e R s m args below meth c H locs cells slots (vx_MQ below Qc XC args s mc ms free) (F0 m pc ls rest) := by
  intro T hT X
  have htr : e.platform.stackTraces = false := (show e.platform.stackTraces = l.stackTraces by rw [X.admits.platform]).trans hl
  have Y := vx_rebase X (R' := { frames := R.frames, locals := R.locals, cells := 1, slots := 6 }) (Nat.le_refl _) (Nat.le_refl _) hRcells hRslots
  obtain ⟨s', hA⟩ : ∃ z, z = (T.setVm s.vm).setFrames (.invoking m args :: below) := ⟨_, rfl⟩
  rw [← hA] at Y
  have hvm : s'.vm = s.vm := by rw [hA]; rfl
  have hhp : s'.heap = H := by rw [hA]; exact hT
  have hW0 : s.WarmedH s'.vm := by rw [hvm]; exact State.WarmedH.refl s
  have hat' : ∀ w ∈ vx_atS own ic cls names, w.before args s' = true := fun w hw => vx_ot_at hW0 hvm.symm (hgood w (List.mem_cons_of_mem _ (List.mem_cons_of_mem _ hw))) (hat w hw)
  have hk' : (Cond.classLink own ik cls).before args s' = true := vx_ot_at hW0 hvm.symm (hgood _ List.mem_cons_self) hk
  have hini' : (Cond.initialized cls).before args s' = true := vx_ot_at hW0 hvm.symm (hgood _ (List.mem_cons_of_mem _ List.mem_cons_self)) hini
  have hU' : vx_Zq Bundle.tN "UNASSIGNED_STACK" Bundle.steD A s' s'.heap := by rw [hhp]; exact vx_Zq.moved hW0.alike (hU.kept hS.2.1)
  have hN' : vx_Zq Bundle.tN "SUPPRESSED_SENTINEL" Bundle.listD A s' s'.heap := by rw [hhp]; exact vx_Zq.moved hW0.alike (hN.kept hS.2.1)
  have h : ∀ w ∈ Bundle.ownAtoms own ic cls names, w.before args s' = true := vx_own hat' (vx_isRefq hU'.1) (vx_isRefq hN'.1) hU'.2.word hN'.2.word
  have hown' : s'.vm.findClass own = some m.cls := by rw [hvm]; exact hown
  have hins : (Cond.instantiable cls 6).before args s' = true := h _ (by simp [Bundle.ownAtoms])
  obtain ⟨vm₁, cX, kX, hfX, hkX, -, -, X₁, st1⟩ := Y.newCold hexec (own := own) (C := cls) (index := ik) (n := 6) hown' hk' hins hini'
    (g := F0 m pc ls rest) rfl (by rw [hb]; exact d0) (Nat.le_refl _) (Nat.le_refl _)
  generalize hT1 : (T.setVm vm₁).pushCell { cls := cX, slots := kX.instanceTypes.map defaultValue, vm := .none } = T1 at X₁ st1
  have hcat : (Value.ref T.heap.size).category = 1 := rfl
  have hcellA : T1.heap[T.heap.size]? = some (freshCell cX kX) := by rw [← hT1]; exact State.heap_pushCell_size _ _
  have d3' : decode c.code (pc + 3) = .ok (.dup, 1) := by rw [hb]; exact d3
  have d4' : decode c.code (pc + 4) = .ok (.ldc is, 2) := by rw [hb]; exact d4
  have hstr' : vk_R own is text sa s' := vk_R.warm hW0 hstr
  obtain ⟨U, hsteps, hrun, hend, hW, hsame, ce, hce, hO⟩ := X₁.ctorThrowS hexec htr (own := own) (cls := cls) (names := names) (ic := ic) hown' hcls hnames h (fun x hx => nomatch hx) hfX hkX hcellA (by rw [hhp, hT]; exact Nat.le_refl _) (msg := .ref sa) rfl
    (g := { method := m, pc := pc + 6, locals := ls, stack := .ref sa :: .ref T.heap.size :: .ref T.heap.size :: rest, locked := none }) rfl hsize rfl rfl (rest := rest) rfl
    (by rw [hb]; exact d6) (by rw [hb]; exact d9) hout hRframes (by simp only [List.map_cons, List.sum_cons, hcat]; omega) hlocks
  obtain ⟨f1, f2⟩ := vx_frame hsame
  rw [hhp] at f1 f2
  have hWs : s.WarmedH U.vm := State.WarmedH.trans hW0 hW
  have hcl : s.vm.findClass cls = some ce.cls := by
    have h9 := hO.cls
    rw [hvm] at h9
    exact h9
  have hall : s.sameButNew ({ U with vm := s.vm } : State) locs mc ms := by
    subst hA
    obtain ⟨e1, e2⟩ := hsame
    rw [State.setFrames_setFrames] at e1
    have h2 : (T.setVm s.vm).sameButNew ({ U with vm := s.vm } : State) [] (0 + 1) (0 + 6) := ⟨e1, e2⟩
    have h3 := X.same.trans h2
    rw [List.append_nil] at h3
    exact h3.mono hc hs
  refine ⟨U, ?_, .threw T.heap.size, hrun, hend, Or.inr ⟨T.heap.size, rfl, cls, ce, locs, hx U hWs.alike f1 (fun q hq => f2 q hq (fun z hz => nomatch hz)), hce, hO.vm, hcl, hWs, hall, hf⟩⟩
  refine st1 _ ?_
  show Steps p.tables e below (T1.setTop { method := m, pc := pc + 3, locals := ls, stack := .ref T.heap.size :: rest, locked := none }) _
  jvm_step X₁.here [X₁.here.top, hexec, d3', Value.category]
  exact X₁.ldcString hexec (own := own) (text := text) (index := is) (a := sa) hown' hstr'.1 hstr'.2
    (g := { method := m, pc := pc + 4, locals := ls, stack := .ref T.heap.size :: .ref T.heap.size :: rest, locked := none }) rfl d4' _ hsteps
/-- 'throw new E("text")', the text by a wide index -/
theorem vx_throwSW {cc : ByteArray} {pc : Nat} (hexec : p.tables.exec = Jvm.exec) (hb : c.code = cc) (hl : l.stackTraces = false) {own cls text : String} {names : List String} {ik is ic mc ms sa : Nat} {A : Nat → Prop}
    (hown : s.vm.findClass own = some m.cls) (hcls : Bundle.fit cls = true) (hnames : ∀ n ∈ names, Bundle.fit n = true)
    (hk : (Cond.classLink own ik cls).before args s = true) (hini : (Cond.initialized cls).before args s = true) (hstr : vk_R own is text sa s) (hat : ∀ w ∈ vx_atS own ic cls names, w.before args s = true)
    (hgood : ∀ w ∈ Cond.classLink own ik cls :: Cond.initialized cls :: vx_atS own ic cls names, vx_ot w = true)
    (hU : vx_Zq Bundle.tN "UNASSIGNED_STACK" Bundle.steD A s s.heap) (hN : vx_Zq Bundle.tN "SUPPRESSED_SENTINEL" Bundle.listD A s s.heap) (hS : va_S A s.heap H locs) (hsize : ls.size = c.maxLocals)
    (d0 : decode cc pc = .ok (.new ik, 3)) (d3 : decode cc (pc + 3) = .ok (.dup, 1)) (d4 : decode cc (pc + 4) = .ok (.ldc_w is, 3)) (d7 : decode cc (pc + 7) = .ok (.invokespecial ic, 3)) (d10 : decode cc (pc + 10) = .ok (.athrow, 1))
    (hout : ∀ x ∈ c.exceptionTable.toList, covers x (pc + 10) = false)
    (hRframes : names.length + 3 < R.frames) (hRlocals : (rest.map fun v => v.category).sum + (13 * (names.length + 1) + 43) ≤ R.locals) (hRcells : cells + 1 ≤ R.cells) (hRslots : slots + 6 ≤ R.slots) (hlocks : meth.locks = false)
    (hx : ∀ t : State, s.vm.Alike t.vm → H.size ≤ t.heap.size → (∀ q : Nat, q < H.size → t.heap[q]? = H[q]?) → XC cls s t)
    (hf : ∀ z ∈ locs, free z.base) (hc : cells + 1 ≤ mc) (hs : slots + 6 ≤ ms) :
    W p l e R s m args below meth c H locs cells slots (vx_MQ below Qc XC args s mc ms free) (F0 m pc ls rest) := by
  intro T hT X
  have htr : e.platform.stackTraces = false := (show e.platform.stackTraces = l.stackTraces by rw [X.admits.platform]).trans hl
  have Y := vx_rebase X (R' := { frames := R.frames, locals := R.locals, cells := 1, slots := 6 }) (Nat.le_refl _) (Nat.le_refl _) hRcells hRslots
  obtain ⟨s', hA⟩ : ∃ z, z = (T.setVm s.vm).setFrames (.invoking m args :: below) := ⟨_, rfl⟩
  rw [← hA] at Y
  have hvm : s'.vm = s.vm := by rw [hA]; rfl
  have hhp : s'.heap = H := by rw [hA]; exact hT
  have hW0 : s.WarmedH s'.vm := by rw [hvm]; exact State.WarmedH.refl s
  have hat' : ∀ w ∈ vx_atS own ic cls names, w.before args s' = true := fun w hw => vx_ot_at hW0 hvm.symm (hgood w (List.mem_cons_of_mem _ (List.mem_cons_of_mem _ hw))) (hat w hw)
  have hk' : (Cond.classLink own ik cls).before args s' = true := vx_ot_at hW0 hvm.symm (hgood _ List.mem_cons_self) hk
  have hini' : (Cond.initialized cls).before args s' = true := vx_ot_at hW0 hvm.symm (hgood _ (List.mem_cons_of_mem _ List.mem_cons_self)) hini
  have hU' : vx_Zq Bundle.tN "UNASSIGNED_STACK" Bundle.steD A s' s'.heap := by rw [hhp]; exact vx_Zq.moved hW0.alike (hU.kept hS.2.1)
  have hN' : vx_Zq Bundle.tN "SUPPRESSED_SENTINEL" Bundle.listD A s' s'.heap := by rw [hhp]; exact vx_Zq.moved hW0.alike (hN.kept hS.2.1)
  have h : ∀ w ∈ Bundle.ownAtoms own ic cls names, w.before args s' = true := vx_own hat' (vx_isRefq hU'.1) (vx_isRefq hN'.1) hU'.2.word hN'.2.word
  have hown' : s'.vm.findClass own = some m.cls := by rw [hvm]; exact hown
  have hins : (Cond.instantiable cls 6).before args s' = true := h _ (by simp [Bundle.ownAtoms])
  obtain ⟨vm₁, cX, kX, hfX, hkX, -, -, X₁, st1⟩ := Y.newCold hexec (own := own) (C := cls) (index := ik) (n := 6) hown' hk' hins hini'
    (g := F0 m pc ls rest) rfl (by rw [hb]; exact d0) (Nat.le_refl _) (Nat.le_refl _)
  generalize hT1 : (T.setVm vm₁).pushCell { cls := cX, slots := kX.instanceTypes.map defaultValue, vm := .none } = T1 at X₁ st1
  have hcat : (Value.ref T.heap.size).category = 1 := rfl
  have hcellA : T1.heap[T.heap.size]? = some (freshCell cX kX) := by rw [← hT1]; exact State.heap_pushCell_size _ _
  have d3' : decode c.code (pc + 3) = .ok (.dup, 1) := by rw [hb]; exact d3
  have d4' : decode c.code (pc + 4) = .ok (.ldc_w is, 3) := by rw [hb]; exact d4
  have hstr' : vk_R own is text sa s' := vk_R.warm hW0 hstr
  obtain ⟨U, hsteps, hrun, hend, hW, hsame, ce, hce, hO⟩ := X₁.ctorThrowS hexec htr (own := own) (cls := cls) (names := names) (ic := ic) hown' hcls hnames h (fun x hx => nomatch hx) hfX hkX hcellA (by rw [hhp, hT]; exact Nat.le_refl _) (msg := .ref sa) rfl
    (g := { method := m, pc := pc + 7, locals := ls, stack := .ref sa :: .ref T.heap.size :: .ref T.heap.size :: rest, locked := none }) rfl hsize rfl rfl (rest := rest) rfl
    (by rw [hb]; exact d7) (by rw [hb]; exact d10) hout hRframes (by simp only [List.map_cons, List.sum_cons, hcat]; omega) hlocks
  obtain ⟨f1, f2⟩ := vx_frame hsame
  rw [hhp] at f1 f2
  have hWs : s.WarmedH U.vm := State.WarmedH.trans hW0 hW
  have hcl : s.vm.findClass cls = some ce.cls := by
    have h9 := hO.cls
    rw [hvm] at h9
    exact h9
  have hall : s.sameButNew ({ U with vm := s.vm } : State) locs mc ms := by
    subst hA
    obtain ⟨e1, e2⟩ := hsame
    rw [State.setFrames_setFrames] at e1
    have h2 : (T.setVm s.vm).sameButNew ({ U with vm := s.vm } : State) [] (0 + 1) (0 + 6) := ⟨e1, e2⟩
    have h3 := X.same.trans h2
    rw [List.append_nil] at h3
    exact h3.mono hc hs
  refine ⟨U, ?_, .threw T.heap.size, hrun, hend, Or.inr ⟨T.heap.size, rfl, cls, ce, locs, hx U hWs.alike f1 (fun q hq => f2 q hq (fun z hz => nomatch hz)), hce, hO.vm, hcl, hWs, hall, hf⟩⟩
  refine st1 _ ?_
  show Steps p.tables e below (T1.setTop { method := m, pc := pc + 3, locals := ls, stack := .ref T.heap.size :: rest, locked := none }) _
  jvm_step X₁.here [X₁.here.top, hexec, d3', Value.category]
  exact X₁.ldcStringW hexec (own := own) (text := text) (index := is) (a := sa) hown' hstr'.1 hstr'.2
    (g := { method := m, pc := pc + 4, locals := ls, stack := .ref T.heap.size :: .ref T.heap.size :: rest, locked := none }) rfl d4' _ hsteps
end Ends
section Bodies
variable {l : Launch}
theorem vx_ofW {y : MethodName} {ws ws' : List Cond} {rm : Room} {Pc : Array Value → State → Prop} {Qc : Array Value → State → Outcome → State → Prop} {XC : String → State → State → Prop} {mc ms : Nat} {free : Addr → Prop} {cc : ByteArray} {maxL : Nat} {ret : Option FieldType}
    (hy : plainName y.cls = true) (hw : ws = Cond.code y cc maxL ret :: ws')
    (body : ∀ p e s m args below meth c s₁, BodyLoose p l y (headSpec ws rm) cc maxL ret e s m args below meth c s₁ → c.maxLocals = maxL → (∀ x ∈ c.exceptionTable.toList, False) → Pc args s →
      W p l e (headSpec ws rm).room s m args below meth c s.heap [] 0 0 (vx_MQ below Qc XC args s mc ms free) (entryFrame m args maxL)) : vx_Met l y ws rm Pc Qc XC mc ms free := by
  refine MetFree.of_bodyS (code := cc) (maxLocals := maxL) (ret := ret) hy ?_ ?_
  · intro args s m h hn
    obtain ⟨meth, c, h1, h2, h3, h4, h5, h6, -, -⟩ := Cond.code_spec hn (atoms_spec (ws := ws) h _ (by rw [hw]; exact List.mem_cons_self))
    exact ⟨meth, c, h1, h2, h3, h4, h5, h6⟩
  · intro p e s m args below meth c s₁ B hml hP _
    have hh0 : s₁.heap = s.heap := by rw [B.state]; rfl
    have ht : ∀ x ∈ c.exceptionTable.toList, False := by
      obtain ⟨meth9, c9, h1, h2, -, -, -, -, h7, -⟩ := Cond.code_spec B.named (atoms_spec (ws := ws) B.pre _ (by rw [hw]; exact List.mem_cons_self))
      cases Option.some.inj (h1.symm.trans B.method)
      cases Option.some.inj (h2.symm.trans (Stand.of_body B).code)
      intro x hx
      rw [Array.isEmpty_iff.mp h7] at hx
      cases hx
    obtain ⟨t, a1, o, b1, b2, b3⟩ := body p e s m args below meth c s₁ B hml ht hP s₁ hh0 (Stand.of_body B)
    exact ⟨t, o, a1, b1, b2, b3⟩
/-- the table of a body with handlers -/
theorem vx_table {p : Program} {x y : MethodName} {S : Spec} {cc bytes : ByteArray} {maxL maxL' : Nat} {ret ret' : Option FieldType} {e : Env} {s s₁ : State} {m : MethodId} {args : Array Value} {below : List Frame} {meth : Method} {c : Code} {hh : List (Nat × Nat × Nat × Nat)}
    (B : BodyLoose p l y S cc maxL ret e s m args below meth c s₁) (h : (Cond.codeWith y bytes maxL' ret' hh).before args s = true) : c.exceptionTable.toList = tableOf hh := by
  obtain ⟨m9, meth9, c9, hn9, h1, h2, -, -, h6, -⟩ := Cond.codeWith_spec h
  cases Option.some.inj (hn9.symm.trans B.named)
  cases Option.some.inj (h1.symm.trans B.method)
  cases Option.some.inj (h2.symm.trans (Stand.of_body B).code)
  rw [← h6, table_eq]
end Bodies
end VXA
/-! ===== END ===== -/
/-! ===== BEGIN a static call of a method with an exception table ===== -/
section VXS
variable {p : Program} {l : Launch} {e : Env} {R : Room} {s : State} {m : MethodId} {args : Array Value} {below : List Frame} {meth : Method} {c : Code} {T : State} {H : Heap} {locs : List Loc} {cells slots : Nat}
abbrev vx_CSW (R : Room) (s : State) (args : Array Value) (own : String) (index : Nat) (y : MethodName) (bytes : ByteArray) (maxL : Nat) (ret : Option FieldType) (hh : List (Nat × Nat × Nat × Nat)) (ws : List Cond) (rm : Room) (mc ms n : Nat) : Prop :=
  (rm.cells = mc ∧ rm.slots = ms ∧ rm.frames + 1 ≤ R.frames ∧ 8 + (maxL + 11) + rm.locals ≤ R.locals ∧ (∀ w ∈ ws, ∀ (a' : Array Value) (U : State), s.WarmedH U.vm → w.before a' U = true) ∧ Cond.codeWith y bytes maxL ret hh ∈ ws) ∧
  (Cond.codeWith y bytes maxL ret hh).before args s = true ∧ (Cond.initialized y.cls).before args s = true ∧ (y.cls ≠ "java/lang/invoke/MethodHandle" ∧ y.cls ≠ "java/lang/invoke/VarHandle") ∧
  (∀ sig, parseMethodDescriptor y.desc = some sig → n = sig.parameters.length) ∧ (Cond.methodLink own index y).before args s = true ∧ (Cond.static y).before args s = true
theorem vx_cwSW {own : String} {index maxL mc ms : Nat} {y : MethodName} {bytes : ByteArray} {ret : Option FieldType} {hh : List (Nat × Nat × Nat × Nat)} {Ts ws ws' : List Cond} {rm : Room} (n : Nat) (ht : ∀ w ∈ Ts, w.before args s = true) (hT : GoodIn Ts (va_wsS own index y ws)) (hw : ws = Cond.codeWith y bytes maxL ret hh :: ws') (hrc : rm.cells = mc) (hrs : rm.slots = ms)
    (hd : y.cls ≠ "java/lang/invoke/MethodHandle" ∧ y.cls ≠ "java/lang/invoke/VarHandle" ∧ (parseMethodDescriptor y.desc).map (fun d => d.parameters.length) = some n) (hR : rm.frames + 1 ≤ R.frames ∧ 8 + (maxL + 11) + rm.locals ≤ R.locals) :
    vx_CSW R s args own index y bytes maxL ret hh ws rm mc ms n := by
  have ok : ∀ w ∈ va_wsS own index y ws, w.before args s = true := fun w h => ht w (hT w h).1
  have hG : GoodIn Ts ws := fun w h => hT w (by unfold va_wsS; exact List.mem_append_right _ h)
  have hc : Cond.codeWith y bytes maxL ret hh ∈ ws := by rw [hw]; exact List.mem_cons_self
  refine ⟨⟨hrc, hrs, hR.1, hR.2, pay_in ht hG, hc⟩, ht _ (hG _ hc).1, ok _ (by simp [va_wsS]), ⟨hd.1, hd.2.1⟩, fun sig h => ?_, ok _ (by simp [va_wsS]), ok _ (by simp [va_wsS])⟩
  have h2 := hd.2.2
  rw [h] at h2
  exact (Option.some.inj h2).symm
theorem vx_callSW (X : Stand p l e R s m args below meth c T locs cells slots) (hexec : p.tables.exec = Jvm.exec) {own : String} {index : Nat} {y : MethodName} {bytes : ByteArray} {maxL : Nat} {ret : Option FieldType} {hh : List (Nat × Nat × Nat × Nat)}
    (hown : s.vm.findClass own = some m.cls) (hlink : (Cond.methodLink own index y).before args s = true) (hstat : (Cond.static y).before args s = true) (hinit : (Cond.initialized y.cls).before args s = true)
    (hcode : (Cond.codeWith y bytes maxL ret hh).before args s = true) (hy : y.cls ≠ "java/lang/invoke/MethodHandle" ∧ y.cls ≠ "java/lang/invoke/VarHandle")
    {W9 : Nat} {Pre : Pt → Array Value → Prop} {Post : Pt → Array Value → Option Value → Pt → Prop} (hK : Back l R p e below s args y 3 W9 Pre Post)
    {g : JFrame} (hg : g.method = m) (hsize : g.locals.size = c.maxLocals) {argsL rest : List Value} (hlen : ∀ sig, parseMethodDescriptor y.desc = some sig → argsL.length = sig.parameters.length)
    (hstack : g.stack = argsL.reverse ++ rest) (hW : 2 * g.monitorRoom + (rest.map fun v => v.category).sum ≤ W9) (hdg : decode c.code g.pc = .ok (.invokestatic index, 3))
    (hpre : ∀ vm₁, s.WarmedH vm₁ → Pre ⟨T.setVm vm₁, locs, cells, slots⟩ argsL.toArray) :
    ∃ (v : Option Value) (vm₁ : Vm) (B : Pt), s.WarmedH vm₁ ∧ Stand p l e R s m args below meth c B.U B.locs B.cells B.slots ∧ Post ⟨T.setVm vm₁, locs, cells, slots⟩ argsL.toArray v B ∧
      ∀ target, Steps p.tables e below (B.U.setTop { g with pc := g.pc + 3, stack := v.toList ++ rest }) target → Steps p.tables e below (T.setTop g) target := by
  obtain ⟨mk, methM, cM, hnamed, hmethM, -, -, -, -, -, -, hsigM⟩ := Cond.codeWith_spec hcode
  have hstatic : methM.isStatic = true := Cond.static_spec hnamed hmethM hstat
  obtain ⟨kP, hkP, -⟩ := className_of_methodNamed hnamed
  have hinitP : kP.init = .initialized := Cond.initialized_spec (findClass_of_methodNamed hnamed) hkP hinit
  obtain ⟨vm₁, X₁, hstep₁⟩ := X.invokestatic hexec hown hlink hnamed hmethM hstatic hkP hinitP hy (g := g) hg (argsL := argsL) (rest := rest) (hlen _ hsigM) hstack hdg
  obtain ⟨v, B, X', hpost, hsteps⟩ := hK m meth c ⟨T.setVm vm₁, locs, cells, slots⟩ { g with stack := rest } (.invokestatic index) mk argsL.toArray X₁ hg hsize hdg hW (X₁.named hnamed) (hpre vm₁ X₁.warmed)
  exact ⟨v, vm₁, B, X₁.warmed, X', hpost, fun target h => hstep₁ _ fun acts => by rw [doInvoke_state]; exact hsteps.trans h⟩
theorem vx_runSW {y : MethodName} {bytes cc : ByteArray} {maxL nL mc ms n index : Nat} {ret : Option FieldType} {hh : List (Nat × Nat × Nat × Nat)} {ws : List Cond} {rm : Room} {Pc : Array Value → State → Prop} {Qc : Array Value → State → Outcome → State → Prop} {free : Addr → Prop} {Ts : List Cond} {own : String} {As rest : List Value} {g : JFrame}
    (S : CallFix p m c cc nL s args Ts own) (hM : Met l y ws rm Pc Qc mc ms free) (cw : vx_CSW R s args own index y bytes maxL ret hh ws rm mc ms n) (hp : PreS s H Pc As)
    (hg : g.method = m) (hn : As.length = n) (hsize : g.locals.size = nL) (hstack : g.stack = As.reverse ++ rest) (hW : 2 * g.monitorRoom + (rest.map fun v => v.category).sum ≤ 8) (hdg : decode cc g.pc = .ok (.invokestatic index, 3)) (hf : cells + mc ≤ R.cells ∧ slots + ms ≤ R.slots) :
    va_Run p l e R s m args below meth c H locs cells slots mc ms g rest (Qc As.toArray) (free) := by
  obtain ⟨⟨hrc, hrs, hfr, hlo, hws, hcw⟩, hcode, hini, hy, hlen, hl, hstt⟩ := cw
  have hK : Back l R p e below s args y 3 8 (PreOf R mc ms Pc) (PostOf Qc mc ms free) := va_backW (hh := hh) (bytes := bytes) (maxL := maxL) (ret := ret) hM hp.1 hrc hrs hfr hlo hws hcw (fun a' U hW => word_at hW (Or.inl (by first | rfl | simp [Cond.onTables, Cond.keeps, Cond.steady])) hini)
  obtain ⟨hx, hb, hml, ho, -⟩ := S
  intro T hT X
  obtain ⟨v, vm₁, ⟨U', l2, c2, s2⟩, hW₁, X', ⟨g', mk, t, L, e1, e2, hq, h1, hL, h2, h3⟩, st⟩ := vx_callSW X hx (hh := hh) (bytes := bytes) (maxL := maxL) (ret := ret) ho hl hstt hini hcode hy hK hg (hsize.trans hml.symm) (argsL := As) (rest := rest) (fun sig h => hn.trans (hlen sig h)) hstack hW (by rw [hb]; exact hdg)
    (fun vm₁ hW₁ => ⟨hf.1, hf.2, hp.2 (T.setVm vm₁) hT hW₁⟩)
  dsimp only [Pt.U, Pt.locs, Pt.cells, Pt.slots] at X' e1 e2 h1 h2 h3 st
  subst h1; subst h2; subst h3
  exact ⟨v, (T.setVm vm₁).calling g' mk As.toArray, t, U', L, hT, X', hL, e1, e2, hq, st⟩
/-- not caught here, past rows that name other classes: it goes on to the caller -/
theorem vx_outP {p : Program} {l : Launch} {e : Env} {R : Room} {s : State} {m : MethodId} {args : Array Value} {below : List Frame} {meth : Method} {c : Code} {H : Heap} {locs : List Loc} {cells slots : Nat} {free : Addr → Prop} {ls : Array Slot} {rest : List Value} {Qc : Array Value → State → Outcome → State → Prop} {XC : String → State → State → Prop}
    {pc : Nat} {own E : String} {ce : Cell} {q : Addr} {mc ms : Nat} (hown : s.vm.findClass own = some m.cls) (hlocks : meth.locks = false)
    (hpass : ∀ z ∈ c.exceptionTable.toList, covers z pc = false ∨ (z.catchType ≠ 0 ∧ ∃ nm : String, (Cond.classLink own z.catchType nm).before args s = true ∧ va_Nc E nm s)) (hcell : H[q]? = some ce) (hv : ce.vm = .none) (hcl : s.vm.findClass E = some ce.cls)
    (hx : ∀ t : State, t.heap = H → s.vm.Alike t.vm → XC E s t) (hf : ∀ z ∈ locs, free z.base) (hc : cells ≤ mc) (hs : slots ≤ ms) :
    vx_W p l e R s m args below meth c H locs cells slots (vx_MQ below Qc XC args s mc ms free) (F0 m pc ls rest) q := by
  intro T hT X
  have hpl : e.platform.magicAccessors = ({} : Platform).magicAccessors := by rw [X.admits.platform]
  obtain ⟨vm', hW', X', st⟩ := X.outThrough hlocks q (g := F0 m pc ls rest) rfl rfl rfl (cell := ce) (by rw [hT]; exact hcell) (by rw [hv]; rfl)
    (by obtain ⟨k9, h9, -⟩ := Vm.findClass_spec hcl; exact ⟨k9, h9⟩) (fun z hz => by
      rcases hpass z hz with h | ⟨hz0, nm, hl1, hn1⟩
      · exact Or.inl h
      · obtain ⟨c6, hc6, hcl6⟩ := Cond.classLink_spec hown hl1 e.platform hpl
        obtain ⟨a8, b8, h1, h2, h3⟩ := hn1
        cases Option.some.inj (h1.symm.trans hcl)
        cases Option.some.inj (h2.symm.trans hc6)
        exact Or.inr ⟨hz0, _, hcl6, h3⟩)
  obtain ⟨g₀, hfr⟩ := X'.frames_eq
  have hcell9 : ((T.setVm vm').setFrames (.throwing q :: below)).heap[q]? = some ce := by
    show T.heap[q]? = some ce
    rw [hT]; exact hcell
  have hend : Ended ((T.setVm vm').setFrames (.throwing q :: below)) below (.threw q) := State.frames_setFrames _ (State.cur_lt_of_frames hfr)
  refine ⟨(T.setVm vm').setFrames (.throwing q :: below), ?_, .threw q, X'.here.running, hend, Or.inr ⟨q, rfl, E, ce, locs, hx _ hT (X'.ends _).1.alike, hcell9, hv, hcl, (X'.ends _).1, (X'.ends _).2.mono hc hs, hf⟩⟩
  rw [X.pushThrowing_eq]
  exact st
/-- a thing of a world lies in the heap -/
theorem vx_lt {D : va_G} {cl : List vw_C} {ws : va_W} {H1 : Heap} (h : va_P D cl ws H1) {k : Nat} {q : Nat × va_E} (hk : ws[k]? = some q) : q.1 < H1.size := (h k q hk).lt
end VXS
/-! ===== END ===== -/
/-! ===== BEGIN methods with a table of their own: called by a name, returning or throwing ===== -/
section VXH
/-! vx_backW, vx_callVX, vx_callSX, vx_callVW, vx_runVW, vx_runVX, vx_runSX, vx_ofWH follow the same proofs as their sisters above (Free/Laws.lean, Shelf42/LK1.lean); vx_outP calls Shelf42/NT130.lean (outThrough). -/
section
variable {l : Launch} {R : Room} {p : Program} {e : Env} {below : List Frame} {s : State} {sargs : Array Value} {y : MethodName} {len W9 : Nat}
theorem vx_backW {ws : List Cond} {rm : Room} {Pc : Array Value → State → Prop} {Qc : Array Value → State → Outcome → State → Prop} {XC : String → State → State → Prop} {mc ms : Nat} {free : Addr → Prop} {bytes : ByteArray} {maxL : Nat} {ret : Option FieldType} {hh : List (Nat × Nat × Nat × Nat)}
    (hM : vx_Met l y ws rm Pc Qc XC mc ms free) (hblind : FrameBlind Pc) (hrc : rm.cells = mc) (hrs : rm.slots = ms)
    (hframes : rm.frames + 1 ≤ R.frames) (hlocals : W9 + (maxL + 11) + rm.locals ≤ R.locals)
    (hws : ∀ w ∈ ws, ∀ a' U, s.WarmedH U.vm → w.before a' U = true) (hcode : Cond.codeWith y bytes maxL ret hh ∈ ws) (hinit : ∀ a' U, s.WarmedH U.vm → (Cond.initialized y.cls).before a' U = true) :
    vx_Back l R p e below s sargs y len W9 (PreOf R mc ms Pc) (PostOf Qc mc ms free) (vx_Post XC mc ms free) := by
  intro m meth c A g ig mk a X hg hsize hdg hW hn hp
  have h1 : (headSpec ws rm).pre.before a A.U = true := atoms_intro fun w hw => hws w hw _ _ X.warmed
  have h2 : (Cond.codeWith y bytes maxL ret hh).before a A.U = true := hws _ hcode _ _ X.warmed
  have h3 : (Cond.initialized y.cls).before a A.U = true := hinit _ _ X.warmed
  have h4 : A.cells + (headSpec ws rm).room.cells ≤ R.cells := by rw [show (headSpec ws rm).room.cells = mc from hrc]; exact hp.1
  have h5 : A.slots + (headSpec ws rm).room.slots ≤ R.slots := by rw [show (headSpec ws rm).room.slots = ms from hrs]; exact hp.2.1
  have hPc : Pc a (A.U.calling g mk a) := hblind _ _ _ _ hp.2.2
  obtain ⟨U, Ls, c0, s0⟩ := A
  dsimp only [Pt.U, Pt.locs, Pt.cells, Pt.slots] at h1 h2 h3 h4 h5 X hn hPc ⊢
  obtain ⟨m9, methY, cY, hn9, hmY, hcY, -, hlY, -⟩ := Cond.codeWith_spec h2
  cases Option.some.inj (hn9.symm.trans hn)
  obtain ⟨kY, hkY, -⟩ := className_of_methodNamed hn
  have hinitY : kY.init = .initialized := Cond.initialized_spec (findClass_of_methodNamed hn) hkY h3
  have h : At U g.method c below := by rw [hg]; exact X.here
  have hlocals9 : W9 + (maxL + 11) + (headSpec ws rm).room.locals ≤ R.locals := hlocals
  have happ : (headSpec ws rm).appliesLoose y e.platform (U.calling g mk a) = true :=
    Spec.appliesLoose_calling (g := g) h hdg hn hkY hinitY
      (X.room_calling (g := g) (R' := (headSpec ws rm).room) hsize hmY hcY hframes (by rw [hlY]; omega) h4 h5) h1
  obtain ⟨mid, hmid⟩ := h.above
  have hfr : (U.setTop g).frames = (.java g :: mid) ++ below := by rw [State.frames_setTop' g h.top, hmid]; rfl
  obtain ⟨o, s₂, hsteps, -, hend, hq⟩ := Steps.callFree hM p X.admits X.cas X.clock (acts := []) hfr happ hPc trivial
  have hq' : vx_Q Qc XC mc ms free a (U.calling g mk a) o s₂ := hq
  rw [State.frames_setTop' g h.top] at hend
  obtain ⟨g₀, hg0⟩ := Option.isSome_iff_exists.mp h.top
  obtain ⟨r, hr⟩ := State.topJava?_eq_some.mp hg0
  have hr' : (({ U with heap := s₂.heap, slotsUsed := s₂.slotsUsed } : State).setVm s₂.vm).frames = .java g₀ :: r := hr
  rcases hq' with ⟨hqc, L, hfe, hL⟩ | ⟨q, rfl, E, ce, L, hx, hce, hcv, hcl, hW₂, hsm, hL⟩
  · obtain ⟨⟨v, rfl⟩, hW₂, e2, q2, q3, q4, q5, q6⟩ := id hfe
    have e3 : s₂ = ({ (U.calling g mk a).setFrames s₂.frames with heap := s₂.heap, slotsUsed := s₂.slotsUsed } : State).setVm s₂.vm := by
      have : s₂ = ({ s₂ with vm := (U.calling g mk a).vm } : State).setVm s₂.vm := rfl
      rw [e2] at this
      exact this
    obtain ⟨c₂, i₂, len₂, hc₂, hd₂, hf₂⟩ := hend
    have hW' : U.WarmedH s₂.vm := hW₂
    have hcc : c₂ = c := by
      have h1 : s₂.code? g.method = U.code? g.method := by
        rw [State.code?_eq, State.code?_eq, hW'.alike.method?]
      exact Option.some.inj (hc₂.symm.trans (h1.trans h.code))
    subst hcc
    have hlen : len₂ = len := by rw [hdg] at hd₂; cases hd₂; rfl
    subst hlen
    have hs₂ : s₂ = (({ U with heap := s₂.heap, slotsUsed := s₂.slotsUsed } : State).setVm s₂.vm).setTop { g with pc := g.pc + len₂, stack := v.toList ++ g.stack } := by
      refine e3.trans ?_
      rw [hf₂, State.calling_eq h.top, State.setFrames_setFrames, State.setTop_of_frames _ hr', hr]
      rfl
    have hsame : U.sameButNew ({ U with heap := s₂.heap, slotsUsed := s₂.slotsUsed } : State) L mc ms := by
      refine ⟨?_, q2, q3, q4, q5, q6⟩
      obtain ⟨t, ht, -⟩ := State.frames_cons hr
      show ({ U with heap := s₂.heap, slotsUsed := s₂.slotsUsed } : State) = { U.setFrames U.frames with heap := s₂.heap, slotsUsed := s₂.slotsUsed }
      rw [State.setFrames_self ht]
    subst hg
    refine Or.inl ⟨v, ⟨(({ U with heap := s₂.heap, slotsUsed := s₂.slotsUsed } : State).setVm s₂.vm), Ls ++ L, c0 + mc, s0 + ms⟩,
      ⟨X.admits, X.cas, X.clock, X.frames, X.room, X.hears, X.method, X.code, (X.here.setHeapUsed s₂.heap s₂.slotsUsed).setVm hW'.alike, X.tail, State.WarmedH.trans X.warmed hW', X.limits, X.bytes, X.same.trans (hsame.setVm s.vm)⟩,
      ⟨g, mk, s₂, L, rfl, rfl, hqc, rfl, hL, rfl, rfl⟩, ?_⟩
    show Steps p.tables e below _ ((({ U with heap := s₂.heap, slotsUsed := s₂.slotsUsed } : State).setVm s₂.vm).setTop { g with pc := g.pc + len₂, stack := v.toList ++ g.stack })
    rw [← hs₂]
    exact hsteps
  · obtain ⟨e2, q2, q3, q4, q5, q6⟩ := id hsm
    have e3 : s₂ = ({ (U.calling g mk a).setFrames s₂.frames with heap := s₂.heap, slotsUsed := s₂.slotsUsed } : State).setVm s₂.vm := by
      have : s₂ = ({ s₂ with vm := (U.calling g mk a).vm } : State).setVm s₂.vm := rfl
      rw [e2] at this
      exact this
    have hf₂ : s₂.frames = .throwing q :: .java g :: U.frames.tail := hend
    have hW' : U.WarmedH s₂.vm := hW₂
    have hs₂ : s₂ = ((({ U with heap := s₂.heap, slotsUsed := s₂.slotsUsed } : State).setVm s₂.vm).setTop g).pushFrame (.throwing q) := by
      refine e3.trans ?_
      rw [hf₂, State.calling_eq h.top, State.setFrames_setFrames, State.pushFrame, State.frames_setTop _ hr', State.setTop_of_frames _ hr', State.setFrames_setFrames, hr]
      rfl
    have hsame : U.sameButNew ({ U with heap := s₂.heap, slotsUsed := s₂.slotsUsed } : State) L mc ms := by
      refine ⟨?_, q2, q3, q4, q5, q6⟩
      obtain ⟨t, ht, -⟩ := State.frames_cons hr
      show ({ U with heap := s₂.heap, slotsUsed := s₂.slotsUsed } : State) = { U.setFrames U.frames with heap := s₂.heap, slotsUsed := s₂.slotsUsed }
      rw [State.setFrames_self ht]
    subst hg
    refine Or.inr ⟨q, ⟨(({ U with heap := s₂.heap, slotsUsed := s₂.slotsUsed } : State).setVm s₂.vm), Ls ++ L, c0 + mc, s0 + ms⟩,
      ⟨X.admits, X.cas, X.clock, X.frames, X.room, X.hears, X.method, X.code, (X.here.setHeapUsed s₂.heap s₂.slotsUsed).setVm hW'.alike, X.tail, State.WarmedH.trans X.warmed hW', X.limits, X.bytes, X.same.trans (hsame.setVm s.vm)⟩,
      ⟨g, mk, s₂, L, E, ce, rfl, rfl, hx, hce, hcv, hcl, rfl, hL, rfl, rfl⟩, ?_⟩
    show Steps p.tables e below _ (((({ U with heap := s₂.heap, slotsUsed := s₂.slotsUsed } : State).setVm s₂.vm).setTop g).pushFrame (.throwing q))
    rw [← hs₂]
    exact hsteps
end
variable {p : Program} {l : Launch} {e : Env} {R : Room} {s : State} {m : MethodId} {args : Array Value} {below : List Frame} {meth : Method} {c : Code} {T : State} {H : Heap} {locs : List Loc} {cells slots : Nat}
theorem vx_callVX (X : Stand p l e R s m args below meth c T locs cells slots) (hexec : p.tables.exec = Jvm.exec) {own C : String} {index : Nat} {y : MethodName} {bytes : ByteArray} {maxL : Nat} {ret : Option FieldType} {hh : List (Nat × Nat × Nat × Nat)}
    (hown : s.vm.findClass own = some m.cls) (hlink : (Cond.methodLink own index y).before args s = true) (hinst : (Cond.instanceMethod y).before args s = true) (hsel : (Cond.selects C y y).before args s = true)
    (hcode : (Cond.codeWith y bytes maxL ret hh).before args s = true) (hy : y.cls ≠ "java/lang/invoke/MethodHandle" ∧ y.cls ≠ "java/lang/invoke/VarHandle")
    {W9 : Nat} {Pre : Pt → Array Value → Prop} {Post : Pt → Array Value → Option Value → Pt → Prop} {PostX : Pt → Array Value → Addr → Pt → Prop} (hK : vx_Back l R p e below s args y 3 W9 Pre Post PostX)
    {b : Addr} {cellB : Cell} (hcell : T.heap[b]? = some cellB) (hobj : cellB.vm.isStatics = false) (hcls : s.vm.findClass C = some cellB.cls)
    {g : JFrame} (hg : g.method = m) (hsize : g.locals.size = c.maxLocals) {argsL rest : List Value} (hlen : ∀ sig, parseMethodDescriptor y.desc = some sig → argsL.length = sig.parameters.length)
    (hstack : g.stack = argsL.reverse ++ .ref b :: rest) (hW : 2 * g.monitorRoom + (rest.map fun v => v.category).sum ≤ W9) (hdg : decode c.code g.pc = .ok (.invokevirtual index, 3))
    (hpre : ∀ vm₁, s.WarmedH vm₁ → Pre ⟨T.setVm vm₁, locs, cells, slots⟩ (Value.ref b :: argsL).toArray) :
    (∃ (v : Option Value) (vm₁ : Vm) (B : Pt), s.WarmedH vm₁ ∧ Stand p l e R s m args below meth c B.U B.locs B.cells B.slots ∧ Post ⟨T.setVm vm₁, locs, cells, slots⟩ (Value.ref b :: argsL).toArray v B ∧
      ∀ target, Steps p.tables e below (B.U.setTop { g with pc := g.pc + 3, stack := v.toList ++ rest }) target → Steps p.tables e below (T.setTop g) target) ∨
    (∃ (q : Addr) (vm₁ : Vm) (B : Pt), s.WarmedH vm₁ ∧ Stand p l e R s m args below meth c B.U B.locs B.cells B.slots ∧ PostX ⟨T.setVm vm₁, locs, cells, slots⟩ (Value.ref b :: argsL).toArray q B ∧
      Steps p.tables e below (T.setTop g) ((B.U.setTop { g with stack := rest }).pushFrame (.throwing q))) := by
  obtain ⟨mk, methM, hnamed, hmethM, hstM, habM⟩ := Cond.instanceMethod_spec hinst
  obtain ⟨m8, methM', cM, hn8, hmethM', -, -, -, -, -, -, hsigM⟩ := Cond.codeWith_spec hcode
  cases Option.some.inj (hn8.symm.trans hnamed)
  cases hmethM.symm.trans hmethM'
  obtain ⟨c2, r2, m2, q1, q2, q3, q4, kP, hkP, hkPi⟩ := Cond.selects_spec hsel
  cases hcls.symm.trans q1
  cases (State.methodFound?_of_named hnamed hy).symm.trans q2
  cases hnamed.symm.trans q3
  have hselP : selectMethod e.platform s.vm cellB.cls mk = .method mk := by rw [Launch.admits_selectMethod X.admits]; exact q4
  obtain ⟨vm₁, X₁, hstep₁⟩ := X.invokevirtual hexec hown hlink hnamed hmethM hstM hkP hkPi hy (a := b) (cell := cellB) hcell
    (fun z h => by rw [h] at hobj; cases hobj) hselP hmethM habM hkP hkPi (g := g) hg (argsL := argsL) (rest := rest) (hlen _ hsigM) hstack hdg
  rcases hK m meth c ⟨T.setVm vm₁, locs, cells, slots⟩ { g with stack := rest } (.invokevirtual index) mk (Value.ref b :: argsL).toArray X₁ hg hsize hdg hW (X₁.named hnamed) (hpre vm₁ X₁.warmed) with ⟨v, B, X', hpost, hsteps⟩ | ⟨q, B, X', hpost, hsteps⟩
  · exact Or.inl ⟨v, vm₁, B, X₁.warmed, X', hpost, fun target h => hstep₁ _ fun acts => by rw [doInvoke_state]; exact hsteps.trans h⟩
  · exact Or.inr ⟨q, vm₁, B, X₁.warmed, X', hpost, hstep₁ _ fun acts => by rw [doInvoke_state]; exact hsteps⟩
theorem vx_callSX (X : Stand p l e R s m args below meth c T locs cells slots) (hexec : p.tables.exec = Jvm.exec) {own : String} {index : Nat} {y : MethodName} {bytes : ByteArray} {maxL : Nat} {ret : Option FieldType} {hh : List (Nat × Nat × Nat × Nat)}
    (hown : s.vm.findClass own = some m.cls) (hlink : (Cond.methodLink own index y).before args s = true) (hstat : (Cond.static y).before args s = true) (hinit : (Cond.initialized y.cls).before args s = true)
    (hcode : (Cond.codeWith y bytes maxL ret hh).before args s = true) (hy : y.cls ≠ "java/lang/invoke/MethodHandle" ∧ y.cls ≠ "java/lang/invoke/VarHandle")
    {W9 : Nat} {Pre : Pt → Array Value → Prop} {Post : Pt → Array Value → Option Value → Pt → Prop} {PostX : Pt → Array Value → Addr → Pt → Prop} (hK : vx_Back l R p e below s args y 3 W9 Pre Post PostX)
    {g : JFrame} (hg : g.method = m) (hsize : g.locals.size = c.maxLocals) {argsL rest : List Value} (hlen : ∀ sig, parseMethodDescriptor y.desc = some sig → argsL.length = sig.parameters.length)
    (hstack : g.stack = argsL.reverse ++ rest) (hW : 2 * g.monitorRoom + (rest.map fun v => v.category).sum ≤ W9) (hdg : decode c.code g.pc = .ok (.invokestatic index, 3))
    (hpre : ∀ vm₁, s.WarmedH vm₁ → Pre ⟨T.setVm vm₁, locs, cells, slots⟩ argsL.toArray) :
    (∃ (v : Option Value) (vm₁ : Vm) (B : Pt), s.WarmedH vm₁ ∧ Stand p l e R s m args below meth c B.U B.locs B.cells B.slots ∧ Post ⟨T.setVm vm₁, locs, cells, slots⟩ argsL.toArray v B ∧
      ∀ target, Steps p.tables e below (B.U.setTop { g with pc := g.pc + 3, stack := v.toList ++ rest }) target → Steps p.tables e below (T.setTop g) target) ∨
    (∃ (q : Addr) (vm₁ : Vm) (B : Pt), s.WarmedH vm₁ ∧ Stand p l e R s m args below meth c B.U B.locs B.cells B.slots ∧ PostX ⟨T.setVm vm₁, locs, cells, slots⟩ argsL.toArray q B ∧
      Steps p.tables e below (T.setTop g) ((B.U.setTop { g with stack := rest }).pushFrame (.throwing q))) := by
  obtain ⟨mk, methM, cM, hnamed, hmethM, -, -, -, -, -, -, hsigM⟩ := Cond.codeWith_spec hcode
  have hstatic : methM.isStatic = true := Cond.static_spec hnamed hmethM hstat
  obtain ⟨kP, hkP, -⟩ := className_of_methodNamed hnamed
  have hinitP : kP.init = .initialized := Cond.initialized_spec (findClass_of_methodNamed hnamed) hkP hinit
  obtain ⟨vm₁, X₁, hstep₁⟩ := X.invokestatic hexec hown hlink hnamed hmethM hstatic hkP hinitP hy (g := g) hg (argsL := argsL) (rest := rest) (hlen _ hsigM) hstack hdg
  rcases hK m meth c ⟨T.setVm vm₁, locs, cells, slots⟩ { g with stack := rest } (.invokestatic index) mk argsL.toArray X₁ hg hsize hdg hW (X₁.named hnamed) (hpre vm₁ X₁.warmed) with ⟨v, B, X', hpost, hsteps⟩ | ⟨q, B, X', hpost, hsteps⟩
  · exact Or.inl ⟨v, vm₁, B, X₁.warmed, X', hpost, fun target h => hstep₁ _ fun acts => by rw [doInvoke_state]; exact hsteps.trans h⟩
  · exact Or.inr ⟨q, vm₁, B, X₁.warmed, X', hpost, hstep₁ _ fun acts => by rw [doInvoke_state]; exact hsteps⟩
theorem vx_callVW (X : Stand p l e R s m args below meth c T locs cells slots) (hexec : p.tables.exec = Jvm.exec) {own C : String} {index : Nat} {y : MethodName} {bytes : ByteArray} {maxL : Nat} {ret : Option FieldType} {hh : List (Nat × Nat × Nat × Nat)}
    (hown : s.vm.findClass own = some m.cls) (hlink : (Cond.methodLink own index y).before args s = true) (hinst : (Cond.instanceMethod y).before args s = true) (hsel : (Cond.selects C y y).before args s = true)
    (hcode : (Cond.codeWith y bytes maxL ret hh).before args s = true) (hy : y.cls ≠ "java/lang/invoke/MethodHandle" ∧ y.cls ≠ "java/lang/invoke/VarHandle")
    {W9 : Nat} {Pre : Pt → Array Value → Prop} {Post : Pt → Array Value → Option Value → Pt → Prop} (hK : Back l R p e below s args y 3 W9 Pre Post)
    {b : Addr} {cellB : Cell} (hcell : T.heap[b]? = some cellB) (hobj : cellB.vm.isStatics = false) (hcls : s.vm.findClass C = some cellB.cls)
    {g : JFrame} (hg : g.method = m) (hsize : g.locals.size = c.maxLocals) {argsL rest : List Value} (hlen : ∀ sig, parseMethodDescriptor y.desc = some sig → argsL.length = sig.parameters.length)
    (hstack : g.stack = argsL.reverse ++ .ref b :: rest) (hW : 2 * g.monitorRoom + (rest.map fun v => v.category).sum ≤ W9) (hdg : decode c.code g.pc = .ok (.invokevirtual index, 3))
    (hpre : ∀ vm₁, s.WarmedH vm₁ → Pre ⟨T.setVm vm₁, locs, cells, slots⟩ (Value.ref b :: argsL).toArray) :
    ∃ (v : Option Value) (vm₁ : Vm) (B : Pt), s.WarmedH vm₁ ∧ Stand p l e R s m args below meth c B.U B.locs B.cells B.slots ∧ Post ⟨T.setVm vm₁, locs, cells, slots⟩ (Value.ref b :: argsL).toArray v B ∧
      ∀ target, Steps p.tables e below (B.U.setTop { g with pc := g.pc + 3, stack := v.toList ++ rest }) target → Steps p.tables e below (T.setTop g) target := by
  obtain ⟨mk, methM, hnamed, hmethM, hstM, habM⟩ := Cond.instanceMethod_spec hinst
  obtain ⟨m8, methM', cM, hn8, hmethM', -, -, -, -, -, -, hsigM⟩ := Cond.codeWith_spec hcode
  cases Option.some.inj (hn8.symm.trans hnamed)
  cases hmethM.symm.trans hmethM'
  obtain ⟨c2, r2, m2, q1, q2, q3, q4, kP, hkP, hkPi⟩ := Cond.selects_spec hsel
  cases hcls.symm.trans q1
  cases (State.methodFound?_of_named hnamed hy).symm.trans q2
  cases hnamed.symm.trans q3
  have hselP : selectMethod e.platform s.vm cellB.cls mk = .method mk := by rw [Launch.admits_selectMethod X.admits]; exact q4
  obtain ⟨vm₁, X₁, hstep₁⟩ := X.invokevirtual hexec hown hlink hnamed hmethM hstM hkP hkPi hy (a := b) (cell := cellB) hcell
    (fun z h => by rw [h] at hobj; cases hobj) hselP hmethM habM hkP hkPi (g := g) hg (argsL := argsL) (rest := rest) (hlen _ hsigM) hstack hdg
  obtain ⟨v, B, X', hpost, hsteps⟩ := hK m meth c ⟨T.setVm vm₁, locs, cells, slots⟩ { g with stack := rest } (.invokevirtual index) mk (Value.ref b :: argsL).toArray X₁ hg hsize hdg hW (X₁.named hnamed) (hpre vm₁ X₁.warmed)
  exact ⟨v, vm₁, B, X₁.warmed, X', hpost, fun target h => hstep₁ _ fun acts => by rw [doInvoke_state]; exact hsteps.trans h⟩
abbrev vx_CVW (R : Room) (s : State) (args : Array Value) (own C : String) (index : Nat) (y : MethodName) (bytes : ByteArray) (maxL : Nat) (ret : Option FieldType) (hh : List (Nat × Nat × Nat × Nat)) (ws : List Cond) (rm : Room) (mc ms n : Nat) : Prop :=
  (rm.cells = mc ∧ rm.slots = ms ∧ rm.frames + 1 ≤ R.frames ∧ 8 + (maxL + 11) + rm.locals ≤ R.locals ∧ (∀ w ∈ ws, ∀ (a' : Array Value) (U : State), s.WarmedH U.vm → w.before a' U = true) ∧ Cond.codeWith y bytes maxL ret hh ∈ ws) ∧
  (Cond.codeWith y bytes maxL ret hh).before args s = true ∧ (Cond.initialized y.cls).before args s = true ∧ (y.cls ≠ "java/lang/invoke/MethodHandle" ∧ y.cls ≠ "java/lang/invoke/VarHandle") ∧
  (∀ sig, parseMethodDescriptor y.desc = some sig → n = sig.parameters.length) ∧ (Cond.methodLink own index y).before args s = true ∧ (Cond.instanceMethod y).before args s = true ∧ (Cond.selects C y y).before args s = true
theorem vx_cwVW {own C : String} {index maxL mc ms : Nat} {y : MethodName} {bytes : ByteArray} {ret : Option FieldType} {hh : List (Nat × Nat × Nat × Nat)} {Ts ws ws' : List Cond} {rm : Room} (n : Nat) (ht : ∀ w ∈ Ts, w.before args s = true) (hT : GoodIn Ts (wsV own index C y ws)) (hw : ws = Cond.codeWith y bytes maxL ret hh :: ws') (hrc : rm.cells = mc) (hrs : rm.slots = ms)
    (hd : y.cls = C ∧ y.cls ≠ "java/lang/invoke/MethodHandle" ∧ y.cls ≠ "java/lang/invoke/VarHandle" ∧ (parseMethodDescriptor y.desc).map (fun d => d.parameters.length) = some n) (hR : rm.frames + 1 ≤ R.frames ∧ 8 + (maxL + 11) + rm.locals ≤ R.locals) :
    vx_CVW R s args own C index y bytes maxL ret hh ws rm mc ms n := by
  obtain ⟨hC, hd⟩ := hd
  subst hC
  have ok : ∀ w ∈ wsV own index y.cls y ws, w.before args s = true := fun w h => ht w (hT w h).1
  have hG : GoodIn Ts ws := fun w h => hT w (by unfold wsV; exact List.mem_append_right _ h)
  have hc : Cond.codeWith y bytes maxL ret hh ∈ ws := by rw [hw]; exact List.mem_cons_self
  refine ⟨⟨hrc, hrs, hR.1, hR.2, pay_in ht hG, hc⟩, ht _ (hG _ hc).1, ok _ (by simp [wsV]), ⟨hd.1, hd.2.1⟩, fun sig h => ?_, ok _ (by simp [wsV]), ok _ (by simp [wsV]), ok _ (by simp [wsV])⟩
  have h2 := hd.2.2
  rw [h] at h2
  exact (Option.some.inj h2).symm
theorem vx_runVW {y : MethodName} {bytes cc : ByteArray} {maxL nL mc ms n index : Nat} {ret : Option FieldType} {hh : List (Nat × Nat × Nat × Nat)} {ws : List Cond} {rm : Room} {Pc : Array Value → State → Prop} {Qc : Array Value → State → Outcome → State → Prop} {free : Addr → Prop} {Ts : List Cond} {own C : String} {b : Addr} {As rest : List Value} {g : JFrame}
    (S : CallFix p m c cc nL s args Ts own) (hM : Met l y ws rm Pc Qc mc ms free) (cw : vx_CVW R s args own C index y bytes maxL ret hh ws rm mc ms n) (hp : PreV s H C b Pc As)
    (hg : g.method = m) (hn : As.length = n) (hsize : g.locals.size = nL) (hstack : g.stack = As.reverse ++ .ref b :: rest) (hW : 2 * g.monitorRoom + (rest.map fun v => v.category).sum ≤ 8) (hdg : decode cc g.pc = .ok (.invokevirtual index, 3)) (hf : cells + mc ≤ R.cells ∧ slots + ms ≤ R.slots) :
    va_Run p l e R s m args below meth c H locs cells slots mc ms g rest (Qc (Value.ref b :: As).toArray) free := by
  obtain ⟨⟨hrc, hrs, hfr, hlo, hws, hcw⟩, hcode, hini, hy, hlen, hl, hin, hse⟩ := cw
  have hK : Back l R p e below s args y 3 8 (PreOf R mc ms Pc) (PostOf Qc mc ms free) := va_backW (hh := hh) (bytes := bytes) (maxL := maxL) (ret := ret) hM hp.1 hrc hrs hfr hlo hws hcw (fun a' U hW => word_at hW (Or.inl (by first | rfl | simp [Cond.onTables, Cond.keeps, Cond.steady])) hini)
  obtain ⟨hx, hb, hml, ho, -⟩ := S
  obtain ⟨-, ⟨cellB, hcB, hoB, hclB⟩, hPc⟩ := hp
  intro T hT X
  obtain ⟨v, vm₁, ⟨U', l2, c2, s2⟩, hW₁, X', ⟨g', mk, t, L, e1, e2, hq, h1, hL, h2, h3⟩, st⟩ := vx_callVW X hx (C := C) (hh := hh) (bytes := bytes) (maxL := maxL) (ret := ret) ho hl hin hse hcode hy hK (by rw [hT]; exact hcB) hoB hclB hg (hsize.trans hml.symm) (argsL := As) (rest := rest) (fun sig h => hn.trans (hlen sig h)) hstack hW (by rw [hb]; exact hdg)
    (fun vm₁ hW₁ => ⟨hf.1, hf.2, hPc (T.setVm vm₁) hT hW₁⟩)
  dsimp only [Pt.U, Pt.locs, Pt.cells, Pt.slots] at X' e1 e2 h1 h2 h3 st
  subst h1; subst h2; subst h3
  exact ⟨v, (T.setVm vm₁).calling g' mk (Value.ref b :: As).toArray, t, U', L, hT, X', hL, e1, e2, hq, st⟩
section
variable {y : MethodName} {bytes cc : ByteArray} {maxL nL mc ms n index : Nat} {ret : Option FieldType} {ws : List Cond} {rm : Room} {Pc : Array Value → State → Prop} {Qc : Array Value → State → Outcome → State → Prop} {XC : String → State → State → Prop} {free : Addr → Prop} {Ts : List Cond} {own C : String} {b : Addr} {As rest : List Value} {g : JFrame}
theorem vx_runVX {hh : List (Nat × Nat × Nat × Nat)} (S : CallFix p m c cc nL s args Ts own) (hM : vx_Met l y ws rm Pc Qc XC mc ms free) (cw : vx_CVW R s args own C index y bytes maxL ret hh ws rm mc ms n) (hp : PreV s H C b Pc As)
    (hg : g.method = m) (hn : As.length = n) (hsize : g.locals.size = nL) (hstack : g.stack = As.reverse ++ .ref b :: rest) (hW : 2 * g.monitorRoom + (rest.map fun v => v.category).sum ≤ 8) (hdg : decode cc g.pc = .ok (.invokevirtual index, 3)) (hf : cells + mc ≤ R.cells ∧ slots + ms ≤ R.slots) :
    vx_Run p l e R s m args below meth c H locs cells slots mc ms g rest (Qc (Value.ref b :: As).toArray) XC free := by
  obtain ⟨⟨hrc, hrs, hfr, hlo, hws, hcw⟩, hcode, hini, hy, hlen, hl, hin, hse⟩ := cw
  have hK : vx_Back l R p e below s args y 3 8 (PreOf R mc ms Pc) (PostOf Qc mc ms free) (vx_Post XC mc ms free) := vx_backW (hh := hh) (bytes := bytes) (maxL := maxL) (ret := ret) hM hp.1 hrc hrs hfr hlo hws hcw (fun a' U hW => word_at hW (Or.inl (by first | rfl | simp [Cond.onTables, Cond.keeps, Cond.steady])) hini)
  obtain ⟨hx, hb, hml, ho, -⟩ := S
  obtain ⟨-, ⟨cellB, hcB, hoB, hclB⟩, hPc⟩ := hp
  intro T hT X
  rcases vx_callVX X hx (C := C) (hh := hh) (bytes := bytes) (maxL := maxL) (ret := ret) ho hl hin hse hcode hy hK (by rw [hT]; exact hcB) hoB hclB hg (hsize.trans hml.symm) (argsL := As) (rest := rest) (fun sig h => hn.trans (hlen sig h)) hstack hW (by rw [hb]; exact hdg)
    (fun vm₁ hW₁ => ⟨hf.1, hf.2, hPc (T.setVm vm₁) hT hW₁⟩) with ⟨v, vm₁, ⟨U', l2, c2, s2⟩, hW₁, X', ⟨g', mk, t, L, e1, e2, hq, h1, hL, h2, h3⟩, st⟩ | ⟨q, vm₁, ⟨U', l2, c2, s2⟩, hW₁, X', ⟨g', mk, t, L, E, ce, e1, e2, hq, hce, hcv, hcl, h1, hL, h2, h3⟩, st⟩
  · dsimp only [Pt.U, Pt.locs, Pt.cells, Pt.slots] at X' e1 e2 h1 h2 h3 st
    subst h1; subst h2; subst h3
    exact Or.inl ⟨v, (T.setVm vm₁).calling g' mk (Value.ref b :: As).toArray, t, U', L, hT, X', hL, e1, e2, hq, st⟩
  · dsimp only [Pt.U, Pt.locs, Pt.cells, Pt.slots] at X' e1 e2 h1 h2 h3 st hcl
    subst h1; subst h2; subst h3
    exact Or.inr ⟨q, (T.setVm vm₁).calling g' mk (Value.ref b :: As).toArray, t, U', L, E, ce, hT, X', hL, e1, e2, hq, hce, hcv, vx_cls hW₁ hcl, st⟩
theorem vx_runSX {hh : List (Nat × Nat × Nat × Nat)} (S : CallFix p m c cc nL s args Ts own) (hM : vx_Met l y ws rm Pc Qc XC mc ms free) (cw : vx_CSW R s args own index y bytes maxL ret hh ws rm mc ms n) (hp : PreS s H Pc As)
    (hg : g.method = m) (hn : As.length = n) (hsize : g.locals.size = nL) (hstack : g.stack = As.reverse ++ rest) (hW : 2 * g.monitorRoom + (rest.map fun v => v.category).sum ≤ 8) (hdg : decode cc g.pc = .ok (.invokestatic index, 3)) (hf : cells + mc ≤ R.cells ∧ slots + ms ≤ R.slots) :
    vx_Run p l e R s m args below meth c H locs cells slots mc ms g rest (Qc As.toArray) XC free := by
  obtain ⟨⟨hrc, hrs, hfr, hlo, hws, hcw⟩, hcode, hini, hy, hlen, hl, hstt⟩ := cw
  have hK : vx_Back l R p e below s args y 3 8 (PreOf R mc ms Pc) (PostOf Qc mc ms free) (vx_Post XC mc ms free) := vx_backW (hh := hh) (bytes := bytes) (maxL := maxL) (ret := ret) hM hp.1 hrc hrs hfr hlo hws hcw (fun a' U hW => word_at hW (Or.inl (by first | rfl | simp [Cond.onTables, Cond.keeps, Cond.steady])) hini)
  obtain ⟨hx, hb, hml, ho, -⟩ := S
  intro T hT X
  rcases vx_callSX X hx (hh := hh) (bytes := bytes) (maxL := maxL) (ret := ret) ho hl hstt hini hcode hy hK hg (hsize.trans hml.symm) (argsL := As) (rest := rest) (fun sig h => hn.trans (hlen sig h)) hstack hW (by rw [hb]; exact hdg)
    (fun vm₁ hW₁ => ⟨hf.1, hf.2, hp.2 (T.setVm vm₁) hT hW₁⟩) with ⟨v, vm₁, ⟨U', l2, c2, s2⟩, hW₁, X', ⟨g', mk, t, L, e1, e2, hq, h1, hL, h2, h3⟩, st⟩ | ⟨q, vm₁, ⟨U', l2, c2, s2⟩, hW₁, X', ⟨g', mk, t, L, E, ce, e1, e2, hq, hce, hcv, hcl, h1, hL, h2, h3⟩, st⟩
  · dsimp only [Pt.U, Pt.locs, Pt.cells, Pt.slots] at X' e1 e2 h1 h2 h3 st
    subst h1; subst h2; subst h3
    exact Or.inl ⟨v, (T.setVm vm₁).calling g' mk As.toArray, t, U', L, hT, X', hL, e1, e2, hq, st⟩
  · dsimp only [Pt.U, Pt.locs, Pt.cells, Pt.slots] at X' e1 e2 h1 h2 h3 st hcl
    subst h1; subst h2; subst h3
    exact Or.inr ⟨q, (T.setVm vm₁).calling g' mk As.toArray, t, U', L, E, ce, hT, X', hL, e1, e2, hq, hce, hcv, vx_cls hW₁ hcl, st⟩
end
end VXH
theorem vx_ofWH {l : Launch} {y : MethodName} {ws ws' : List Cond} {rm : Room} {Pc : Array Value → State → Prop} {Qc : Array Value → State → Outcome → State → Prop} {XC : String → State → State → Prop} {mc ms : Nat} {free : Addr → Prop} {cc : ByteArray} {maxL : Nat} {ret : Option FieldType} {hh : List (Nat × Nat × Nat × Nat)}
    (hy : plainName y.cls = true) (hw : ws = Cond.codeWith y cc maxL ret hh :: ws')
    (body : ∀ p e s m args below meth c s₁, BodyLoose p l y (headSpec ws rm) cc maxL ret e s m args below meth c s₁ → c.maxLocals = maxL → Pc args s →
      W p l e (headSpec ws rm).room s m args below meth c s.heap [] 0 0 (vx_MQ below Qc XC args s mc ms free) (entryFrame m args maxL)) : vx_Met l y ws rm Pc Qc XC mc ms free := by
  refine MetFree.of_bodyS (code := cc) (maxLocals := maxL) (ret := ret) hy ?_ ?_
  · intro args s m h hn
    obtain ⟨m9, meth, c, hn9, h1, h2, h3, h4, -, h5, h6, -⟩ := Cond.codeWith_spec (atoms_spec (ws := ws) h _ (by rw [hw]; exact List.mem_cons_self))
    cases hn.symm.trans hn9
    exact ⟨meth, c, h1, h2, h3, h4, h5, h6⟩
  · intro p e s m args below meth c s₁ B hml hP _
    have hh0 : s₁.heap = s.heap := by rw [B.state]; rfl
    obtain ⟨t, a1, o, b1, b2, b3⟩ := body p e s m args below meth c s₁ B hml hP s₁ hh0 (Stand.of_body B)
    exact ⟨t, o, a1, b1, b2, b3⟩
/-! ===== END ===== -/

/-! ===== BEGIN printed: names, fields, word lists, decode rows ===== -/
def RX0 : String := "Creditfabric$Buffers"
def TX0 : u_T := fun k => match k with
  | 0 => ("Creditfabric$Buffers", "slots", "LCreditfabric$Row;", true)
  | 1 => ("Creditfabric$Buffers", "sizes", "LCreditfabric$Row;", true)
  | _ => ("Creditfabric$Buffers", "room", "I", false)
def tyX0 : Nat → FieldType := fun k => match k with
  | 0 => .object "Creditfabric$Row"
  | 1 => .object "Creditfabric$Row"
  | _ => .int
abbrev wsX00 : List Cond := u_ws RX0 TX0 3
theorem nmX0 : ∀ a, a < 3 → ∀ b, b < 3 → a ≠ b → (TX0 a).2.1 ≠ (TX0 b).2.1 := by decide +kernel
theorem tyX0_ok : ∀ k, k < 3 → parseFieldDescriptor (TX0 k).2.2.1 = some (tyX0 k) := by decide +kernel
abbrev cX0_init : ByteArray := prog_2_method_1_code
def yX0_init : MethodName := ⟨RX0, "<init>", "()V"⟩
abbrev cX0_clear : ByteArray := prog_2_method_2_code
def yX0_clear : MethodName := ⟨RX0, "clear", "(I)V"⟩
abbrev cX0_size : ByteArray := prog_2_method_3_code
def yX0_size : MethodName := ⟨RX0, "size", "(I)I"⟩
abbrev cX0_free : ByteArray := prog_2_method_4_code
def yX0_free : MethodName := ⟨RX0, "free", "(I)I"⟩
abbrev cX0_isFull : ByteArray := prog_2_method_5_code
def yX0_isFull : MethodName := ⟨RX0, "isFull", "(I)Z"⟩
abbrev cX0_first : ByteArray := prog_2_method_6_code
def yX0_first : MethodName := ⟨RX0, "first", "(I)I"⟩
abbrev cX0_append : ByteArray := prog_2_method_7_code
def yX0_append : MethodName := ⟨RX0, "append", "(II)V"⟩
abbrev cX0_removeFirst : ByteArray := prog_2_method_8_code
def yX0_removeFirst : MethodName := ⟨RX0, "removeFirst", "(I)V"⟩
abbrev cX0_load : ByteArray := prog_2_method_9_code
def yX0_load : MethodName := ⟨RX0, "load", "(I)I"⟩
def RX1 : String := "Creditfabric$Circles"
def TX1 : u_T := fun k => match k with
  | 0 => ("Creditfabric$Circles", "grid", "LCreditfabric$Grid;", true)
  | 1 => ("Creditfabric$Circles", "traffic", "LCreditfabric$Packets;", true)
  | 2 => ("Creditfabric$Circles", "buffers", "LCreditfabric$Buffers;", true)
  | 3 => ("Creditfabric$Circles", "awaited", "LCreditfabric$Row;", true)
  | _ => ("Creditfabric$Circles", "hangings", "LCreditfabric$Row;", true)
def tyX1 : Nat → FieldType := fun k => match k with
  | 0 => .object "Creditfabric$Grid"
  | 1 => .object "Creditfabric$Packets"
  | 2 => .object "Creditfabric$Buffers"
  | 3 => .object "Creditfabric$Row"
  | _ => .object "Creditfabric$Row"
abbrev wsX10 : List Cond := u_ws RX1 TX1 5
theorem nmX1 : ∀ a, a < 5 → ∀ b, b < 5 → a ≠ b → (TX1 a).2.1 ≠ (TX1 b).2.1 := by decide +kernel
theorem tyX1_ok : ∀ k, k < 5 → parseFieldDescriptor (TX1 k).2.2.1 = some (tyX1 k) := by decide +kernel
abbrev cX1_init : ByteArray := prog_3_method_1_code
def yX1_init : MethodName := ⟨RX1, "<init>", "(LCreditfabric$Grid;LCreditfabric$Packets;LCreditfabric$Buffers;)V"⟩
abbrev cX1_countWaiting : ByteArray := prog_3_method_2_code
def yX1_countWaiting : MethodName := ⟨RX1, "countWaiting", "()I"⟩
abbrev cX1_awaitedBy : ByteArray := prog_3_method_3_code
def yX1_awaitedBy : MethodName := ⟨RX1, "awaitedBy", "(I)I"⟩
abbrev cX1_comesBack : ByteArray := prog_3_method_4_code
def yX1_comesBack : MethodName := ⟨RX1, "comesBack", "(I)Z"⟩
abbrev cX1_hangsTogether : ByteArray := prog_3_method_5_code
def yX1_hangsTogether : MethodName := ⟨RX1, "hangsTogether", "()Z"⟩
abbrev cX1_hangAlong : ByteArray := prog_3_method_6_code
def yX1_hangAlong : MethodName := ⟨RX1, "hangAlong", "(I)V"⟩
abbrev cX1_cutEnds : ByteArray := prog_3_method_7_code
def yX1_cutEnds : MethodName := ⟨RX1, "cutEnds", "()Z"⟩
abbrev cX1_isEnd : ByteArray := prog_3_method_8_code
def yX1_isEnd : MethodName := ⟨RX1, "isEnd", "(III)Z"⟩
abbrev cX1_nextBuffer : ByteArray := prog_3_method_9_code
def yX1_nextBuffer : MethodName := ⟨RX1, "nextBuffer", "(III)I"⟩
def RX2 : String := "Creditfabric$Credits"
def TX2 : u_T := fun k => match k with
  | 0 => ("Creditfabric$Credits", "there", "LCreditfabric$Row;", true)
  | 1 => ("Creditfabric$Credits", "coming", "LCreditfabric$Row;", true)
  | 2 => ("Creditfabric$Credits", "delay", "I", false)
  | _ => ("Creditfabric$Credits", "comingInAll", "I", false)
def tyX2 : Nat → FieldType := fun k => match k with
  | 0 => .object "Creditfabric$Row"
  | 1 => .object "Creditfabric$Row"
  | 2 => .int
  | _ => .int
abbrev wsX20 : List Cond := u_ws RX2 TX2 4
theorem nmX2 : ∀ a, a < 4 → ∀ b, b < 4 → a ≠ b → (TX2 a).2.1 ≠ (TX2 b).2.1 := by decide +kernel
theorem tyX2_ok : ∀ k, k < 4 → parseFieldDescriptor (TX2 k).2.2.1 = some (tyX2 k) := by decide +kernel
abbrev cX2_init : ByteArray := prog_4_method_1_code
def yX2_init : MethodName := ⟨RX2, "<init>", "()V"⟩
abbrev cX2_fill : ByteArray := prog_4_method_2_code
def yX2_fill : MethodName := ⟨RX2, "fill", "(II)V"⟩
abbrev cX2_there : ByteArray := prog_4_method_3_code
def yX2_there : MethodName := ⟨RX2, "there", "(I)I"⟩
abbrev cX2_take : ByteArray := prog_4_method_4_code
def yX2_take : MethodName := ⟨RX2, "take", "(I)V"⟩
abbrev cX2_giveBack : ByteArray := prog_4_method_5_code
def yX2_giveBack : MethodName := ⟨RX2, "giveBack", "(II)V"⟩
abbrev cX2_comeBack : ByteArray := prog_4_method_6_code
def yX2_comeBack : MethodName := ⟨RX2, "comeBack", "(I)V"⟩
abbrev cX2_settle : ByteArray := prog_4_method_7_code
def yX2_settle : MethodName := ⟨RX2, "settle", "(II)I"⟩
abbrev cX2_slotOf : ByteArray := prog_4_method_8_code
def yX2_slotOf : MethodName := ⟨RX2, "slotOf", "(II)I"⟩
def RX3 : String := "Creditfabric$Grid"
def TX3 : u_T := fun k => match k with
  | 0 => ("Creditfabric$Grid", "columnOf", "LCreditfabric$Row;", true)
  | 1 => ("Creditfabric$Grid", "rowOf", "LCreditfabric$Row;", true)
  | 2 => ("Creditfabric$Grid", "columns", "I", false)
  | _ => ("Creditfabric$Grid", "rows", "I", false)
def tyX3 : Nat → FieldType := fun k => match k with
  | 0 => .object "Creditfabric$Row"
  | 1 => .object "Creditfabric$Row"
  | 2 => .int
  | _ => .int
abbrev wsX30 : List Cond := u_ws RX3 TX3 4
theorem nmX3 : ∀ a, a < 4 → ∀ b, b < 4 → a ≠ b → (TX3 a).2.1 ≠ (TX3 b).2.1 := by decide +kernel
theorem tyX3_ok : ∀ k, k < 4 → parseFieldDescriptor (TX3 k).2.2.1 = some (tyX3 k) := by decide +kernel
abbrev cX3_init : ByteArray := prog_5_method_1_code
def yX3_init : MethodName := ⟨RX3, "<init>", "()V"⟩
abbrev cX3_lay : ByteArray := prog_5_method_2_code
def yX3_lay : MethodName := ⟨RX3, "lay", "(II)V"⟩
abbrev cX3_size : ByteArray := prog_5_method_3_code
def yX3_size : MethodName := ⟨RX3, "size", "()I"⟩
abbrev cX3_has : ByteArray := prog_5_method_4_code
def yX3_has : MethodName := ⟨RX3, "has", "(I)Z"⟩
abbrev cX3_behind : ByteArray := prog_5_method_5_code
def yX3_behind : MethodName := ⟨RX3, "behind", "(II)I"⟩
abbrev cX3_outputTowards : ByteArray := prog_5_method_6_code
def yX3_outputTowards : MethodName := ⟨RX3, "outputTowards", "(III)I"⟩
abbrev cX3_stepTowards : ByteArray := prog_5_method_7_code
def yX3_stepTowards : MethodName := ⟨RX3, "stepTowards", "(IIII)I"⟩
def RX4 : String := "Creditfabric$Packets"
def TX4 : u_T := fun k => match k with
  | 0 => ("Creditfabric$Packets", "grid", "LCreditfabric$Grid;", true)
  | 1 => ("Creditfabric$Packets", "sources", "LCreditfabric$Row;", true)
  | 2 => ("Creditfabric$Packets", "goals", "LCreditfabric$Row;", true)
  | 3 => ("Creditfabric$Packets", "lanes", "LCreditfabric$Row;", true)
  | 4 => ("Creditfabric$Packets", "modes", "LCreditfabric$Row;", true)
  | 5 => ("Creditfabric$Packets", "places", "LCreditfabric$Row;", true)
  | 6 => ("Creditfabric$Packets", "inputs", "LCreditfabric$Row;", true)
  | 7 => ("Creditfabric$Packets", "hopsGone", "LCreditfabric$Row;", true)
  | 8 => ("Creditfabric$Packets", "marks", "LCreditfabric$Row;", true)
  | 9 => ("Creditfabric$Packets", "count", "I", false)
  | _ => ("Creditfabric$Packets", "gone", "I", false)
def tyX4 : Nat → FieldType := fun k => match k with
  | 0 => .object "Creditfabric$Grid"
  | 1 => .object "Creditfabric$Row"
  | 2 => .object "Creditfabric$Row"
  | 3 => .object "Creditfabric$Row"
  | 4 => .object "Creditfabric$Row"
  | 5 => .object "Creditfabric$Row"
  | 6 => .object "Creditfabric$Row"
  | 7 => .object "Creditfabric$Row"
  | 8 => .object "Creditfabric$Row"
  | 9 => .int
  | _ => .int
abbrev wsX40 : List Cond := u_ws RX4 TX4 11
theorem nmX4 : ∀ a, a < 11 → ∀ b, b < 11 → a ≠ b → (TX4 a).2.1 ≠ (TX4 b).2.1 := by decide +kernel
theorem tyX4_ok : ∀ k, k < 11 → parseFieldDescriptor (TX4 k).2.2.1 = some (tyX4 k) := by decide +kernel
abbrev cX4_init : ByteArray := prog_6_method_1_code
def yX4_init : MethodName := ⟨RX4, "<init>", "(LCreditfabric$Grid;)V"⟩
abbrev cX4_clear : ByteArray := prog_6_method_2_code
def yX4_clear : MethodName := ⟨RX4, "clear", "()V"⟩
abbrev cX4_add : ByteArray := prog_6_method_3_code
def yX4_add : MethodName := ⟨RX4, "add", "(IIII)I"⟩
abbrev cX4_outputOf : ByteArray := prog_6_method_4_code
def yX4_outputOf : MethodName := ⟨RX4, "outputOf", "(I)I"⟩
abbrev cX4_goOver : ByteArray := prog_6_method_5_code
def yX4_goOver : MethodName := ⟨RX4, "goOver", "(III)V"⟩
abbrev cX4_goOut : ByteArray := prog_6_method_6_code
def yX4_goOut : MethodName := ⟨RX4, "goOut", "(I)V"⟩
def RX5 : String := "Creditfabric$Row"
def TX5 : u_T := fun k => match k with
  | _ => ("Creditfabric$Row", "numbers", "[I", true)
def tyX5 : Nat → FieldType := fun k => match k with
  | _ => .array .int
abbrev wsX50 : List Cond := u_ws RX5 TX5 1
theorem nmX5 : ∀ a, a < 1 → ∀ b, b < 1 → a ≠ b → (TX5 a).2.1 ≠ (TX5 b).2.1 := by decide +kernel
theorem tyX5_ok : ∀ k, k < 1 → parseFieldDescriptor (TX5 k).2.2.1 = some (tyX5 k) := by decide +kernel
abbrev cX5_init : ByteArray := prog_7_method_1_code
def yX5_init : MethodName := ⟨RX5, "<init>", "(I)V"⟩
abbrev cX5_at : ByteArray := prog_7_method_2_code
def yX5_at : MethodName := ⟨RX5, "at", "(I)I"⟩
abbrev cX5_put : ByteArray := prog_7_method_3_code
def yX5_put : MethodName := ⟨RX5, "put", "(II)V"⟩
abbrev cX5_add : ByteArray := prog_7_method_4_code
def yX5_add : MethodName := ⟨RX5, "add", "(II)V"⟩
abbrev cX5_fill : ByteArray := prog_7_method_5_code
def yX5_fill : MethodName := ⟨RX5, "fill", "(I)V"⟩
def RX6 : String := "Creditfabric$Senders"
def TX6 : u_T := fun k => match k with
  | 0 => ("Creditfabric$Senders", "gaps", "LCreditfabric$Row;", true)
  | _ => ("Creditfabric$Senders", "lastTicks", "LCreditfabric$Row;", true)
def tyX6 : Nat → FieldType := fun k => match k with
  | 0 => .object "Creditfabric$Row"
  | _ => .object "Creditfabric$Row"
abbrev wsX60 : List Cond := u_ws RX6 TX6 2
theorem nmX6 : ∀ a, a < 2 → ∀ b, b < 2 → a ≠ b → (TX6 a).2.1 ≠ (TX6 b).2.1 := by decide +kernel
theorem tyX6_ok : ∀ k, k < 2 → parseFieldDescriptor (TX6 k).2.2.1 = some (tyX6 k) := by decide +kernel
abbrev cX6_init : ByteArray := prog_8_method_1_code
def yX6_init : MethodName := ⟨RX6, "<init>", "()V"⟩
abbrev cX6_clear : ByteArray := prog_8_method_2_code
def yX6_clear : MethodName := ⟨RX6, "clear", "()V"⟩
abbrev cX6_gapOf : ByteArray := prog_8_method_3_code
def yX6_gapOf : MethodName := ⟨RX6, "gapOf", "(I)I"⟩
abbrev cX6_isReady : ByteArray := prog_8_method_4_code
def yX6_isReady : MethodName := ⟨RX6, "isReady", "(II)Z"⟩
abbrev cX6_note : ByteArray := prog_8_method_5_code
def yX6_note : MethodName := ⟨RX6, "note", "(II)V"⟩
abbrev cX6_adapt : ByteArray := prog_8_method_6_code
def yX6_adapt : MethodName := ⟨RX6, "adapt", "(IZ)V"⟩
def RX7 : String := "Creditfabric"
def TX7 : u_T := fun k => match k with
  | 0 => ("Creditfabric", "grid", "LCreditfabric$Grid;", true)
  | 1 => ("Creditfabric", "traffic", "LCreditfabric$Packets;", true)
  | 2 => ("Creditfabric", "buffers", "LCreditfabric$Buffers;", true)
  | 3 => ("Creditfabric", "purse", "LCreditfabric$Credits;", true)
  | 4 => ("Creditfabric", "senders", "LCreditfabric$Senders;", true)
  | 5 => ("Creditfabric", "circles", "LCreditfabric$Circles;", true)
  | 6 => ("Creditfabric", "paused", "LCreditfabric$Row;", true)
  | 7 => ("Creditfabric", "turns", "LCreditfabric$Row;", true)
  | 8 => ("Creditfabric", "ready", "LCreditfabric$Row;", true)
  | 9 => ("Creditfabric", "chosen", "LCreditfabric$Row;", true)
  | 10 => ("Creditfabric", "chosenCount", "I", false)
  | _ => ("Creditfabric", "now", "I", false)
def tyX7 : Nat → FieldType := fun k => match k with
  | 0 => .object "Creditfabric$Grid"
  | 1 => .object "Creditfabric$Packets"
  | 2 => .object "Creditfabric$Buffers"
  | 3 => .object "Creditfabric$Credits"
  | 4 => .object "Creditfabric$Senders"
  | 5 => .object "Creditfabric$Circles"
  | 6 => .object "Creditfabric$Row"
  | 7 => .object "Creditfabric$Row"
  | 8 => .object "Creditfabric$Row"
  | 9 => .object "Creditfabric$Row"
  | 10 => .int
  | _ => .int
abbrev wsX70 : List Cond := u_ws RX7 TX7 12
theorem nmX7 : ∀ a, a < 12 → ∀ b, b < 12 → a ≠ b → (TX7 a).2.1 ≠ (TX7 b).2.1 := by decide +kernel
theorem tyX7_ok : ∀ k, k < 12 → parseFieldDescriptor (TX7 k).2.2.1 = some (tyX7 k) := by decide +kernel
abbrev cX7_init : ByteArray := prog_1_method_1_code
def yX7_init : MethodName := ⟨RX7, "<init>", "()V"⟩
abbrev cX7_begin : ByteArray := prog_1_method_2_code
def yX7_begin : MethodName := ⟨RX7, "begin", "(IIII)I"⟩
abbrev cX7_send : ByteArray := prog_1_method_3_code
def yX7_send : MethodName := ⟨RX7, "send", "(IIII)I"⟩
abbrev cX7_run : ByteArray := prog_1_method_4_code
def yX7_run : MethodName := ⟨RX7, "run", "(I)I"⟩
abbrev cX7_pause : ByteArray := prog_1_method_5_code
def yX7_pause : MethodName := ⟨RX7, "pause", "(IZ)Z"⟩
abbrev cX7_lose : ByteArray := prog_1_method_6_code
def yX7_lose : MethodName := ⟨RX7, "lose", "(III)I"⟩
abbrev cX7_recover : ByteArray := prog_1_method_7_code
def yX7_recover : MethodName := ⟨RX7, "recover", "()I"⟩
abbrev cX7_tick : ByteArray := prog_1_method_8_code
def yX7_tick : MethodName := ⟨RX7, "tick", "()I"⟩
abbrev cX7_packets : ByteArray := prog_1_method_9_code
def yX7_packets : MethodName := ⟨RX7, "packets", "()I"⟩
abbrev cX7_arrived : ByteArray := prog_1_method_10_code
def yX7_arrived : MethodName := ⟨RX7, "arrived", "()I"⟩
abbrev cX7_credits : ByteArray := prog_1_method_11_code
def yX7_credits : MethodName := ⟨RX7, "credits", "(III)I"⟩
abbrev cX7_inBuffer : ByteArray := prog_1_method_12_code
def yX7_inBuffer : MethodName := ⟨RX7, "inBuffer", "(III)I"⟩
abbrev cX7_gap : ByteArray := prog_1_method_13_code
def yX7_gap : MethodName := ⟨RX7, "gap", "(I)I"⟩
abbrev cX7_placeOf : ByteArray := prog_1_method_14_code
def yX7_placeOf : MethodName := ⟨RX7, "placeOf", "(I)I"⟩
abbrev cX7_hops : ByteArray := prog_1_method_15_code
def yX7_hops : MethodName := ⟨RX7, "hops", "(I)I"⟩
abbrev cX7_isMarked : ByteArray := prog_1_method_16_code
def yX7_isMarked : MethodName := ⟨RX7, "isMarked", "(I)Z"⟩
abbrev cX7_wants : ByteArray := prog_1_method_17_code
def yX7_wants : MethodName := ⟨RX7, "wants", "(I)I"⟩
abbrev cX7_circle : ByteArray := prog_1_method_18_code
def yX7_circle : MethodName := ⟨RX7, "circle", "()I"⟩
abbrev cX7_mayCircle : ByteArray := prog_1_method_19_code
def yX7_mayCircle : MethodName := ⟨RX7, "mayCircle", "()Z"⟩
abbrev cX7_checkSwitch : ByteArray := prog_1_method_20_code
def yX7_checkSwitch : MethodName := ⟨RX7, "checkSwitch", "(I)V"⟩
abbrev cX7_checkLink : ByteArray := prog_1_method_21_code
def yX7_checkLink : MethodName := ⟨RX7, "checkLink", "(II)V"⟩
abbrev cX7_checkPacket : ByteArray := prog_1_method_22_code
def yX7_checkPacket : MethodName := ⟨RX7, "checkPacket", "(I)V"⟩
abbrev cX7_checkLane : ByteArray := prog_1_method_23_code
def yX7_checkLane : MethodName := ⟨RX7, "checkLane", "(I)V"⟩
abbrev cX7_layAnew : ByteArray := prog_1_method_24_code
def yX7_layAnew : MethodName := ⟨RX7, "layAnew", "(IIII)V"⟩
abbrev cX7_runOne : ByteArray := prog_1_method_25_code
def yX7_runOne : MethodName := ⟨RX7, "runOne", "()V"⟩
abbrev cX7_chooseAt : ByteArray := prog_1_method_26_code
def yX7_chooseAt : MethodName := ⟨RX7, "chooseAt", "(I)V"⟩
abbrev cX7_canGo : ByteArray := prog_1_method_27_code
def yX7_canGo : MethodName := ⟨RX7, "canGo", "(III)Z"⟩
abbrev cX7_takeTurn : ByteArray := prog_1_method_28_code
def yX7_takeTurn : MethodName := ⟨RX7, "takeTurn", "(III)V"⟩
abbrev cX7_move : ByteArray := prog_1_method_29_code
def yX7_move : MethodName := ⟨RX7, "move", "(I)V"⟩
abbrev cX7_markInCrowd : ByteArray := prog_1_method_30_code
def yX7_markInCrowd : MethodName := ⟨RX7, "markInCrowd", "(I)V"⟩
abbrev cX7_bufferOf : ByteArray := prog_1_method_31_code
def yX7_bufferOf : MethodName := ⟨RX7, "bufferOf", "(III)I"⟩
abbrev cX7_bufferBehind : ByteArray := prog_1_method_32_code
def yX7_bufferBehind : MethodName := ⟨RX7, "bufferBehind", "(III)I"⟩
def RX8 : String := "CreditfabricModel"
def TX8 : u_T := fun k => match k with
  | 0 => ("CreditfabricModel", "columns", "I", false)
  | 1 => ("CreditfabricModel", "rows", "I", false)
  | 2 => ("CreditfabricModel", "room", "I", false)
  | 3 => ("CreditfabricModel", "delay", "I", false)
  | 4 => ("CreditfabricModel", "tick", "I", false)
  | 5 => ("CreditfabricModel", "sent", "I", false)
  | 6 => ("CreditfabricModel", "out", "I", false)
  | 7 => ("CreditfabricModel", "buffer", "[I", true)
  | 8 => ("CreditfabricModel", "many", "[I", true)
  | 9 => ("CreditfabricModel", "credit", "[I", true)
  | 10 => ("CreditfabricModel", "coming", "[I", true)
  | 11 => ("CreditfabricModel", "next", "[I", true)
  | 12 => ("CreditfabricModel", "gap", "[I", true)
  | 13 => ("CreditfabricModel", "last", "[I", true)
  | 14 => ("CreditfabricModel", "isPaused", "[Z", true)
  | 15 => ("CreditfabricModel", "goal", "[I", true)
  | 16 => ("CreditfabricModel", "source", "[I", true)
  | 17 => ("CreditfabricModel", "lane", "[I", true)
  | 18 => ("CreditfabricModel", "mode", "[I", true)
  | 19 => ("CreditfabricModel", "place", "[I", true)
  | 20 => ("CreditfabricModel", "hops", "[I", true)
  | 21 => ("CreditfabricModel", "isMarked", "[Z", true)
  | 22 => ("CreditfabricModel", "chosen", "[I", true)
  | 23 => ("CreditfabricModel", "hangs", "[Z", true)
  | 24 => ("CreditfabricModel", "isGone", "[Z", true)
  | _ => ("CreditfabricModel", "thrown", "I", false)
def tyX8 : Nat → FieldType := fun k => match k with
  | 0 => .int
  | 1 => .int
  | 2 => .int
  | 3 => .int
  | 4 => .int
  | 5 => .int
  | 6 => .int
  | 7 => .array .int
  | 8 => .array .int
  | 9 => .array .int
  | 10 => .array .int
  | 11 => .array .int
  | 12 => .array .int
  | 13 => .array .int
  | 14 => .array .boolean
  | 15 => .array .int
  | 16 => .array .int
  | 17 => .array .int
  | 18 => .array .int
  | 19 => .array .int
  | 20 => .array .int
  | 21 => .array .boolean
  | 22 => .array .int
  | 23 => .array .boolean
  | 24 => .array .boolean
  | _ => .int
abbrev wsX80 : List Cond := u_ws RX8 TX8 26
theorem nmX8 : ∀ a, a < 26 → ∀ b, b < 26 → a ≠ b → (TX8 a).2.1 ≠ (TX8 b).2.1 := by decide +kernel
theorem tyX8_ok : ∀ k, k < 26 → parseFieldDescriptor (TX8 k).2.2.1 = some (tyX8 k) := by decide +kernel
abbrev cX8_init : ByteArray := prog_10_method_1_code
def yX8_init : MethodName := ⟨RX8, "<init>", "()V"⟩
abbrev cX8_thrown : ByteArray := prog_10_method_2_code
def yX8_thrown : MethodName := ⟨RX8, "thrown", "()I"⟩
abbrev cX8_goes : ByteArray := prog_10_method_3_code
def yX8_goes : MethodName := ⟨RX8, "goes", "(ZZZ)Z"⟩
abbrev cX8_isWithin : ByteArray := prog_10_method_4_code
def yX8_isWithin : MethodName := ⟨RX8, "isWithin", "(III)Z"⟩
abbrev cX8_isSwitch : ByteArray := prog_10_method_5_code
def yX8_isSwitch : MethodName := ⟨RX8, "isSwitch", "(I)Z"⟩
abbrev cX8_isPacket : ByteArray := prog_10_method_6_code
def yX8_isPacket : MethodName := ⟨RX8, "isPacket", "(I)Z"⟩
abbrev cX8_bufferOf : ByteArray := prog_10_method_7_code
def yX8_bufferOf : MethodName := ⟨RX8, "bufferOf", "(III)I"⟩
abbrev cX8_linkOf : ByteArray := prog_10_method_8_code
def yX8_linkOf : MethodName := ⟨RX8, "linkOf", "(III)I"⟩
abbrev cX8_neighbour : ByteArray := prog_10_method_9_code
def yX8_neighbour : MethodName := ⟨RX8, "neighbour", "(II)I"⟩
abbrev cX8_isLink : ByteArray := prog_10_method_10_code
def yX8_isLink : MethodName := ⟨RX8, "isLink", "(II)Z"⟩
abbrev cX8_begins : ByteArray := prog_10_method_11_code
def yX8_begins : MethodName := ⟨RX8, "begins", "(IIII)V"⟩
abbrev cX8_begin : ByteArray := prog_10_method_12_code
def yX8_begin : MethodName := ⟨RX8, "begin", "(IIII)I"⟩
abbrev cX8_puts : ByteArray := prog_10_method_13_code
def yX8_puts : MethodName := ⟨RX8, "puts", "(II)V"⟩
abbrev cX8_takes : ByteArray := prog_10_method_14_code
def yX8_takes : MethodName := ⟨RX8, "takes", "(I)I"⟩
abbrev cX8_send : ByteArray := prog_10_method_15_code
def yX8_send : MethodName := ⟨RX8, "send", "(IIII)I"⟩
abbrev cX8_wanted : ByteArray := prog_10_method_16_code
def yX8_wanted : MethodName := ⟨RX8, "wanted", "(II)I"⟩
abbrev cX8_canGo : ByteArray := prog_10_method_17_code
def yX8_canGo : MethodName := ⟨RX8, "canGo", "(III)Z"⟩
abbrev cX8_chooses : ByteArray := prog_10_method_18_code
def yX8_chooses : MethodName := ⟨RX8, "chooses", "(II)V"⟩
abbrev cX8_inSwitch : ByteArray := prog_10_method_19_code
def yX8_inSwitch : MethodName := ⟨RX8, "inSwitch", "(I)I"⟩
abbrev cX8_comeBack : ByteArray := prog_10_method_20_code
def yX8_comeBack : MethodName := ⟨RX8, "comeBack", "()V"⟩
abbrev cX8_leaves : ByteArray := prog_10_method_21_code
def yX8_leaves : MethodName := ⟨RX8, "leaves", "(II)V"⟩
abbrev cX8_ticks : ByteArray := prog_10_method_22_code
def yX8_ticks : MethodName := ⟨RX8, "ticks", "()I"⟩
abbrev cX8_run : ByteArray := prog_10_method_23_code
def yX8_run : MethodName := ⟨RX8, "run", "(I)I"⟩
abbrev cX8_pause : ByteArray := prog_10_method_24_code
def yX8_pause : MethodName := ⟨RX8, "pause", "(IZ)Z"⟩
abbrev cX8_lose : ByteArray := prog_10_method_25_code
def yX8_lose : MethodName := ⟨RX8, "lose", "(III)I"⟩
abbrev cX8_recover : ByteArray := prog_10_method_26_code
def yX8_recover : MethodName := ⟨RX8, "recover", "()I"⟩
abbrev cX8_tick : ByteArray := prog_10_method_27_code
def yX8_tick : MethodName := ⟨RX8, "tick", "()I"⟩
abbrev cX8_packets : ByteArray := prog_10_method_28_code
def yX8_packets : MethodName := ⟨RX8, "packets", "()I"⟩
abbrev cX8_arrived : ByteArray := prog_10_method_29_code
def yX8_arrived : MethodName := ⟨RX8, "arrived", "()I"⟩
abbrev cX8_credits : ByteArray := prog_10_method_30_code
def yX8_credits : MethodName := ⟨RX8, "credits", "(III)I"⟩
abbrev cX8_inBuffer : ByteArray := prog_10_method_31_code
def yX8_inBuffer : MethodName := ⟨RX8, "inBuffer", "(III)I"⟩
abbrev cX8_gap : ByteArray := prog_10_method_32_code
def yX8_gap : MethodName := ⟨RX8, "gap", "(I)I"⟩
abbrev cX8_placeOf : ByteArray := prog_10_method_33_code
def yX8_placeOf : MethodName := ⟨RX8, "placeOf", "(I)I"⟩
abbrev cX8_hops : ByteArray := prog_10_method_34_code
def yX8_hops : MethodName := ⟨RX8, "hops", "(I)I"⟩
abbrev cX8_isMarked : ByteArray := prog_10_method_35_code
def yX8_isMarked : MethodName := ⟨RX8, "isMarked", "(I)Z"⟩
abbrev cX8_wants : ByteArray := prog_10_method_36_code
def yX8_wants : MethodName := ⟨RX8, "wants", "(I)I"⟩
abbrev cX8_waitsFor : ByteArray := prog_10_method_37_code
def yX8_waitsFor : MethodName := ⟨RX8, "waitsFor", "(I)I"⟩
abbrev cX8_circle : ByteArray := prog_10_method_38_code
def yX8_circle : MethodName := ⟨RX8, "circle", "()I"⟩
abbrev cX8_lays : ByteArray := prog_10_method_39_code
def yX8_lays : MethodName := ⟨RX8, "lays", "()V"⟩
abbrev cX8_mayCircle : ByteArray := prog_10_method_40_code
def yX8_mayCircle : MethodName := ⟨RX8, "mayCircle", "()Z"⟩
def RJ9 : String := "java/lang/Math"
def TJ9 : u_T := fun k => match k with
  | _ => ("", "", "", false)
def tyJ9 : Nat → FieldType := fun k => match k with
  | _ => .int
abbrev wsJ90 : List Cond := u_ws RJ9 TJ9 0
theorem nmJ9 : ∀ a, a < 0 → ∀ b, b < 0 → a ≠ b → (TJ9 a).2.1 ≠ (TJ9 b).2.1 := by decide +kernel
theorem tyJ9_ok : ∀ k, k < 0 → parseFieldDescriptor (TJ9 k).2.2.1 = some (tyJ9 k) := by decide +kernel
abbrev cJ9_max_7cf53 : ByteArray := prog_15_method_65_code
def yJ9_max_7cf53 : MethodName := ⟨RJ9, "max", "(II)I"⟩
abbrev cJ9_min_7cf53 : ByteArray := prog_15_method_69_code
def yJ9_min_7cf53 : MethodName := ⟨RJ9, "min", "(II)I"⟩
def RJ0 : String := "java/lang/String"
def TJ0 : u_T := fun k => match k with
  | _ => ("", "", "", false)
def tyJ0 : Nat → FieldType := fun k => match k with
  | _ => .int
abbrev wsJ00 : List Cond := u_ws RJ0 TJ0 0
theorem nmJ0 : ∀ a, a < 0 → ∀ b, b < 0 → a ≠ b → (TJ0 a).2.1 ≠ (TJ0 b).2.1 := by decide +kernel
theorem tyJ0_ok : ∀ k, k < 0 → parseFieldDescriptor (TJ0 k).2.2.1 = some (tyJ0 k) := by decide +kernel
def RL : String := "CreditfabricLaw"
abbrev cL_begin : ByteArray := method_3_code
def yL_begin : MethodName := ⟨RL, "begin", "(LCreditfabric;IIII[J)I"⟩
abbrev cL_send : ByteArray := method_4_code
def yL_send : MethodName := ⟨RL, "send", "(LCreditfabric;IIII[J)I"⟩
abbrev cL_run : ByteArray := method_5_code
def yL_run : MethodName := ⟨RL, "run", "(LCreditfabric;I[J)I"⟩
abbrev cL_pause : ByteArray := method_6_code
def yL_pause : MethodName := ⟨RL, "pause", "(LCreditfabric;IZ[J)I"⟩
abbrev cL_lose : ByteArray := method_7_code
def yL_lose : MethodName := ⟨RL, "lose", "(LCreditfabric;III[J)I"⟩
abbrev cL_credits : ByteArray := method_8_code
def yL_credits : MethodName := ⟨RL, "credits", "(LCreditfabric;III[J)I"⟩
abbrev cL_inBuffer : ByteArray := method_9_code
def yL_inBuffer : MethodName := ⟨RL, "inBuffer", "(LCreditfabric;III[J)I"⟩
abbrev cL_gap : ByteArray := method_10_code
def yL_gap : MethodName := ⟨RL, "gap", "(LCreditfabric;I[J)I"⟩
abbrev cL_placeOf : ByteArray := method_11_code
def yL_placeOf : MethodName := ⟨RL, "placeOf", "(LCreditfabric;I[J)I"⟩
abbrev cL_hops : ByteArray := method_12_code
def yL_hops : MethodName := ⟨RL, "hops", "(LCreditfabric;I[J)I"⟩
abbrev cL_isMarked : ByteArray := method_13_code
def yL_isMarked : MethodName := ⟨RL, "isMarked", "(LCreditfabric;I[J)I"⟩
abbrev cL_wants : ByteArray := method_14_code
def yL_wants : MethodName := ⟨RL, "wants", "(LCreditfabric;I[J)I"⟩
abbrev cL_law : ByteArray := code
def yL_law : MethodName := ⟨RL, "law", "([I)Z"⟩
def wsX5_init : List Cond := .code yX5_init cX5_init 2 none :: ([.methodLink RX5 1 objectInit, .instanceMethod objectInit, .code objectInit ⟨#[0xb1]⟩ 1 none, .arrayClass .int, .fieldLink RX5 7 "Creditfabric$Row" "numbers" "[I"] ++ wsX50)
def wsX0_init : List Cond := .code yX0_init cX0_init 1 none :: ([.methodLink RX0 3 objectInit, .instanceMethod objectInit, .code objectInit ⟨#[0xb1]⟩ 1 none, .classLink RX0 9 RX5, .instantiable RX5 1, .initialized RX5, .fieldLink RX0 14 "Creditfabric$Buffers" "slots" "LCreditfabric$Row;", .fieldLink RX0 20 "Creditfabric$Buffers" "sizes" "LCreditfabric$Row;", .methodLink RX0 11 yX5_init, .instanceMethod yX5_init, .code yX5_init cX5_init 2 none, .methodLink RX5 1 objectInit, .arrayClass .int, .fieldLink RX5 7 "Creditfabric$Row" "numbers" "[I"] ++ wsX50 ++ wsX00)
def wsX5_fill : List Cond := .code yX5_fill cX5_fill 3 none :: ([.fieldLink RX5 7 "Creditfabric$Row" "numbers" "[I"] ++ wsX50)
def wsX0_clear : List Cond := .code yX0_clear cX0_clear 2 none :: ([.fieldLink RX0 23 "Creditfabric$Buffers" "room" "I", .fieldLink RX0 20 "Creditfabric$Buffers" "sizes" "LCreditfabric$Row;", .methodLink RX0 27 yX5_fill, .instanceMethod yX5_fill, .selects RX5 yX5_fill yX5_fill, .initialized RX5, .code yX5_fill cX5_fill 3 none, .fieldLink RX5 7 "Creditfabric$Row" "numbers" "[I"] ++ wsX00 ++ wsX50)
def wsX5_at : List Cond := .code yX5_at cX5_at 2 (some .int) :: ([.fieldLink RX5 7 "Creditfabric$Row" "numbers" "[I"] ++ wsX50)
def wsX0_size : List Cond := .code yX0_size cX0_size 2 (some .int) :: ([.fieldLink RX0 20 "Creditfabric$Buffers" "sizes" "LCreditfabric$Row;", .methodLink RX0 30 yX5_at, .instanceMethod yX5_at, .selects RX5 yX5_at yX5_at, .initialized RX5, .code yX5_at cX5_at 2 (some .int), .fieldLink RX5 7 "Creditfabric$Row" "numbers" "[I"] ++ wsX00 ++ wsX50)
def wsX0_free : List Cond := .code yX0_free cX0_free 2 (some .int) :: ([.fieldLink RX0 23 "Creditfabric$Buffers" "room" "I", .fieldLink RX0 20 "Creditfabric$Buffers" "sizes" "LCreditfabric$Row;", .methodLink RX0 30 yX5_at, .instanceMethod yX5_at, .selects RX5 yX5_at yX5_at, .initialized RX5, .code yX5_at cX5_at 2 (some .int), .fieldLink RX5 7 "Creditfabric$Row" "numbers" "[I"] ++ wsX00 ++ wsX50)
def wsX0_isFull : List Cond := .code yX0_isFull cX0_isFull 2 (some .boolean) :: ([.fieldLink RX0 20 "Creditfabric$Buffers" "sizes" "LCreditfabric$Row;", .fieldLink RX0 23 "Creditfabric$Buffers" "room" "I", .methodLink RX0 30 yX5_at, .instanceMethod yX5_at, .selects RX5 yX5_at yX5_at, .initialized RX5, .code yX5_at cX5_at 2 (some .int), .fieldLink RX5 7 "Creditfabric$Row" "numbers" "[I"] ++ wsX00 ++ wsX50)
def wsX0_first : List Cond := .code yX0_first cX0_first 2 (some .int) :: ([.fieldLink RX0 20 "Creditfabric$Buffers" "sizes" "LCreditfabric$Row;", .fieldLink RX0 14 "Creditfabric$Buffers" "slots" "LCreditfabric$Row;", .methodLink RX0 30 yX5_at, .instanceMethod yX5_at, .selects RX5 yX5_at yX5_at, .initialized RX5, .code yX5_at cX5_at 2 (some .int), .fieldLink RX5 7 "Creditfabric$Row" "numbers" "[I"] ++ wsX00 ++ wsX50)
def wsX5_put : List Cond := .code yX5_put cX5_put 3 none :: ([.fieldLink RX5 7 "Creditfabric$Row" "numbers" "[I"] ++ wsX50)
def wsX5_add : List Cond := .code yX5_add cX5_add 3 none :: ([.methodLink RX5 13 yX5_at, .instanceMethod yX5_at, .selects RX5 yX5_at yX5_at, .initialized RX5, .code yX5_at cX5_at 2 (some .int), .fieldLink RX5 7 "Creditfabric$Row" "numbers" "[I", .methodLink RX5 17 yX5_put, .instanceMethod yX5_put, .selects RX5 yX5_put yX5_put, .code yX5_put cX5_put 3 none] ++ wsX50)
def wsX0_append : List Cond := .code yX0_append cX0_append 3 none :: ([.fieldLink RX0 14 "Creditfabric$Buffers" "slots" "LCreditfabric$Row;", .fieldLink RX0 20 "Creditfabric$Buffers" "sizes" "LCreditfabric$Row;", .methodLink RX0 34 yX0_isFull, .instanceMethod yX0_isFull, .selects RX0 yX0_isFull yX0_isFull, .initialized RX0, .code yX0_isFull cX0_isFull 2 (some .boolean), .fieldLink RX0 23 "Creditfabric$Buffers" "room" "I", .methodLink RX0 30 yX5_at, .instanceMethod yX5_at, .selects RX5 yX5_at yX5_at, .initialized RX5, .code yX5_at cX5_at 2 (some .int), .fieldLink RX5 7 "Creditfabric$Row" "numbers" "[I", .methodLink RX0 38 yX5_put, .instanceMethod yX5_put, .selects RX5 yX5_put yX5_put, .code yX5_put cX5_put 3 none, .methodLink RX0 42 yX5_add, .instanceMethod yX5_add, .selects RX5 yX5_add yX5_add, .code yX5_add cX5_add 3 none, .methodLink RX5 13 yX5_at, .methodLink RX5 17 yX5_put] ++ wsX00 ++ wsX50)
def wsX0_removeFirst : List Cond := .code yX0_removeFirst cX0_removeFirst 4 none :: ([.fieldLink RX0 20 "Creditfabric$Buffers" "sizes" "LCreditfabric$Row;", .fieldLink RX0 14 "Creditfabric$Buffers" "slots" "LCreditfabric$Row;", .methodLink RX0 30 yX5_at, .instanceMethod yX5_at, .selects RX5 yX5_at yX5_at, .initialized RX5, .code yX5_at cX5_at 2 (some .int), .fieldLink RX5 7 "Creditfabric$Row" "numbers" "[I", .methodLink RX0 38 yX5_put, .instanceMethod yX5_put, .selects RX5 yX5_put yX5_put, .code yX5_put cX5_put 3 none, .methodLink RX0 42 yX5_add, .instanceMethod yX5_add, .selects RX5 yX5_add yX5_add, .code yX5_add cX5_add 3 none, .methodLink RX5 13 yX5_at, .methodLink RX5 17 yX5_put] ++ wsX00 ++ wsX50)
def wsX0_load : List Cond := .code yX0_load cX0_load 4 (some .int) :: ([.fieldLink RX0 20 "Creditfabric$Buffers" "sizes" "LCreditfabric$Row;", .methodLink RX0 30 yX5_at, .instanceMethod yX5_at, .selects RX5 yX5_at yX5_at, .initialized RX5, .code yX5_at cX5_at 2 (some .int), .fieldLink RX5 7 "Creditfabric$Row" "numbers" "[I"] ++ wsX00 ++ wsX50)
def wsX1_init : List Cond := .code yX1_init cX1_init 4 none :: ([.methodLink RX1 3 objectInit, .instanceMethod objectInit, .code objectInit ⟨#[0xb1]⟩ 1 none, .classLink RX1 9 RX5, .instantiable RX5 1, .initialized RX5, .fieldLink RX1 14 "Creditfabric$Circles" "awaited" "LCreditfabric$Row;", .fieldLink RX1 20 "Creditfabric$Circles" "hangings" "LCreditfabric$Row;", .fieldLink RX1 23 "Creditfabric$Circles" "grid" "LCreditfabric$Grid;", .fieldLink RX1 27 "Creditfabric$Circles" "traffic" "LCreditfabric$Packets;", .fieldLink RX1 31 "Creditfabric$Circles" "buffers" "LCreditfabric$Buffers;", .methodLink RX1 11 yX5_init, .instanceMethod yX5_init, .code yX5_init cX5_init 2 none, .methodLink RX5 1 objectInit, .arrayClass .int, .fieldLink RX5 7 "Creditfabric$Row" "numbers" "[I"] ++ wsX50 ++ wsX10)
def wsX3_size : List Cond := .code yX3_size cX3_size 1 (some .int) :: ([.fieldLink RX3 23 "Creditfabric$Grid" "columns" "I", .fieldLink RX3 27 "Creditfabric$Grid" "rows" "I"] ++ wsX30)
def wsX3_stepTowards : List Cond := .code yX3_stepTowards cX3_stepTowards 4 (some .int) :: ([])
def wsX3_outputTowards : List Cond := .code yX3_outputTowards cX3_outputTowards 6 (some .int) :: ([.fieldLink RX3 14 "Creditfabric$Grid" "columnOf" "LCreditfabric$Row;", .fieldLink RX3 20 "Creditfabric$Grid" "rowOf" "LCreditfabric$Row;", .methodLink RX3 38 yX5_at, .instanceMethod yX5_at, .selects RX5 yX5_at yX5_at, .initialized RX5, .code yX5_at cX5_at 2 (some .int), .fieldLink RX5 7 "Creditfabric$Row" "numbers" "[I", .methodLink RX3 42 yX3_stepTowards, .static yX3_stepTowards, .initialized RX3, .code yX3_stepTowards cX3_stepTowards 4 (some .int)] ++ wsX30 ++ wsX50)
def wsX4_outputOf : List Cond := .code yX4_outputOf cX4_outputOf 3 (some .int) :: ([.fieldLink RX4 29 "Creditfabric$Packets" "places" "LCreditfabric$Row;", .fieldLink RX4 41 "Creditfabric$Packets" "grid" "LCreditfabric$Grid;", .fieldLink RX4 20 "Creditfabric$Packets" "goals" "LCreditfabric$Row;", .fieldLink RX4 26 "Creditfabric$Packets" "modes" "LCreditfabric$Row;", .methodLink RX4 56 yX5_at, .instanceMethod yX5_at, .selects RX5 yX5_at yX5_at, .initialized RX5, .code yX5_at cX5_at 2 (some .int), .fieldLink RX5 7 "Creditfabric$Row" "numbers" "[I", .methodLink RX4 60 yX3_outputTowards, .instanceMethod yX3_outputTowards, .selects RX3 yX3_outputTowards yX3_outputTowards, .initialized RX3, .code yX3_outputTowards cX3_outputTowards 6 (some .int), .fieldLink RX3 14 "Creditfabric$Grid" "columnOf" "LCreditfabric$Row;", .fieldLink RX3 20 "Creditfabric$Grid" "rowOf" "LCreditfabric$Row;", .methodLink RX3 38 yX5_at, .methodLink RX3 42 yX3_stepTowards, .static yX3_stepTowards, .code yX3_stepTowards cX3_stepTowards 4 (some .int)] ++ wsX40 ++ wsX50 ++ wsX30)
def wsX3_behind : List Cond := .code yX3_behind cX3_behind 3 (some .int) :: ([.fieldLink RX3 14 "Creditfabric$Grid" "columnOf" "LCreditfabric$Row;", .fieldLink RX3 23 "Creditfabric$Grid" "columns" "I", .fieldLink RX3 20 "Creditfabric$Grid" "rowOf" "LCreditfabric$Row;", .fieldLink RX3 27 "Creditfabric$Grid" "rows" "I", .methodLink RX3 38 yX5_at, .instanceMethod yX5_at, .selects RX5 yX5_at yX5_at, .initialized RX5, .code yX5_at cX5_at 2 (some .int), .fieldLink RX5 7 "Creditfabric$Row" "numbers" "[I"] ++ wsX30 ++ wsX50)
def wsX7_bufferOf : List Cond := .code yX7_bufferOf cX7_bufferOf 3 (some .int) :: ([])
def wsX1_nextBuffer : List Cond := .code yX1_nextBuffer cX1_nextBuffer 5 (some .int) :: ([.fieldLink RX1 23 "Creditfabric$Circles" "grid" "LCreditfabric$Grid;", .methodLink RX1 108 yX3_behind, .instanceMethod yX3_behind, .selects RX3 yX3_behind yX3_behind, .initialized RX3, .code yX3_behind cX3_behind 3 (some .int), .fieldLink RX3 14 "Creditfabric$Grid" "columnOf" "LCreditfabric$Row;", .fieldLink RX3 23 "Creditfabric$Grid" "columns" "I", .fieldLink RX3 20 "Creditfabric$Grid" "rowOf" "LCreditfabric$Row;", .fieldLink RX3 27 "Creditfabric$Grid" "rows" "I", .methodLink RX3 38 yX5_at, .instanceMethod yX5_at, .selects RX5 yX5_at yX5_at, .initialized RX5, .code yX5_at cX5_at 2 (some .int), .fieldLink RX5 7 "Creditfabric$Row" "numbers" "[I", .static yX7_bufferOf, .initialized RX7, .code yX7_bufferOf cX7_bufferOf 3 (some .int)] ++ wsX10 ++ wsX30 ++ wsX50)
def wsX1_awaitedBy_r1 : List Cond := [Cond.fieldLink RX1 31 "Creditfabric$Circles" "buffers" "LCreditfabric$Buffers;", Cond.fieldLink RX1 27 "Creditfabric$Circles" "traffic" "LCreditfabric$Packets;", Cond.methodLink RX1 53 yX0_first, Cond.instanceMethod yX0_first, Cond.selects RX0 yX0_first yX0_first, Cond.initialized RX0, Cond.code yX0_first cX0_first 2 (some .int), Cond.fieldLink RX0 20 "Creditfabric$Buffers" "sizes" "LCreditfabric$Row;", Cond.fieldLink RX0 14 "Creditfabric$Buffers" "slots" "LCreditfabric$Row;", Cond.methodLink RX0 30 yX5_at, Cond.instanceMethod yX5_at, Cond.selects RX5 yX5_at yX5_at, Cond.initialized RX5, Cond.code yX5_at cX5_at 2 (some .int), Cond.fieldLink RX5 7 "Creditfabric$Row" "numbers" "[I", Cond.methodLink RX1 63 yX5_at, Cond.methodLink RX1 66 yX4_outputOf, Cond.instanceMethod yX4_outputOf, Cond.selects RX4 yX4_outputOf yX4_outputOf, Cond.initialized RX4, Cond.code yX4_outputOf cX4_outputOf 3 (some .int), Cond.fieldLink RX4 29 "Creditfabric$Packets" "places" "LCreditfabric$Row;", Cond.fieldLink RX4 41 "Creditfabric$Packets" "grid" "LCreditfabric$Grid;", Cond.fieldLink RX4 20 "Creditfabric$Packets" "goals" "LCreditfabric$Row;"]
def wsX1_awaitedBy_r2 : List Cond := [Cond.fieldLink RX4 26 "Creditfabric$Packets" "modes" "LCreditfabric$Row;", Cond.methodLink RX4 56 yX5_at, Cond.methodLink RX4 60 yX3_outputTowards, Cond.instanceMethod yX3_outputTowards, Cond.selects RX3 yX3_outputTowards yX3_outputTowards, Cond.initialized RX3, Cond.code yX3_outputTowards cX3_outputTowards 6 (some .int), Cond.fieldLink RX3 14 "Creditfabric$Grid" "columnOf" "LCreditfabric$Row;", Cond.fieldLink RX3 20 "Creditfabric$Grid" "rowOf" "LCreditfabric$Row;", Cond.methodLink RX3 38 yX5_at, Cond.methodLink RX3 42 yX3_stepTowards, Cond.static yX3_stepTowards, Cond.code yX3_stepTowards cX3_stepTowards 4 (some .int), Cond.methodLink RX1 72 yX1_nextBuffer, Cond.instanceMethod yX1_nextBuffer, Cond.selects RX1 yX1_nextBuffer yX1_nextBuffer, Cond.initialized RX1, Cond.code yX1_nextBuffer cX1_nextBuffer 5 (some .int), Cond.fieldLink RX1 23 "Creditfabric$Circles" "grid" "LCreditfabric$Grid;", Cond.methodLink RX1 108 yX3_behind, Cond.instanceMethod yX3_behind, Cond.selects RX3 yX3_behind yX3_behind, Cond.code yX3_behind cX3_behind 3 (some .int), Cond.fieldLink RX3 23 "Creditfabric$Grid" "columns" "I"]
def wsX1_awaitedBy_r3 : List Cond := [Cond.fieldLink RX3 27 "Creditfabric$Grid" "rows" "I", Cond.static yX7_bufferOf, Cond.initialized RX7, Cond.code yX7_bufferOf cX7_bufferOf 3 (some .int), Cond.methodLink RX1 76 yX0_isFull, Cond.instanceMethod yX0_isFull, Cond.selects RX0 yX0_isFull yX0_isFull, Cond.code yX0_isFull cX0_isFull 2 (some .boolean), Cond.fieldLink RX0 23 "Creditfabric$Buffers" "room" "I"]
def wsX1_awaitedBy : List Cond := .code yX1_awaitedBy cX1_awaitedBy 4 (some .int) :: ((wsX1_awaitedBy_r1 ++ (wsX1_awaitedBy_r2 ++ wsX1_awaitedBy_r3)) ++ wsX10 ++ wsX40 ++ wsX00 ++ wsX50 ++ wsX30)
def wsX1_comesBack : List Cond := .code yX1_comesBack cX1_comesBack 4 (some .boolean) :: ([.fieldLink RX1 14 "Creditfabric$Circles" "awaited" "LCreditfabric$Row;", .methodLink RX1 63 yX5_at, .instanceMethod yX5_at, .selects RX5 yX5_at yX5_at, .initialized RX5, .code yX5_at cX5_at 2 (some .int), .fieldLink RX5 7 "Creditfabric$Row" "numbers" "[I"] ++ wsX10 ++ wsX50)
def wsX1_countWaiting_r1 : List Cond := [Cond.fieldLink RX1 23 "Creditfabric$Circles" "grid" "LCreditfabric$Grid;", Cond.fieldLink RX1 14 "Creditfabric$Circles" "awaited" "LCreditfabric$Row;", Cond.methodLink RX1 35 yX3_size, Cond.instanceMethod yX3_size, Cond.selects RX3 yX3_size yX3_size, Cond.initialized RX3, Cond.code yX3_size cX3_size 1 (some .int), Cond.fieldLink RX3 23 "Creditfabric$Grid" "columns" "I", Cond.fieldLink RX3 27 "Creditfabric$Grid" "rows" "I", Cond.methodLink RX1 41 yX1_awaitedBy, Cond.instanceMethod yX1_awaitedBy, Cond.selects RX1 yX1_awaitedBy yX1_awaitedBy, Cond.initialized RX1, Cond.code yX1_awaitedBy cX1_awaitedBy 4 (some .int), Cond.fieldLink RX1 31 "Creditfabric$Circles" "buffers" "LCreditfabric$Buffers;", Cond.fieldLink RX1 27 "Creditfabric$Circles" "traffic" "LCreditfabric$Packets;", Cond.methodLink RX1 53 yX0_first, Cond.instanceMethod yX0_first, Cond.selects RX0 yX0_first yX0_first, Cond.initialized RX0, Cond.code yX0_first cX0_first 2 (some .int), Cond.fieldLink RX0 20 "Creditfabric$Buffers" "sizes" "LCreditfabric$Row;", Cond.fieldLink RX0 14 "Creditfabric$Buffers" "slots" "LCreditfabric$Row;", Cond.methodLink RX0 30 yX5_at]
def wsX1_countWaiting_r2 : List Cond := [Cond.instanceMethod yX5_at, Cond.selects RX5 yX5_at yX5_at, Cond.initialized RX5, Cond.code yX5_at cX5_at 2 (some .int), Cond.fieldLink RX5 7 "Creditfabric$Row" "numbers" "[I", Cond.methodLink RX1 63 yX5_at, Cond.methodLink RX1 66 yX4_outputOf, Cond.instanceMethod yX4_outputOf, Cond.selects RX4 yX4_outputOf yX4_outputOf, Cond.initialized RX4, Cond.code yX4_outputOf cX4_outputOf 3 (some .int), Cond.fieldLink RX4 29 "Creditfabric$Packets" "places" "LCreditfabric$Row;", Cond.fieldLink RX4 41 "Creditfabric$Packets" "grid" "LCreditfabric$Grid;", Cond.fieldLink RX4 20 "Creditfabric$Packets" "goals" "LCreditfabric$Row;", Cond.fieldLink RX4 26 "Creditfabric$Packets" "modes" "LCreditfabric$Row;", Cond.methodLink RX4 56 yX5_at, Cond.methodLink RX4 60 yX3_outputTowards, Cond.instanceMethod yX3_outputTowards, Cond.selects RX3 yX3_outputTowards yX3_outputTowards, Cond.code yX3_outputTowards cX3_outputTowards 6 (some .int), Cond.fieldLink RX3 14 "Creditfabric$Grid" "columnOf" "LCreditfabric$Row;", Cond.fieldLink RX3 20 "Creditfabric$Grid" "rowOf" "LCreditfabric$Row;", Cond.methodLink RX3 38 yX5_at, Cond.methodLink RX3 42 yX3_stepTowards]
def wsX1_countWaiting_r3 : List Cond := [Cond.static yX3_stepTowards, Cond.code yX3_stepTowards cX3_stepTowards 4 (some .int), Cond.methodLink RX1 72 yX1_nextBuffer, Cond.instanceMethod yX1_nextBuffer, Cond.selects RX1 yX1_nextBuffer yX1_nextBuffer, Cond.code yX1_nextBuffer cX1_nextBuffer 5 (some .int), Cond.methodLink RX1 108 yX3_behind, Cond.instanceMethod yX3_behind, Cond.selects RX3 yX3_behind yX3_behind, Cond.code yX3_behind cX3_behind 3 (some .int), Cond.static yX7_bufferOf, Cond.initialized RX7, Cond.code yX7_bufferOf cX7_bufferOf 3 (some .int), Cond.methodLink RX1 76 yX0_isFull, Cond.instanceMethod yX0_isFull, Cond.selects RX0 yX0_isFull yX0_isFull, Cond.code yX0_isFull cX0_isFull 2 (some .boolean), Cond.fieldLink RX0 23 "Creditfabric$Buffers" "room" "I", Cond.methodLink RX1 45 yX5_put, Cond.instanceMethod yX5_put, Cond.selects RX5 yX5_put yX5_put, Cond.code yX5_put cX5_put 3 none, Cond.methodLink RX1 49 yX1_comesBack, Cond.instanceMethod yX1_comesBack]
def wsX1_countWaiting_r4 : List Cond := [Cond.selects RX1 yX1_comesBack yX1_comesBack, Cond.code yX1_comesBack cX1_comesBack 4 (some .boolean)]
def wsX1_countWaiting : List Cond := .code yX1_countWaiting cX1_countWaiting 4 (some .int) :: ((wsX1_countWaiting_r1 ++ (wsX1_countWaiting_r2 ++ (wsX1_countWaiting_r3 ++ wsX1_countWaiting_r4))) ++ wsX10 ++ wsX30 ++ wsX40 ++ wsX00 ++ wsX50)
def wsX1_hangAlong_r1 : List Cond := [Cond.fieldLink RX1 27 "Creditfabric$Circles" "traffic" "LCreditfabric$Packets;", Cond.fieldLink RX1 23 "Creditfabric$Circles" "grid" "LCreditfabric$Grid;", Cond.fieldLink RX1 20 "Creditfabric$Circles" "hangings" "LCreditfabric$Row;", Cond.methodLink RX1 63 yX5_at, Cond.instanceMethod yX5_at, Cond.selects RX5 yX5_at yX5_at, Cond.initialized RX5, Cond.code yX5_at cX5_at 2 (some .int), Cond.fieldLink RX5 7 "Creditfabric$Row" "numbers" "[I", Cond.static yX7_bufferOf, Cond.initialized RX7, Cond.code yX7_bufferOf cX7_bufferOf 3 (some .int), Cond.methodLink RX1 105 yX3_outputTowards, Cond.instanceMethod yX3_outputTowards, Cond.selects RX3 yX3_outputTowards yX3_outputTowards, Cond.initialized RX3, Cond.code yX3_outputTowards cX3_outputTowards 6 (some .int), Cond.fieldLink RX3 14 "Creditfabric$Grid" "columnOf" "LCreditfabric$Row;", Cond.fieldLink RX3 20 "Creditfabric$Grid" "rowOf" "LCreditfabric$Row;", Cond.methodLink RX3 38 yX5_at, Cond.methodLink RX3 42 yX3_stepTowards, Cond.static yX3_stepTowards, Cond.code yX3_stepTowards cX3_stepTowards 4 (some .int), Cond.methodLink RX1 72 yX1_nextBuffer]
def wsX1_hangAlong_r2 : List Cond := [Cond.instanceMethod yX1_nextBuffer, Cond.selects RX1 yX1_nextBuffer yX1_nextBuffer, Cond.initialized RX1, Cond.code yX1_nextBuffer cX1_nextBuffer 5 (some .int), Cond.methodLink RX1 108 yX3_behind, Cond.instanceMethod yX3_behind, Cond.selects RX3 yX3_behind yX3_behind, Cond.code yX3_behind cX3_behind 3 (some .int), Cond.fieldLink RX3 23 "Creditfabric$Grid" "columns" "I", Cond.fieldLink RX3 27 "Creditfabric$Grid" "rows" "I", Cond.methodLink RX1 45 yX5_put, Cond.instanceMethod yX5_put, Cond.selects RX5 yX5_put yX5_put, Cond.code yX5_put cX5_put 3 none]
def wsX1_hangAlong : List Cond := .code yX1_hangAlong cX1_hangAlong 8 none :: ((wsX1_hangAlong_r1 ++ wsX1_hangAlong_r2) ++ wsX10 ++ wsX40 ++ wsX50 ++ wsX30)
def wsX1_isEnd_r1 : List Cond := [Cond.fieldLink RX1 20 "Creditfabric$Circles" "hangings" "LCreditfabric$Row;", Cond.methodLink RX1 72 yX1_nextBuffer, Cond.instanceMethod yX1_nextBuffer, Cond.selects RX1 yX1_nextBuffer yX1_nextBuffer, Cond.initialized RX1, Cond.code yX1_nextBuffer cX1_nextBuffer 5 (some .int), Cond.fieldLink RX1 23 "Creditfabric$Circles" "grid" "LCreditfabric$Grid;", Cond.methodLink RX1 108 yX3_behind, Cond.instanceMethod yX3_behind, Cond.selects RX3 yX3_behind yX3_behind, Cond.initialized RX3, Cond.code yX3_behind cX3_behind 3 (some .int), Cond.fieldLink RX3 14 "Creditfabric$Grid" "columnOf" "LCreditfabric$Row;", Cond.fieldLink RX3 23 "Creditfabric$Grid" "columns" "I", Cond.fieldLink RX3 20 "Creditfabric$Grid" "rowOf" "LCreditfabric$Row;", Cond.fieldLink RX3 27 "Creditfabric$Grid" "rows" "I", Cond.methodLink RX3 38 yX5_at, Cond.instanceMethod yX5_at, Cond.selects RX5 yX5_at yX5_at, Cond.initialized RX5, Cond.code yX5_at cX5_at 2 (some .int), Cond.fieldLink RX5 7 "Creditfabric$Row" "numbers" "[I", Cond.static yX7_bufferOf, Cond.initialized RX7]
def wsX1_isEnd_r2 : List Cond := [Cond.code yX7_bufferOf cX7_bufferOf 3 (some .int), Cond.methodLink RX1 63 yX5_at]
def wsX1_isEnd : List Cond := .code yX1_isEnd cX1_isEnd 6 (some .boolean) :: ((wsX1_isEnd_r1 ++ wsX1_isEnd_r2) ++ wsX10 ++ wsX30 ++ wsX50)
def wsX1_cutEnds_r1 : List Cond := [Cond.fieldLink RX1 23 "Creditfabric$Circles" "grid" "LCreditfabric$Grid;", Cond.fieldLink RX1 20 "Creditfabric$Circles" "hangings" "LCreditfabric$Row;", Cond.methodLink RX1 35 yX3_size, Cond.instanceMethod yX3_size, Cond.selects RX3 yX3_size yX3_size, Cond.initialized RX3, Cond.code yX3_size cX3_size 1 (some .int), Cond.fieldLink RX3 23 "Creditfabric$Grid" "columns" "I", Cond.fieldLink RX3 27 "Creditfabric$Grid" "rows" "I", Cond.methodLink RX1 63 yX5_at, Cond.instanceMethod yX5_at, Cond.selects RX5 yX5_at yX5_at, Cond.initialized RX5, Cond.code yX5_at cX5_at 2 (some .int), Cond.fieldLink RX5 7 "Creditfabric$Row" "numbers" "[I", Cond.methodLink RX1 112 yX1_isEnd, Cond.instanceMethod yX1_isEnd, Cond.selects RX1 yX1_isEnd yX1_isEnd, Cond.initialized RX1, Cond.code yX1_isEnd cX1_isEnd 6 (some .boolean), Cond.methodLink RX1 72 yX1_nextBuffer, Cond.instanceMethod yX1_nextBuffer, Cond.selects RX1 yX1_nextBuffer yX1_nextBuffer, Cond.code yX1_nextBuffer cX1_nextBuffer 5 (some .int)]
def wsX1_cutEnds_r2 : List Cond := [Cond.methodLink RX1 108 yX3_behind, Cond.instanceMethod yX3_behind, Cond.selects RX3 yX3_behind yX3_behind, Cond.code yX3_behind cX3_behind 3 (some .int), Cond.fieldLink RX3 14 "Creditfabric$Grid" "columnOf" "LCreditfabric$Row;", Cond.fieldLink RX3 20 "Creditfabric$Grid" "rowOf" "LCreditfabric$Row;", Cond.methodLink RX3 38 yX5_at, Cond.static yX7_bufferOf, Cond.initialized RX7, Cond.code yX7_bufferOf cX7_bufferOf 3 (some .int), Cond.methodLink RX1 45 yX5_put, Cond.instanceMethod yX5_put, Cond.selects RX5 yX5_put yX5_put, Cond.code yX5_put cX5_put 3 none]
def wsX1_cutEnds : List Cond := .code yX1_cutEnds cX1_cutEnds 5 (some .boolean) :: ((wsX1_cutEnds_r1 ++ wsX1_cutEnds_r2) ++ wsX10 ++ wsX30 ++ wsX50)
def wsX1_hangsTogether_r1 : List Cond := [Cond.fieldLink RX1 20 "Creditfabric$Circles" "hangings" "LCreditfabric$Row;", Cond.fieldLink RX1 27 "Creditfabric$Circles" "traffic" "LCreditfabric$Packets;", Cond.methodLink RX1 79 yX5_fill, Cond.instanceMethod yX5_fill, Cond.selects RX5 yX5_fill yX5_fill, Cond.initialized RX5, Cond.code yX5_fill cX5_fill 3 none, Cond.fieldLink RX5 7 "Creditfabric$Row" "numbers" "[I", Cond.methodLink RX1 63 yX5_at, Cond.instanceMethod yX5_at, Cond.selects RX5 yX5_at yX5_at, Cond.code yX5_at cX5_at 2 (some .int), Cond.methodLink RX1 86 yX1_hangAlong, Cond.instanceMethod yX1_hangAlong, Cond.selects RX1 yX1_hangAlong yX1_hangAlong, Cond.initialized RX1, Cond.code yX1_hangAlong cX1_hangAlong 8 none, Cond.fieldLink RX1 23 "Creditfabric$Circles" "grid" "LCreditfabric$Grid;", Cond.static yX7_bufferOf, Cond.initialized RX7, Cond.code yX7_bufferOf cX7_bufferOf 3 (some .int), Cond.methodLink RX1 105 yX3_outputTowards, Cond.instanceMethod yX3_outputTowards, Cond.selects RX3 yX3_outputTowards yX3_outputTowards]
def wsX1_hangsTogether_r2 : List Cond := [Cond.initialized RX3, Cond.code yX3_outputTowards cX3_outputTowards 6 (some .int), Cond.fieldLink RX3 14 "Creditfabric$Grid" "columnOf" "LCreditfabric$Row;", Cond.fieldLink RX3 20 "Creditfabric$Grid" "rowOf" "LCreditfabric$Row;", Cond.methodLink RX3 38 yX5_at, Cond.methodLink RX3 42 yX3_stepTowards, Cond.static yX3_stepTowards, Cond.code yX3_stepTowards cX3_stepTowards 4 (some .int), Cond.methodLink RX1 72 yX1_nextBuffer, Cond.instanceMethod yX1_nextBuffer, Cond.selects RX1 yX1_nextBuffer yX1_nextBuffer, Cond.code yX1_nextBuffer cX1_nextBuffer 5 (some .int), Cond.methodLink RX1 108 yX3_behind, Cond.instanceMethod yX3_behind, Cond.selects RX3 yX3_behind yX3_behind, Cond.code yX3_behind cX3_behind 3 (some .int), Cond.fieldLink RX3 23 "Creditfabric$Grid" "columns" "I", Cond.fieldLink RX3 27 "Creditfabric$Grid" "rows" "I", Cond.methodLink RX1 45 yX5_put, Cond.instanceMethod yX5_put, Cond.selects RX5 yX5_put yX5_put, Cond.code yX5_put cX5_put 3 none, Cond.methodLink RX1 89 yX1_cutEnds, Cond.instanceMethod yX1_cutEnds]
def wsX1_hangsTogether_r3 : List Cond := [Cond.selects RX1 yX1_cutEnds yX1_cutEnds, Cond.code yX1_cutEnds cX1_cutEnds 5 (some .boolean), Cond.methodLink RX1 35 yX3_size, Cond.instanceMethod yX3_size, Cond.selects RX3 yX3_size yX3_size, Cond.code yX3_size cX3_size 1 (some .int), Cond.methodLink RX1 112 yX1_isEnd, Cond.instanceMethod yX1_isEnd, Cond.selects RX1 yX1_isEnd yX1_isEnd, Cond.code yX1_isEnd cX1_isEnd 6 (some .boolean)]
def wsX1_hangsTogether : List Cond := .code yX1_hangsTogether cX1_hangsTogether 3 (some .boolean) :: ((wsX1_hangsTogether_r1 ++ (wsX1_hangsTogether_r2 ++ wsX1_hangsTogether_r3)) ++ wsX10 ++ wsX40 ++ wsX50 ++ wsX30)
def wsX2_init : List Cond := .code yX2_init cX2_init 1 none :: ([.methodLink RX2 3 objectInit, .instanceMethod objectInit, .code objectInit ⟨#[0xb1]⟩ 1 none, .classLink RX2 9 RX5, .instantiable RX5 1, .initialized RX5, .fieldLink RX2 14 "Creditfabric$Credits" "there" "LCreditfabric$Row;", .fieldLink RX2 20 "Creditfabric$Credits" "coming" "LCreditfabric$Row;", .methodLink RX2 11 yX5_init, .instanceMethod yX5_init, .code yX5_init cX5_init 2 none, .methodLink RX5 1 objectInit, .arrayClass .int, .fieldLink RX5 7 "Creditfabric$Row" "numbers" "[I"] ++ wsX50 ++ wsX20)
def wsX2_fill : List Cond := .code yX2_fill cX2_fill 3 none :: ([.fieldLink RX2 23 "Creditfabric$Credits" "delay" "I", .fieldLink RX2 14 "Creditfabric$Credits" "there" "LCreditfabric$Row;", .fieldLink RX2 20 "Creditfabric$Credits" "coming" "LCreditfabric$Row;", .fieldLink RX2 30 "Creditfabric$Credits" "comingInAll" "I", .methodLink RX2 27 yX5_fill, .instanceMethod yX5_fill, .selects RX5 yX5_fill yX5_fill, .initialized RX5, .code yX5_fill cX5_fill 3 none, .fieldLink RX5 7 "Creditfabric$Row" "numbers" "[I"] ++ wsX20 ++ wsX50)
def wsX2_there : List Cond := .code yX2_there cX2_there 2 (some .int) :: ([.fieldLink RX2 14 "Creditfabric$Credits" "there" "LCreditfabric$Row;", .methodLink RX2 33 yX5_at, .instanceMethod yX5_at, .selects RX5 yX5_at yX5_at, .initialized RX5, .code yX5_at cX5_at 2 (some .int), .fieldLink RX5 7 "Creditfabric$Row" "numbers" "[I"] ++ wsX20 ++ wsX50)
def wsX2_take : List Cond := .code yX2_take cX2_take 2 none :: ([.fieldLink RX2 14 "Creditfabric$Credits" "there" "LCreditfabric$Row;", .methodLink RX2 37 yX5_add, .instanceMethod yX5_add, .selects RX5 yX5_add yX5_add, .initialized RX5, .code yX5_add cX5_add 3 none, .methodLink RX5 13 yX5_at, .instanceMethod yX5_at, .selects RX5 yX5_at yX5_at, .code yX5_at cX5_at 2 (some .int), .fieldLink RX5 7 "Creditfabric$Row" "numbers" "[I", .methodLink RX5 17 yX5_put, .instanceMethod yX5_put, .selects RX5 yX5_put yX5_put, .code yX5_put cX5_put 3 none] ++ wsX20 ++ wsX50)
def wsX2_slotOf : List Cond := .code yX2_slotOf cX2_slotOf 2 (some .int) :: ([])
def wsX2_giveBack : List Cond := .code yX2_giveBack cX2_giveBack 3 none :: ([.fieldLink RX2 20 "Creditfabric$Credits" "coming" "LCreditfabric$Row;", .fieldLink RX2 23 "Creditfabric$Credits" "delay" "I", .fieldLink RX2 30 "Creditfabric$Credits" "comingInAll" "I", .methodLink RX2 41 yX2_slotOf, .static yX2_slotOf, .initialized RX2, .code yX2_slotOf cX2_slotOf 2 (some .int), .methodLink RX2 37 yX5_add, .instanceMethod yX5_add, .selects RX5 yX5_add yX5_add, .initialized RX5, .code yX5_add cX5_add 3 none, .methodLink RX5 13 yX5_at, .instanceMethod yX5_at, .selects RX5 yX5_at yX5_at, .code yX5_at cX5_at 2 (some .int), .fieldLink RX5 7 "Creditfabric$Row" "numbers" "[I", .methodLink RX5 17 yX5_put, .instanceMethod yX5_put, .selects RX5 yX5_put yX5_put, .code yX5_put cX5_put 3 none] ++ wsX20 ++ wsX50)
def wsX2_comeBack : List Cond := .code yX2_comeBack cX2_comeBack 5 none :: ([.fieldLink RX2 30 "Creditfabric$Credits" "comingInAll" "I", .fieldLink RX2 20 "Creditfabric$Credits" "coming" "LCreditfabric$Row;", .fieldLink RX2 14 "Creditfabric$Credits" "there" "LCreditfabric$Row;", .methodLink RX2 41 yX2_slotOf, .static yX2_slotOf, .initialized RX2, .code yX2_slotOf cX2_slotOf 2 (some .int), .methodLink RX2 33 yX5_at, .instanceMethod yX5_at, .selects RX5 yX5_at yX5_at, .initialized RX5, .code yX5_at cX5_at 2 (some .int), .fieldLink RX5 7 "Creditfabric$Row" "numbers" "[I", .methodLink RX2 37 yX5_add, .instanceMethod yX5_add, .selects RX5 yX5_add yX5_add, .code yX5_add cX5_add 3 none, .methodLink RX5 13 yX5_at, .methodLink RX5 17 yX5_put, .instanceMethod yX5_put, .selects RX5 yX5_put yX5_put, .code yX5_put cX5_put 3 none, .methodLink RX2 45 yX5_put] ++ wsX20 ++ wsX50)
def wsX2_settle : List Cond := .code yX2_settle cX2_settle 5 (some .int) :: ([.fieldLink RX2 20 "Creditfabric$Credits" "coming" "LCreditfabric$Row;", .fieldLink RX2 14 "Creditfabric$Credits" "there" "LCreditfabric$Row;", .methodLink RX2 41 yX2_slotOf, .static yX2_slotOf, .initialized RX2, .code yX2_slotOf cX2_slotOf 2 (some .int), .methodLink RX2 33 yX5_at, .instanceMethod yX5_at, .selects RX5 yX5_at yX5_at, .initialized RX5, .code yX5_at cX5_at 2 (some .int), .fieldLink RX5 7 "Creditfabric$Row" "numbers" "[I", .methodLink RX2 45 yX5_put, .instanceMethod yX5_put, .selects RX5 yX5_put yX5_put, .code yX5_put cX5_put 3 none] ++ wsX20 ++ wsX50)
def wsX3_init : List Cond := .code yX3_init cX3_init 1 none :: ([.methodLink RX3 3 objectInit, .instanceMethod objectInit, .code objectInit ⟨#[0xb1]⟩ 1 none, .classLink RX3 9 RX5, .instantiable RX5 1, .initialized RX5, .fieldLink RX3 14 "Creditfabric$Grid" "columnOf" "LCreditfabric$Row;", .fieldLink RX3 20 "Creditfabric$Grid" "rowOf" "LCreditfabric$Row;", .methodLink RX3 11 yX5_init, .instanceMethod yX5_init, .code yX5_init cX5_init 2 none, .methodLink RX5 1 objectInit, .arrayClass .int, .fieldLink RX5 7 "Creditfabric$Row" "numbers" "[I"] ++ wsX50 ++ wsX30)
def wsX3_lay : List Cond := .code yX3_lay cX3_lay 5 none :: ([.fieldLink RX3 23 "Creditfabric$Grid" "columns" "I", .fieldLink RX3 27 "Creditfabric$Grid" "rows" "I", .fieldLink RX3 14 "Creditfabric$Grid" "columnOf" "LCreditfabric$Row;", .fieldLink RX3 20 "Creditfabric$Grid" "rowOf" "LCreditfabric$Row;", .methodLink RX3 30 yX5_put, .instanceMethod yX5_put, .selects RX5 yX5_put yX5_put, .initialized RX5, .code yX5_put cX5_put 3 none, .fieldLink RX5 7 "Creditfabric$Row" "numbers" "[I"] ++ wsX30 ++ wsX50)
def wsX3_has : List Cond := .code yX3_has cX3_has 2 (some .boolean) :: ([.methodLink RX3 34 yX3_size, .instanceMethod yX3_size, .selects RX3 yX3_size yX3_size, .initialized RX3, .code yX3_size cX3_size 1 (some .int), .fieldLink RX3 23 "Creditfabric$Grid" "columns" "I", .fieldLink RX3 27 "Creditfabric$Grid" "rows" "I"] ++ wsX30)
def wsX4_init : List Cond := .code yX4_init cX4_init 2 none :: ([.methodLink RX4 3 objectInit, .instanceMethod objectInit, .code objectInit ⟨#[0xb1]⟩ 1 none, .classLink RX4 9 RX5, .instantiable RX5 1, .initialized RX5, .fieldLink RX4 14 "Creditfabric$Packets" "sources" "LCreditfabric$Row;", .fieldLink RX4 20 "Creditfabric$Packets" "goals" "LCreditfabric$Row;", .fieldLink RX4 23 "Creditfabric$Packets" "lanes" "LCreditfabric$Row;", .fieldLink RX4 26 "Creditfabric$Packets" "modes" "LCreditfabric$Row;", .fieldLink RX4 29 "Creditfabric$Packets" "places" "LCreditfabric$Row;", .fieldLink RX4 32 "Creditfabric$Packets" "inputs" "LCreditfabric$Row;", .fieldLink RX4 35 "Creditfabric$Packets" "hopsGone" "LCreditfabric$Row;", .fieldLink RX4 38 "Creditfabric$Packets" "marks" "LCreditfabric$Row;", .fieldLink RX4 41 "Creditfabric$Packets" "grid" "LCreditfabric$Grid;", .methodLink RX4 11 yX5_init, .instanceMethod yX5_init, .code yX5_init cX5_init 2 none, .methodLink RX5 1 objectInit, .arrayClass .int, .fieldLink RX5 7 "Creditfabric$Row" "numbers" "[I"] ++ wsX50 ++ wsX40)
def wsX4_clear : List Cond := .code yX4_clear cX4_clear 1 none :: ([.fieldLink RX4 45 "Creditfabric$Packets" "count" "I", .fieldLink RX4 49 "Creditfabric$Packets" "gone" "I"] ++ wsX40)
def wsX4_add : List Cond := .code yX4_add cX4_add 6 (some .int) :: ([.fieldLink RX4 45 "Creditfabric$Packets" "count" "I", .fieldLink RX4 14 "Creditfabric$Packets" "sources" "LCreditfabric$Row;", .fieldLink RX4 20 "Creditfabric$Packets" "goals" "LCreditfabric$Row;", .fieldLink RX4 23 "Creditfabric$Packets" "lanes" "LCreditfabric$Row;", .fieldLink RX4 26 "Creditfabric$Packets" "modes" "LCreditfabric$Row;", .fieldLink RX4 29 "Creditfabric$Packets" "places" "LCreditfabric$Row;", .fieldLink RX4 32 "Creditfabric$Packets" "inputs" "LCreditfabric$Row;", .fieldLink RX4 35 "Creditfabric$Packets" "hopsGone" "LCreditfabric$Row;", .fieldLink RX4 38 "Creditfabric$Packets" "marks" "LCreditfabric$Row;", .methodLink RX4 52 yX5_put, .instanceMethod yX5_put, .selects RX5 yX5_put yX5_put, .initialized RX5, .code yX5_put cX5_put 3 none, .fieldLink RX5 7 "Creditfabric$Row" "numbers" "[I"] ++ wsX40 ++ wsX50)
def wsX4_goOver : List Cond := .code yX4_goOver cX4_goOver 4 none :: ([.fieldLink RX4 29 "Creditfabric$Packets" "places" "LCreditfabric$Row;", .fieldLink RX4 32 "Creditfabric$Packets" "inputs" "LCreditfabric$Row;", .fieldLink RX4 35 "Creditfabric$Packets" "hopsGone" "LCreditfabric$Row;", .methodLink RX4 52 yX5_put, .instanceMethod yX5_put, .selects RX5 yX5_put yX5_put, .initialized RX5, .code yX5_put cX5_put 3 none, .fieldLink RX5 7 "Creditfabric$Row" "numbers" "[I", .methodLink RX4 66 yX5_add, .instanceMethod yX5_add, .selects RX5 yX5_add yX5_add, .code yX5_add cX5_add 3 none, .methodLink RX5 13 yX5_at, .instanceMethod yX5_at, .selects RX5 yX5_at yX5_at, .code yX5_at cX5_at 2 (some .int), .methodLink RX5 17 yX5_put] ++ wsX40 ++ wsX50)
def wsX4_goOut : List Cond := .code yX4_goOut cX4_goOut 2 none :: ([.fieldLink RX4 29 "Creditfabric$Packets" "places" "LCreditfabric$Row;", .fieldLink RX4 49 "Creditfabric$Packets" "gone" "I", .methodLink RX4 52 yX5_put, .instanceMethod yX5_put, .selects RX5 yX5_put yX5_put, .initialized RX5, .code yX5_put cX5_put 3 none, .fieldLink RX5 7 "Creditfabric$Row" "numbers" "[I"] ++ wsX40 ++ wsX50)
def wsX6_init : List Cond := .code yX6_init cX6_init 1 none :: ([.methodLink RX6 3 objectInit, .instanceMethod objectInit, .code objectInit ⟨#[0xb1]⟩ 1 none, .classLink RX6 9 RX5, .instantiable RX5 1, .initialized RX5, .fieldLink RX6 14 "Creditfabric$Senders" "gaps" "LCreditfabric$Row;", .fieldLink RX6 20 "Creditfabric$Senders" "lastTicks" "LCreditfabric$Row;", .methodLink RX6 11 yX5_init, .instanceMethod yX5_init, .code yX5_init cX5_init 2 none, .methodLink RX5 1 objectInit, .arrayClass .int, .fieldLink RX5 7 "Creditfabric$Row" "numbers" "[I"] ++ wsX50 ++ wsX60)
def wsX6_clear : List Cond := .code yX6_clear cX6_clear 1 none :: ([.fieldLink RX6 14 "Creditfabric$Senders" "gaps" "LCreditfabric$Row;", .fieldLink RX6 20 "Creditfabric$Senders" "lastTicks" "LCreditfabric$Row;", .methodLink RX6 23 yX5_fill, .instanceMethod yX5_fill, .selects RX5 yX5_fill yX5_fill, .initialized RX5, .code yX5_fill cX5_fill 3 none, .fieldLink RX5 7 "Creditfabric$Row" "numbers" "[I"] ++ wsX60 ++ wsX50)
def wsX6_gapOf : List Cond := .code yX6_gapOf cX6_gapOf 2 (some .int) :: ([.fieldLink RX6 14 "Creditfabric$Senders" "gaps" "LCreditfabric$Row;", .methodLink RX6 26 yX5_at, .instanceMethod yX5_at, .selects RX5 yX5_at yX5_at, .initialized RX5, .code yX5_at cX5_at 2 (some .int), .fieldLink RX5 7 "Creditfabric$Row" "numbers" "[I"] ++ wsX60 ++ wsX50)
def wsX6_isReady : List Cond := .code yX6_isReady cX6_isReady 4 (some .boolean) :: ([.fieldLink RX6 20 "Creditfabric$Senders" "lastTicks" "LCreditfabric$Row;", .fieldLink RX6 14 "Creditfabric$Senders" "gaps" "LCreditfabric$Row;", .methodLink RX6 26 yX5_at, .instanceMethod yX5_at, .selects RX5 yX5_at yX5_at, .initialized RX5, .code yX5_at cX5_at 2 (some .int), .fieldLink RX5 7 "Creditfabric$Row" "numbers" "[I"] ++ wsX60 ++ wsX50)
def wsX6_note : List Cond := .code yX6_note cX6_note 3 none :: ([.fieldLink RX6 20 "Creditfabric$Senders" "lastTicks" "LCreditfabric$Row;", .methodLink RX6 30 yX5_put, .instanceMethod yX5_put, .selects RX5 yX5_put yX5_put, .initialized RX5, .code yX5_put cX5_put 3 none, .fieldLink RX5 7 "Creditfabric$Row" "numbers" "[I"] ++ wsX60 ++ wsX50)
def wsX6_adapt : List Cond := .code yX6_adapt cX6_adapt 4 none :: ([.fieldLink RX6 14 "Creditfabric$Senders" "gaps" "LCreditfabric$Row;", .methodLink RX6 34 Lib.Math.min.name, .static Lib.Math.min.name, .initialized "java/lang/Math", .code Lib.Math.min.name Lib.Math.min.code 2 (some .int), .methodLink RX6 40 Lib.Math.max.name, .static Lib.Math.max.name, .code Lib.Math.max.name Lib.Math.max.code 2 (some .int), .methodLink RX6 26 yX5_at, .instanceMethod yX5_at, .selects RX5 yX5_at yX5_at, .initialized RX5, .code yX5_at cX5_at 2 (some .int), .fieldLink RX5 7 "Creditfabric$Row" "numbers" "[I", .methodLink RX6 30 yX5_put, .instanceMethod yX5_put, .selects RX5 yX5_put yX5_put, .code yX5_put cX5_put 3 none] ++ wsX60 ++ wsX50)
def wsX7_layAnew_r1 : List Cond := [Cond.fieldLink RX7 12 "Creditfabric" "grid" "LCreditfabric$Grid;", Cond.fieldLink RX7 21 "Creditfabric" "traffic" "LCreditfabric$Packets;", Cond.fieldLink RX7 28 "Creditfabric" "buffers" "LCreditfabric$Buffers;", Cond.fieldLink RX7 35 "Creditfabric" "purse" "LCreditfabric$Credits;", Cond.fieldLink RX7 42 "Creditfabric" "senders" "LCreditfabric$Senders;", Cond.fieldLink RX7 60 "Creditfabric" "paused" "LCreditfabric$Row;", Cond.fieldLink RX7 64 "Creditfabric" "turns" "LCreditfabric$Row;", Cond.fieldLink RX7 115 "Creditfabric" "now" "I", Cond.methodLink RX7 223 yX3_lay, Cond.instanceMethod yX3_lay, Cond.selects RX3 yX3_lay yX3_lay, Cond.initialized RX3, Cond.code yX3_lay cX3_lay 5 none, Cond.fieldLink RX3 23 "Creditfabric$Grid" "columns" "I", Cond.fieldLink RX3 27 "Creditfabric$Grid" "rows" "I", Cond.fieldLink RX3 14 "Creditfabric$Grid" "columnOf" "LCreditfabric$Row;", Cond.fieldLink RX3 20 "Creditfabric$Grid" "rowOf" "LCreditfabric$Row;", Cond.methodLink RX3 30 yX5_put, Cond.instanceMethod yX5_put, Cond.selects RX5 yX5_put yX5_put, Cond.initialized RX5, Cond.code yX5_put cX5_put 3 none, Cond.fieldLink RX5 7 "Creditfabric$Row" "numbers" "[I", Cond.methodLink RX7 226 yX4_clear]
def wsX7_layAnew_r2 : List Cond := [Cond.instanceMethod yX4_clear, Cond.selects RX4 yX4_clear yX4_clear, Cond.initialized RX4, Cond.code yX4_clear cX4_clear 1 none, Cond.fieldLink RX4 45 "Creditfabric$Packets" "count" "I", Cond.fieldLink RX4 49 "Creditfabric$Packets" "gone" "I", Cond.methodLink RX7 229 yX0_clear, Cond.instanceMethod yX0_clear, Cond.selects RX0 yX0_clear yX0_clear, Cond.initialized RX0, Cond.code yX0_clear cX0_clear 2 none, Cond.fieldLink RX0 23 "Creditfabric$Buffers" "room" "I", Cond.fieldLink RX0 20 "Creditfabric$Buffers" "sizes" "LCreditfabric$Row;", Cond.methodLink RX0 27 yX5_fill, Cond.instanceMethod yX5_fill, Cond.selects RX5 yX5_fill yX5_fill, Cond.code yX5_fill cX5_fill 3 none, Cond.methodLink RX7 231 yX2_fill, Cond.instanceMethod yX2_fill, Cond.selects RX2 yX2_fill yX2_fill, Cond.initialized RX2, Cond.code yX2_fill cX2_fill 3 none, Cond.fieldLink RX2 23 "Creditfabric$Credits" "delay" "I", Cond.fieldLink RX2 14 "Creditfabric$Credits" "there" "LCreditfabric$Row;"]
def wsX7_layAnew_r3 : List Cond := [Cond.fieldLink RX2 20 "Creditfabric$Credits" "coming" "LCreditfabric$Row;", Cond.fieldLink RX2 30 "Creditfabric$Credits" "comingInAll" "I", Cond.methodLink RX2 27 yX5_fill, Cond.methodLink RX7 234 yX6_clear, Cond.instanceMethod yX6_clear, Cond.selects RX6 yX6_clear yX6_clear, Cond.initialized RX6, Cond.code yX6_clear cX6_clear 1 none, Cond.fieldLink RX6 14 "Creditfabric$Senders" "gaps" "LCreditfabric$Row;", Cond.fieldLink RX6 20 "Creditfabric$Senders" "lastTicks" "LCreditfabric$Row;", Cond.methodLink RX6 23 yX5_fill, Cond.methodLink RX7 235 yX5_fill]
def wsX7_layAnew : List Cond := .code yX7_layAnew cX7_layAnew 5 none :: ((wsX7_layAnew_r1 ++ (wsX7_layAnew_r2 ++ wsX7_layAnew_r3)) ++ wsX70 ++ wsX30 ++ wsX50 ++ wsX40 ++ wsX00 ++ wsX20 ++ wsX60)
def wsX7_init_r1 : List Cond := [Cond.methodLink RX7 3 objectInit, Cond.instanceMethod objectInit, Cond.code objectInit ⟨#[0xb1]⟩ 1 none, Cond.classLink RX7 9 RX3, Cond.instantiable RX3 4, Cond.initialized RX3, Cond.fieldLink RX7 12 "Creditfabric" "grid" "LCreditfabric$Grid;", Cond.classLink RX7 16 RX4, Cond.instantiable RX4 11, Cond.initialized RX4, Cond.fieldLink RX7 21 "Creditfabric" "traffic" "LCreditfabric$Packets;", Cond.classLink RX7 25 RX0, Cond.instantiable RX0 3, Cond.initialized RX0, Cond.fieldLink RX7 28 "Creditfabric" "buffers" "LCreditfabric$Buffers;", Cond.classLink RX7 32 RX2, Cond.instantiable RX2 4, Cond.initialized RX2, Cond.fieldLink RX7 35 "Creditfabric" "purse" "LCreditfabric$Credits;", Cond.classLink RX7 39 RX6, Cond.instantiable RX6 2, Cond.initialized RX6, Cond.fieldLink RX7 42 "Creditfabric" "senders" "LCreditfabric$Senders;", Cond.classLink RX7 46 RX1]
def wsX7_init_r2 : List Cond := [Cond.instantiable RX1 5, Cond.initialized RX1, Cond.fieldLink RX7 51 "Creditfabric" "circles" "LCreditfabric$Circles;", Cond.classLink RX7 55 RX5, Cond.instantiable RX5 1, Cond.initialized RX5, Cond.fieldLink RX7 60 "Creditfabric" "paused" "LCreditfabric$Row;", Cond.fieldLink RX7 64 "Creditfabric" "turns" "LCreditfabric$Row;", Cond.fieldLink RX7 67 "Creditfabric" "ready" "LCreditfabric$Row;", Cond.fieldLink RX7 70 "Creditfabric" "chosen" "LCreditfabric$Row;", Cond.instanceMethod yX3_init, Cond.code yX3_init cX3_init 1 none, Cond.methodLink RX3 3 objectInit, Cond.classLink RX3 9 RX5, Cond.fieldLink RX3 14 "Creditfabric$Grid" "columnOf" "LCreditfabric$Row;", Cond.fieldLink RX3 20 "Creditfabric$Grid" "rowOf" "LCreditfabric$Row;", Cond.methodLink RX3 11 yX5_init, Cond.instanceMethod yX5_init, Cond.code yX5_init cX5_init 2 none, Cond.methodLink RX5 1 objectInit, Cond.arrayClass .int, Cond.fieldLink RX5 7 "Creditfabric$Row" "numbers" "[I", Cond.methodLink RX7 18 yX4_init, Cond.instanceMethod yX4_init]
def wsX7_init_r3 : List Cond := [Cond.code yX4_init cX4_init 2 none, Cond.methodLink RX4 3 objectInit, Cond.classLink RX4 9 RX5, Cond.fieldLink RX4 14 "Creditfabric$Packets" "sources" "LCreditfabric$Row;", Cond.fieldLink RX4 20 "Creditfabric$Packets" "goals" "LCreditfabric$Row;", Cond.fieldLink RX4 23 "Creditfabric$Packets" "lanes" "LCreditfabric$Row;", Cond.fieldLink RX4 26 "Creditfabric$Packets" "modes" "LCreditfabric$Row;", Cond.fieldLink RX4 29 "Creditfabric$Packets" "places" "LCreditfabric$Row;", Cond.fieldLink RX4 32 "Creditfabric$Packets" "inputs" "LCreditfabric$Row;", Cond.fieldLink RX4 35 "Creditfabric$Packets" "hopsGone" "LCreditfabric$Row;", Cond.fieldLink RX4 38 "Creditfabric$Packets" "marks" "LCreditfabric$Row;", Cond.fieldLink RX4 41 "Creditfabric$Packets" "grid" "LCreditfabric$Grid;", Cond.methodLink RX4 11 yX5_init, Cond.instanceMethod yX0_init, Cond.code yX0_init cX0_init 1 none, Cond.methodLink RX0 3 objectInit, Cond.classLink RX0 9 RX5, Cond.fieldLink RX0 14 "Creditfabric$Buffers" "slots" "LCreditfabric$Row;", Cond.fieldLink RX0 20 "Creditfabric$Buffers" "sizes" "LCreditfabric$Row;", Cond.methodLink RX0 11 yX5_init, Cond.instanceMethod yX2_init, Cond.code yX2_init cX2_init 1 none, Cond.methodLink RX2 3 objectInit, Cond.classLink RX2 9 RX5]
def wsX7_init_r4 : List Cond := [Cond.fieldLink RX2 14 "Creditfabric$Credits" "there" "LCreditfabric$Row;", Cond.fieldLink RX2 20 "Creditfabric$Credits" "coming" "LCreditfabric$Row;", Cond.methodLink RX2 11 yX5_init, Cond.instanceMethod yX6_init, Cond.code yX6_init cX6_init 1 none, Cond.methodLink RX6 3 objectInit, Cond.classLink RX6 9 RX5, Cond.fieldLink RX6 14 "Creditfabric$Senders" "gaps" "LCreditfabric$Row;", Cond.fieldLink RX6 20 "Creditfabric$Senders" "lastTicks" "LCreditfabric$Row;", Cond.methodLink RX6 11 yX5_init, Cond.methodLink RX7 48 yX1_init, Cond.instanceMethod yX1_init, Cond.code yX1_init cX1_init 4 none, Cond.methodLink RX1 3 objectInit, Cond.classLink RX1 9 RX5, Cond.fieldLink RX1 14 "Creditfabric$Circles" "awaited" "LCreditfabric$Row;", Cond.fieldLink RX1 20 "Creditfabric$Circles" "hangings" "LCreditfabric$Row;", Cond.fieldLink RX1 23 "Creditfabric$Circles" "grid" "LCreditfabric$Grid;", Cond.fieldLink RX1 27 "Creditfabric$Circles" "traffic" "LCreditfabric$Packets;", Cond.fieldLink RX1 31 "Creditfabric$Circles" "buffers" "LCreditfabric$Buffers;", Cond.methodLink RX1 11 yX5_init, Cond.methodLink RX7 57 yX5_init, Cond.methodLink RX7 73 yX7_layAnew, Cond.instanceMethod yX7_layAnew]
def wsX7_init_r5 : List Cond := [Cond.selects RX7 yX7_layAnew yX7_layAnew, Cond.initialized RX7, Cond.code yX7_layAnew cX7_layAnew 5 none, Cond.fieldLink RX7 115 "Creditfabric" "now" "I", Cond.methodLink RX7 223 yX3_lay, Cond.instanceMethod yX3_lay, Cond.selects RX3 yX3_lay yX3_lay, Cond.code yX3_lay cX3_lay 5 none, Cond.fieldLink RX3 23 "Creditfabric$Grid" "columns" "I", Cond.fieldLink RX3 27 "Creditfabric$Grid" "rows" "I", Cond.methodLink RX3 30 yX5_put, Cond.instanceMethod yX5_put, Cond.selects RX5 yX5_put yX5_put, Cond.code yX5_put cX5_put 3 none, Cond.methodLink RX7 226 yX4_clear, Cond.instanceMethod yX4_clear, Cond.selects RX4 yX4_clear yX4_clear, Cond.code yX4_clear cX4_clear 1 none, Cond.fieldLink RX4 45 "Creditfabric$Packets" "count" "I", Cond.fieldLink RX4 49 "Creditfabric$Packets" "gone" "I", Cond.methodLink RX7 229 yX0_clear, Cond.instanceMethod yX0_clear, Cond.selects RX0 yX0_clear yX0_clear, Cond.code yX0_clear cX0_clear 2 none]
def wsX7_init_r6 : List Cond := [Cond.fieldLink RX0 23 "Creditfabric$Buffers" "room" "I", Cond.methodLink RX0 27 yX5_fill, Cond.instanceMethod yX5_fill, Cond.selects RX5 yX5_fill yX5_fill, Cond.code yX5_fill cX5_fill 3 none, Cond.methodLink RX7 231 yX2_fill, Cond.instanceMethod yX2_fill, Cond.selects RX2 yX2_fill yX2_fill, Cond.code yX2_fill cX2_fill 3 none, Cond.fieldLink RX2 23 "Creditfabric$Credits" "delay" "I", Cond.fieldLink RX2 30 "Creditfabric$Credits" "comingInAll" "I", Cond.methodLink RX2 27 yX5_fill, Cond.methodLink RX7 234 yX6_clear, Cond.instanceMethod yX6_clear, Cond.selects RX6 yX6_clear yX6_clear, Cond.code yX6_clear cX6_clear 1 none, Cond.methodLink RX6 23 yX5_fill, Cond.methodLink RX7 235 yX5_fill]
def wsX7_init : List Cond := .code yX7_init cX7_init 1 none :: ((wsX7_init_r1 ++ (wsX7_init_r2 ++ (wsX7_init_r3 ++ (wsX7_init_r4 ++ (wsX7_init_r5 ++ wsX7_init_r6))))) ++ wsX30 ++ wsX70 ++ wsX40 ++ wsX00 ++ wsX20 ++ wsX60 ++ wsX10 ++ wsX50)
def wsX7_begin_r1 : List Cond := [Cond.classLink RX7 77 "java/lang/IllegalArgumentException", Cond.initialized "java/lang/IllegalArgumentException", Cond.fieldLink RX7 12 "Creditfabric" "grid" "LCreditfabric$Grid;", Cond.methodLink RX7 73 yX7_layAnew, Cond.instanceMethod yX7_layAnew, Cond.selects RX7 yX7_layAnew yX7_layAnew, Cond.initialized RX7, Cond.code yX7_layAnew cX7_layAnew 5 none, Cond.fieldLink RX7 21 "Creditfabric" "traffic" "LCreditfabric$Packets;", Cond.fieldLink RX7 28 "Creditfabric" "buffers" "LCreditfabric$Buffers;", Cond.fieldLink RX7 35 "Creditfabric" "purse" "LCreditfabric$Credits;", Cond.fieldLink RX7 42 "Creditfabric" "senders" "LCreditfabric$Senders;", Cond.fieldLink RX7 60 "Creditfabric" "paused" "LCreditfabric$Row;", Cond.fieldLink RX7 64 "Creditfabric" "turns" "LCreditfabric$Row;", Cond.fieldLink RX7 115 "Creditfabric" "now" "I", Cond.methodLink RX7 223 yX3_lay, Cond.instanceMethod yX3_lay, Cond.selects RX3 yX3_lay yX3_lay, Cond.initialized RX3, Cond.code yX3_lay cX3_lay 5 none, Cond.fieldLink RX3 23 "Creditfabric$Grid" "columns" "I", Cond.fieldLink RX3 27 "Creditfabric$Grid" "rows" "I", Cond.fieldLink RX3 14 "Creditfabric$Grid" "columnOf" "LCreditfabric$Row;", Cond.fieldLink RX3 20 "Creditfabric$Grid" "rowOf" "LCreditfabric$Row;"]
def wsX7_begin_r2 : List Cond := [Cond.methodLink RX3 30 yX5_put, Cond.instanceMethod yX5_put, Cond.selects RX5 yX5_put yX5_put, Cond.initialized RX5, Cond.code yX5_put cX5_put 3 none, Cond.fieldLink RX5 7 "Creditfabric$Row" "numbers" "[I", Cond.methodLink RX7 226 yX4_clear, Cond.instanceMethod yX4_clear, Cond.selects RX4 yX4_clear yX4_clear, Cond.initialized RX4, Cond.code yX4_clear cX4_clear 1 none, Cond.fieldLink RX4 45 "Creditfabric$Packets" "count" "I", Cond.fieldLink RX4 49 "Creditfabric$Packets" "gone" "I", Cond.methodLink RX7 229 yX0_clear, Cond.instanceMethod yX0_clear, Cond.selects RX0 yX0_clear yX0_clear, Cond.initialized RX0, Cond.code yX0_clear cX0_clear 2 none, Cond.fieldLink RX0 23 "Creditfabric$Buffers" "room" "I", Cond.fieldLink RX0 20 "Creditfabric$Buffers" "sizes" "LCreditfabric$Row;", Cond.methodLink RX0 27 yX5_fill, Cond.instanceMethod yX5_fill, Cond.selects RX5 yX5_fill yX5_fill, Cond.code yX5_fill cX5_fill 3 none]
def wsX7_begin_r3 : List Cond := [Cond.methodLink RX7 231 yX2_fill, Cond.instanceMethod yX2_fill, Cond.selects RX2 yX2_fill yX2_fill, Cond.initialized RX2, Cond.code yX2_fill cX2_fill 3 none, Cond.fieldLink RX2 23 "Creditfabric$Credits" "delay" "I", Cond.fieldLink RX2 14 "Creditfabric$Credits" "there" "LCreditfabric$Row;", Cond.fieldLink RX2 20 "Creditfabric$Credits" "coming" "LCreditfabric$Row;", Cond.fieldLink RX2 30 "Creditfabric$Credits" "comingInAll" "I", Cond.methodLink RX2 27 yX5_fill, Cond.methodLink RX7 234 yX6_clear, Cond.instanceMethod yX6_clear, Cond.selects RX6 yX6_clear yX6_clear, Cond.initialized RX6, Cond.code yX6_clear cX6_clear 1 none, Cond.fieldLink RX6 14 "Creditfabric$Senders" "gaps" "LCreditfabric$Row;", Cond.fieldLink RX6 20 "Creditfabric$Senders" "lastTicks" "LCreditfabric$Row;", Cond.methodLink RX6 23 yX5_fill, Cond.methodLink RX7 235 yX5_fill, Cond.methodLink RX7 88 yX3_size, Cond.instanceMethod yX3_size, Cond.selects RX3 yX3_size yX3_size, Cond.code yX3_size cX3_size 1 (some .int)]
def wsX7_begin : List Cond := .code yX7_begin cX7_begin 5 (some .int) :: ((wsX7_begin_r1 ++ (wsX7_begin_r2 ++ wsX7_begin_r3)) ++ wsX70 ++ wsX30 ++ wsX50 ++ wsX40 ++ wsX00 ++ wsX20 ++ wsX60 ++ (vx_atS RX7 81 "java/lang/IllegalArgumentException" ["java/lang/RuntimeException", "java/lang/Exception"]).filter goodWord)
def wsX7_checkSwitch : List Cond := .code yX7_checkSwitch cX7_checkSwitch 2 none :: ([.classLink RX7 209 "java/lang/IndexOutOfBoundsException", .initialized "java/lang/IndexOutOfBoundsException", .fieldLink RX7 12 "Creditfabric" "grid" "LCreditfabric$Grid;", .methodLink RX7 206 yX3_has, .instanceMethod yX3_has, .selects RX3 yX3_has yX3_has, .initialized RX3, .code yX3_has cX3_has 2 (some .boolean), .methodLink RX3 34 yX3_size, .instanceMethod yX3_size, .selects RX3 yX3_size yX3_size, .code yX3_size cX3_size 1 (some .int), .fieldLink RX3 23 "Creditfabric$Grid" "columns" "I", .fieldLink RX3 27 "Creditfabric$Grid" "rows" "I"] ++ wsX70 ++ wsX30 ++ (vx_atS RX7 213 "java/lang/IndexOutOfBoundsException" ["java/lang/RuntimeException", "java/lang/Exception"]).filter goodWord)
def wsX7_checkLane : List Cond := .code yX7_checkLane cX7_checkLane 1 none :: ([.classLink RX7 77 "java/lang/IllegalArgumentException", .initialized "java/lang/IllegalArgumentException"] ++ (vx_atS RX7 81 "java/lang/IllegalArgumentException" ["java/lang/RuntimeException", "java/lang/Exception"]).filter goodWord)
def wsX7_send_r1 : List Cond := [Cond.classLink RX7 77 "java/lang/IllegalArgumentException", Cond.initialized "java/lang/IllegalArgumentException", Cond.classLink RX7 110 "java/lang/IllegalStateException", Cond.initialized "java/lang/IllegalStateException", Cond.fieldLink RX7 28 "Creditfabric" "buffers" "LCreditfabric$Buffers;", Cond.fieldLink RX7 42 "Creditfabric" "senders" "LCreditfabric$Senders;", Cond.fieldLink RX7 115 "Creditfabric" "now" "I", Cond.fieldLink RX7 21 "Creditfabric" "traffic" "LCreditfabric$Packets;", Cond.methodLink RX7 92 yX7_checkSwitch, Cond.instanceMethod yX7_checkSwitch, Cond.selects RX7 yX7_checkSwitch yX7_checkSwitch, Cond.initialized RX7, Cond.code yX7_checkSwitch cX7_checkSwitch 2 none, Cond.classLink RX7 209 "java/lang/IndexOutOfBoundsException", Cond.initialized "java/lang/IndexOutOfBoundsException", Cond.fieldLink RX7 12 "Creditfabric" "grid" "LCreditfabric$Grid;", Cond.methodLink RX7 206 yX3_has, Cond.instanceMethod yX3_has, Cond.selects RX3 yX3_has yX3_has, Cond.initialized RX3, Cond.code yX3_has cX3_has 2 (some .boolean), Cond.methodLink RX3 34 yX3_size, Cond.instanceMethod yX3_size, Cond.selects RX3 yX3_size yX3_size]
def wsX7_send_r2 : List Cond := [Cond.code yX3_size cX3_size 1 (some .int), Cond.fieldLink RX3 23 "Creditfabric$Grid" "columns" "I", Cond.fieldLink RX3 27 "Creditfabric$Grid" "rows" "I", Cond.methodLink RX7 97 yX7_checkLane, Cond.static yX7_checkLane, Cond.code yX7_checkLane cX7_checkLane 1 none, Cond.methodLink RX7 102 yX7_bufferOf, Cond.static yX7_bufferOf, Cond.code yX7_bufferOf cX7_bufferOf 3 (some .int), Cond.methodLink RX7 106 yX0_isFull, Cond.instanceMethod yX0_isFull, Cond.selects RX0 yX0_isFull yX0_isFull, Cond.initialized RX0, Cond.code yX0_isFull cX0_isFull 2 (some .boolean), Cond.fieldLink RX0 20 "Creditfabric$Buffers" "sizes" "LCreditfabric$Row;", Cond.fieldLink RX0 23 "Creditfabric$Buffers" "room" "I", Cond.methodLink RX0 30 yX5_at, Cond.instanceMethod yX5_at, Cond.selects RX5 yX5_at yX5_at, Cond.initialized RX5, Cond.code yX5_at cX5_at 2 (some .int), Cond.fieldLink RX5 7 "Creditfabric$Row" "numbers" "[I", Cond.methodLink RX7 119 yX6_isReady, Cond.instanceMethod yX6_isReady]
def wsX7_send_r3 : List Cond := [Cond.selects RX6 yX6_isReady yX6_isReady, Cond.initialized RX6, Cond.code yX6_isReady cX6_isReady 4 (some .boolean), Cond.fieldLink RX6 20 "Creditfabric$Senders" "lastTicks" "LCreditfabric$Row;", Cond.fieldLink RX6 14 "Creditfabric$Senders" "gaps" "LCreditfabric$Row;", Cond.methodLink RX6 26 yX5_at, Cond.methodLink RX7 130 yX4_add, Cond.instanceMethod yX4_add, Cond.selects RX4 yX4_add yX4_add, Cond.initialized RX4, Cond.code yX4_add cX4_add 6 (some .int), Cond.fieldLink RX4 45 "Creditfabric$Packets" "count" "I", Cond.fieldLink RX4 14 "Creditfabric$Packets" "sources" "LCreditfabric$Row;", Cond.fieldLink RX4 20 "Creditfabric$Packets" "goals" "LCreditfabric$Row;", Cond.fieldLink RX4 23 "Creditfabric$Packets" "lanes" "LCreditfabric$Row;", Cond.fieldLink RX4 26 "Creditfabric$Packets" "modes" "LCreditfabric$Row;", Cond.fieldLink RX4 29 "Creditfabric$Packets" "places" "LCreditfabric$Row;", Cond.fieldLink RX4 32 "Creditfabric$Packets" "inputs" "LCreditfabric$Row;", Cond.fieldLink RX4 35 "Creditfabric$Packets" "hopsGone" "LCreditfabric$Row;", Cond.fieldLink RX4 38 "Creditfabric$Packets" "marks" "LCreditfabric$Row;", Cond.methodLink RX4 52 yX5_put, Cond.instanceMethod yX5_put, Cond.selects RX5 yX5_put yX5_put, Cond.code yX5_put cX5_put 3 none]
def wsX7_send_r4 : List Cond := [Cond.methodLink RX7 134 yX0_append, Cond.instanceMethod yX0_append, Cond.selects RX0 yX0_append yX0_append, Cond.code yX0_append cX0_append 3 none, Cond.fieldLink RX0 14 "Creditfabric$Buffers" "slots" "LCreditfabric$Row;", Cond.methodLink RX0 34 yX0_isFull, Cond.methodLink RX0 38 yX5_put, Cond.methodLink RX0 42 yX5_add, Cond.instanceMethod yX5_add, Cond.selects RX5 yX5_add yX5_add, Cond.code yX5_add cX5_add 3 none, Cond.methodLink RX5 13 yX5_at, Cond.methodLink RX5 17 yX5_put, Cond.methodLink RX7 138 yX6_note, Cond.instanceMethod yX6_note, Cond.selects RX6 yX6_note yX6_note, Cond.code yX6_note cX6_note 3 none, Cond.methodLink RX6 30 yX5_put]
def wsX7_send : List Cond := .code yX7_send cX7_send 7 (some .int) :: ((wsX7_send_r1 ++ (wsX7_send_r2 ++ (wsX7_send_r3 ++ wsX7_send_r4))) ++ wsX70 ++ wsX40 ++ wsX30 ++ wsX00 ++ wsX50 ++ wsX60 ++ (vx_atS RX7 81 "java/lang/IllegalArgumentException" ["java/lang/RuntimeException", "java/lang/Exception"]).filter goodWord ++ (vx_atS RX7 114 "java/lang/IllegalStateException" ["java/lang/RuntimeException", "java/lang/Exception"]).filter goodWord ++ (vx_atS RX7 213 "java/lang/IndexOutOfBoundsException" ["java/lang/RuntimeException", "java/lang/Exception"]).filter goodWord)
def wsX7_canGo_r1 : List Cond := [Cond.fieldLink RX7 12 "Creditfabric" "grid" "LCreditfabric$Grid;", Cond.fieldLink RX7 60 "Creditfabric" "paused" "LCreditfabric$Row;", Cond.fieldLink RX7 35 "Creditfabric" "purse" "LCreditfabric$Credits;", Cond.methodLink RX7 214 yX3_behind, Cond.instanceMethod yX3_behind, Cond.selects RX3 yX3_behind yX3_behind, Cond.initialized RX3, Cond.code yX3_behind cX3_behind 3 (some .int), Cond.fieldLink RX3 14 "Creditfabric$Grid" "columnOf" "LCreditfabric$Row;", Cond.fieldLink RX3 23 "Creditfabric$Grid" "columns" "I", Cond.fieldLink RX3 20 "Creditfabric$Grid" "rowOf" "LCreditfabric$Row;", Cond.fieldLink RX3 27 "Creditfabric$Grid" "rows" "I", Cond.methodLink RX3 38 yX5_at, Cond.instanceMethod yX5_at, Cond.selects RX5 yX5_at yX5_at, Cond.initialized RX5, Cond.code yX5_at cX5_at 2 (some .int), Cond.fieldLink RX5 7 "Creditfabric$Row" "numbers" "[I", Cond.methodLink RX7 149 yX5_at, Cond.methodLink RX7 102 yX7_bufferOf, Cond.static yX7_bufferOf, Cond.initialized RX7, Cond.code yX7_bufferOf cX7_bufferOf 3 (some .int), Cond.methodLink RX7 162 yX2_there]
def wsX7_canGo_r2 : List Cond := [Cond.instanceMethod yX2_there, Cond.selects RX2 yX2_there yX2_there, Cond.initialized RX2, Cond.code yX2_there cX2_there 2 (some .int), Cond.fieldLink RX2 14 "Creditfabric$Credits" "there" "LCreditfabric$Row;", Cond.methodLink RX2 33 yX5_at]
def wsX7_canGo : List Cond := .code yX7_canGo cX7_canGo 5 (some .boolean) :: ((wsX7_canGo_r1 ++ wsX7_canGo_r2) ++ wsX70 ++ wsX30 ++ wsX50 ++ wsX20)
def wsX7_takeTurn : List Cond := .code yX7_takeTurn cX7_takeTurn 8 none :: ([.fieldLink RX7 64 "Creditfabric" "turns" "LCreditfabric$Row;", .fieldLink RX7 70 "Creditfabric" "chosen" "LCreditfabric$Row;", .fieldLink RX7 240 "Creditfabric" "chosenCount" "I", .fieldLink RX7 28 "Creditfabric" "buffers" "LCreditfabric$Buffers;", .methodLink RX7 149 yX5_at, .instanceMethod yX5_at, .selects RX5 yX5_at yX5_at, .initialized RX5, .code yX5_at cX5_at 2 (some .int), .fieldLink RX5 7 "Creditfabric$Row" "numbers" "[I", .methodLink RX7 252 yX0_first, .instanceMethod yX0_first, .selects RX0 yX0_first yX0_first, .initialized RX0, .code yX0_first cX0_first 2 (some .int), .fieldLink RX0 20 "Creditfabric$Buffers" "sizes" "LCreditfabric$Row;", .fieldLink RX0 14 "Creditfabric$Buffers" "slots" "LCreditfabric$Row;", .methodLink RX0 30 yX5_at, .methodLink RX7 153 yX5_put, .instanceMethod yX5_put, .selects RX5 yX5_put yX5_put, .code yX5_put cX5_put 3 none] ++ wsX70 ++ wsX50 ++ wsX00)
def wsX7_chooseAt_r1 : List Cond := [Cond.fieldLink RX7 67 "Creditfabric" "ready" "LCreditfabric$Row;", Cond.fieldLink RX7 28 "Creditfabric" "buffers" "LCreditfabric$Buffers;", Cond.fieldLink RX7 21 "Creditfabric" "traffic" "LCreditfabric$Packets;", Cond.methodLink RX7 235 yX5_fill, Cond.instanceMethod yX5_fill, Cond.selects RX5 yX5_fill yX5_fill, Cond.initialized RX5, Cond.code yX5_fill cX5_fill 3 none, Cond.fieldLink RX5 7 "Creditfabric$Row" "numbers" "[I", Cond.methodLink RX7 252 yX0_first, Cond.instanceMethod yX0_first, Cond.selects RX0 yX0_first yX0_first, Cond.initialized RX0, Cond.code yX0_first cX0_first 2 (some .int), Cond.fieldLink RX0 20 "Creditfabric$Buffers" "sizes" "LCreditfabric$Row;", Cond.fieldLink RX0 14 "Creditfabric$Buffers" "slots" "LCreditfabric$Row;", Cond.methodLink RX0 30 yX5_at, Cond.instanceMethod yX5_at, Cond.selects RX5 yX5_at yX5_at, Cond.code yX5_at cX5_at 2 (some .int), Cond.methodLink RX7 196 yX4_outputOf, Cond.instanceMethod yX4_outputOf, Cond.selects RX4 yX4_outputOf yX4_outputOf, Cond.initialized RX4]
def wsX7_chooseAt_r2 : List Cond := [Cond.code yX4_outputOf cX4_outputOf 3 (some .int), Cond.fieldLink RX4 29 "Creditfabric$Packets" "places" "LCreditfabric$Row;", Cond.fieldLink RX4 41 "Creditfabric$Packets" "grid" "LCreditfabric$Grid;", Cond.fieldLink RX4 20 "Creditfabric$Packets" "goals" "LCreditfabric$Row;", Cond.fieldLink RX4 26 "Creditfabric$Packets" "modes" "LCreditfabric$Row;", Cond.methodLink RX4 56 yX5_at, Cond.methodLink RX4 60 yX3_outputTowards, Cond.instanceMethod yX3_outputTowards, Cond.selects RX3 yX3_outputTowards yX3_outputTowards, Cond.initialized RX3, Cond.code yX3_outputTowards cX3_outputTowards 6 (some .int), Cond.fieldLink RX3 14 "Creditfabric$Grid" "columnOf" "LCreditfabric$Row;", Cond.fieldLink RX3 20 "Creditfabric$Grid" "rowOf" "LCreditfabric$Row;", Cond.methodLink RX3 38 yX5_at, Cond.methodLink RX3 42 yX3_stepTowards, Cond.static yX3_stepTowards, Cond.code yX3_stepTowards cX3_stepTowards 4 (some .int), Cond.methodLink RX7 149 yX5_at, Cond.methodLink RX7 258 yX7_canGo, Cond.instanceMethod yX7_canGo, Cond.selects RX7 yX7_canGo yX7_canGo, Cond.initialized RX7, Cond.code yX7_canGo cX7_canGo 5 (some .boolean), Cond.fieldLink RX7 12 "Creditfabric" "grid" "LCreditfabric$Grid;"]
def wsX7_chooseAt_r3 : List Cond := [Cond.fieldLink RX7 60 "Creditfabric" "paused" "LCreditfabric$Row;", Cond.fieldLink RX7 35 "Creditfabric" "purse" "LCreditfabric$Credits;", Cond.methodLink RX7 214 yX3_behind, Cond.instanceMethod yX3_behind, Cond.selects RX3 yX3_behind yX3_behind, Cond.code yX3_behind cX3_behind 3 (some .int), Cond.fieldLink RX3 23 "Creditfabric$Grid" "columns" "I", Cond.fieldLink RX3 27 "Creditfabric$Grid" "rows" "I", Cond.methodLink RX7 102 yX7_bufferOf, Cond.static yX7_bufferOf, Cond.code yX7_bufferOf cX7_bufferOf 3 (some .int), Cond.methodLink RX7 162 yX2_there, Cond.instanceMethod yX2_there, Cond.selects RX2 yX2_there yX2_there, Cond.initialized RX2, Cond.code yX2_there cX2_there 2 (some .int), Cond.fieldLink RX2 14 "Creditfabric$Credits" "there" "LCreditfabric$Row;", Cond.methodLink RX2 33 yX5_at, Cond.methodLink RX7 153 yX5_put, Cond.instanceMethod yX5_put, Cond.selects RX5 yX5_put yX5_put, Cond.code yX5_put cX5_put 3 none, Cond.methodLink RX7 262 yX7_takeTurn, Cond.instanceMethod yX7_takeTurn]
def wsX7_chooseAt_r4 : List Cond := [Cond.selects RX7 yX7_takeTurn yX7_takeTurn, Cond.code yX7_takeTurn cX7_takeTurn 8 none, Cond.fieldLink RX7 64 "Creditfabric" "turns" "LCreditfabric$Row;", Cond.fieldLink RX7 70 "Creditfabric" "chosen" "LCreditfabric$Row;", Cond.fieldLink RX7 240 "Creditfabric" "chosenCount" "I"]
def wsX7_chooseAt : List Cond := .code yX7_chooseAt cX7_chooseAt 5 none :: ((wsX7_chooseAt_r1 ++ (wsX7_chooseAt_r2 ++ (wsX7_chooseAt_r3 ++ wsX7_chooseAt_r4))) ++ wsX70 ++ wsX40 ++ wsX50 ++ wsX00 ++ wsX30 ++ wsX20)
def wsX7_move_r1 : List Cond := [Cond.fieldLink RX7 21 "Creditfabric" "traffic" "LCreditfabric$Packets;", Cond.fieldLink RX7 28 "Creditfabric" "buffers" "LCreditfabric$Buffers;", Cond.fieldLink RX7 35 "Creditfabric" "purse" "LCreditfabric$Credits;", Cond.fieldLink RX7 115 "Creditfabric" "now" "I", Cond.fieldLink RX7 42 "Creditfabric" "senders" "LCreditfabric$Senders;", Cond.fieldLink RX7 12 "Creditfabric" "grid" "LCreditfabric$Grid;", Cond.methodLink RX7 196 yX4_outputOf, Cond.instanceMethod yX4_outputOf, Cond.selects RX4 yX4_outputOf yX4_outputOf, Cond.initialized RX4, Cond.code yX4_outputOf cX4_outputOf 3 (some .int), Cond.fieldLink RX4 29 "Creditfabric$Packets" "places" "LCreditfabric$Row;", Cond.fieldLink RX4 41 "Creditfabric$Packets" "grid" "LCreditfabric$Grid;", Cond.fieldLink RX4 20 "Creditfabric$Packets" "goals" "LCreditfabric$Row;", Cond.fieldLink RX4 26 "Creditfabric$Packets" "modes" "LCreditfabric$Row;", Cond.methodLink RX4 56 yX5_at, Cond.instanceMethod yX5_at, Cond.selects RX5 yX5_at yX5_at, Cond.initialized RX5, Cond.code yX5_at cX5_at 2 (some .int), Cond.fieldLink RX5 7 "Creditfabric$Row" "numbers" "[I", Cond.methodLink RX4 60 yX3_outputTowards, Cond.instanceMethod yX3_outputTowards, Cond.selects RX3 yX3_outputTowards yX3_outputTowards]
def wsX7_move_r2 : List Cond := [Cond.initialized RX3, Cond.code yX3_outputTowards cX3_outputTowards 6 (some .int), Cond.fieldLink RX3 14 "Creditfabric$Grid" "columnOf" "LCreditfabric$Row;", Cond.fieldLink RX3 20 "Creditfabric$Grid" "rowOf" "LCreditfabric$Row;", Cond.methodLink RX3 38 yX5_at, Cond.methodLink RX3 42 yX3_stepTowards, Cond.static yX3_stepTowards, Cond.code yX3_stepTowards cX3_stepTowards 4 (some .int), Cond.methodLink RX7 149 yX5_at, Cond.methodLink RX7 102 yX7_bufferOf, Cond.static yX7_bufferOf, Cond.initialized RX7, Cond.code yX7_bufferOf cX7_bufferOf 3 (some .int), Cond.methodLink RX7 269 yX0_removeFirst, Cond.instanceMethod yX0_removeFirst, Cond.selects RX0 yX0_removeFirst yX0_removeFirst, Cond.initialized RX0, Cond.code yX0_removeFirst cX0_removeFirst 4 none, Cond.fieldLink RX0 20 "Creditfabric$Buffers" "sizes" "LCreditfabric$Row;", Cond.fieldLink RX0 14 "Creditfabric$Buffers" "slots" "LCreditfabric$Row;", Cond.methodLink RX0 30 yX5_at, Cond.methodLink RX0 38 yX5_put, Cond.instanceMethod yX5_put, Cond.selects RX5 yX5_put yX5_put]
def wsX7_move_r3 : List Cond := [Cond.code yX5_put cX5_put 3 none, Cond.methodLink RX0 42 yX5_add, Cond.instanceMethod yX5_add, Cond.selects RX5 yX5_add yX5_add, Cond.code yX5_add cX5_add 3 none, Cond.methodLink RX5 13 yX5_at, Cond.methodLink RX5 17 yX5_put, Cond.methodLink RX7 272 yX2_giveBack, Cond.instanceMethod yX2_giveBack, Cond.selects RX2 yX2_giveBack yX2_giveBack, Cond.initialized RX2, Cond.code yX2_giveBack cX2_giveBack 3 none, Cond.fieldLink RX2 20 "Creditfabric$Credits" "coming" "LCreditfabric$Row;", Cond.fieldLink RX2 23 "Creditfabric$Credits" "delay" "I", Cond.fieldLink RX2 30 "Creditfabric$Credits" "comingInAll" "I", Cond.methodLink RX2 41 yX2_slotOf, Cond.static yX2_slotOf, Cond.code yX2_slotOf cX2_slotOf 2 (some .int), Cond.methodLink RX2 37 yX5_add, Cond.methodLink RX7 275 yX4_goOut, Cond.instanceMethod yX4_goOut, Cond.selects RX4 yX4_goOut yX4_goOut, Cond.code yX4_goOut cX4_goOut 2 none, Cond.fieldLink RX4 49 "Creditfabric$Packets" "gone" "I"]
def wsX7_move_r4 : List Cond := [Cond.methodLink RX4 52 yX5_put, Cond.methodLink RX7 281 yX6_adapt, Cond.instanceMethod yX6_adapt, Cond.selects RX6 yX6_adapt yX6_adapt, Cond.initialized RX6, Cond.code yX6_adapt cX6_adapt 4 none, Cond.fieldLink RX6 14 "Creditfabric$Senders" "gaps" "LCreditfabric$Row;", Cond.methodLink RX6 34 Lib.Math.min.name, Cond.static Lib.Math.min.name, Cond.initialized "java/lang/Math", Cond.code Lib.Math.min.name Lib.Math.min.code 2 (some .int), Cond.methodLink RX6 40 Lib.Math.max.name, Cond.static Lib.Math.max.name, Cond.code Lib.Math.max.name Lib.Math.max.code 2 (some .int), Cond.methodLink RX6 26 yX5_at, Cond.methodLink RX6 30 yX5_put, Cond.methodLink RX7 214 yX3_behind, Cond.instanceMethod yX3_behind, Cond.selects RX3 yX3_behind yX3_behind, Cond.code yX3_behind cX3_behind 3 (some .int), Cond.fieldLink RX3 23 "Creditfabric$Grid" "columns" "I", Cond.fieldLink RX3 27 "Creditfabric$Grid" "rows" "I", Cond.methodLink RX7 167 yX2_take, Cond.instanceMethod yX2_take]
def wsX7_move_r5 : List Cond := [Cond.selects RX2 yX2_take yX2_take, Cond.code yX2_take cX2_take 2 none, Cond.fieldLink RX2 14 "Creditfabric$Credits" "there" "LCreditfabric$Row;", Cond.methodLink RX7 134 yX0_append, Cond.instanceMethod yX0_append, Cond.selects RX0 yX0_append yX0_append, Cond.code yX0_append cX0_append 3 none, Cond.methodLink RX0 34 yX0_isFull, Cond.instanceMethod yX0_isFull, Cond.selects RX0 yX0_isFull yX0_isFull, Cond.code yX0_isFull cX0_isFull 2 (some .boolean), Cond.fieldLink RX0 23 "Creditfabric$Buffers" "room" "I", Cond.methodLink RX7 285 yX4_goOver, Cond.instanceMethod yX4_goOver, Cond.selects RX4 yX4_goOver yX4_goOver, Cond.code yX4_goOver cX4_goOver 4 none, Cond.fieldLink RX4 32 "Creditfabric$Packets" "inputs" "LCreditfabric$Row;", Cond.fieldLink RX4 35 "Creditfabric$Packets" "hopsGone" "LCreditfabric$Row;", Cond.methodLink RX4 66 yX5_add]
def wsX7_move : List Cond := .code yX7_move cX7_move 7 none :: ((wsX7_move_r1 ++ (wsX7_move_r2 ++ (wsX7_move_r3 ++ (wsX7_move_r4 ++ wsX7_move_r5)))) ++ wsX70 ++ wsX40 ++ wsX50 ++ wsX30 ++ wsX00 ++ wsX20 ++ wsX60)
def wsX7_markInCrowd : List Cond := .code yX7_markInCrowd cX7_markInCrowd 3 none :: ([.fieldLink RX7 21 "Creditfabric" "traffic" "LCreditfabric$Packets;", .fieldLink RX7 28 "Creditfabric" "buffers" "LCreditfabric$Buffers;", .methodLink RX7 149 yX5_at, .instanceMethod yX5_at, .selects RX5 yX5_at yX5_at, .initialized RX5, .code yX5_at cX5_at 2 (some .int), .fieldLink RX5 7 "Creditfabric$Row" "numbers" "[I", .methodLink RX7 288 yX0_load, .instanceMethod yX0_load, .selects RX0 yX0_load yX0_load, .initialized RX0, .code yX0_load cX0_load 4 (some .int), .fieldLink RX0 20 "Creditfabric$Buffers" "sizes" "LCreditfabric$Row;", .methodLink RX0 30 yX5_at, .methodLink RX7 153 yX5_put, .instanceMethod yX5_put, .selects RX5 yX5_put yX5_put, .code yX5_put cX5_put 3 none] ++ wsX70 ++ wsX40 ++ wsX50 ++ wsX00)
def wsX7_runOne_r1 : List Cond := [Cond.fieldLink RX7 35 "Creditfabric" "purse" "LCreditfabric$Credits;", Cond.fieldLink RX7 115 "Creditfabric" "now" "I", Cond.fieldLink RX7 240 "Creditfabric" "chosenCount" "I", Cond.fieldLink RX7 12 "Creditfabric" "grid" "LCreditfabric$Grid;", Cond.fieldLink RX7 70 "Creditfabric" "chosen" "LCreditfabric$Row;", Cond.methodLink RX7 237 yX2_comeBack, Cond.instanceMethod yX2_comeBack, Cond.selects RX2 yX2_comeBack yX2_comeBack, Cond.initialized RX2, Cond.code yX2_comeBack cX2_comeBack 5 none, Cond.fieldLink RX2 30 "Creditfabric$Credits" "comingInAll" "I", Cond.fieldLink RX2 20 "Creditfabric$Credits" "coming" "LCreditfabric$Row;", Cond.fieldLink RX2 14 "Creditfabric$Credits" "there" "LCreditfabric$Row;", Cond.methodLink RX2 41 yX2_slotOf, Cond.static yX2_slotOf, Cond.code yX2_slotOf cX2_slotOf 2 (some .int), Cond.methodLink RX2 33 yX5_at, Cond.instanceMethod yX5_at, Cond.selects RX5 yX5_at yX5_at, Cond.initialized RX5, Cond.code yX5_at cX5_at 2 (some .int), Cond.fieldLink RX5 7 "Creditfabric$Row" "numbers" "[I", Cond.methodLink RX2 37 yX5_add, Cond.instanceMethod yX5_add]
def wsX7_runOne_r2 : List Cond := [Cond.selects RX5 yX5_add yX5_add, Cond.code yX5_add cX5_add 3 none, Cond.methodLink RX5 13 yX5_at, Cond.methodLink RX5 17 yX5_put, Cond.instanceMethod yX5_put, Cond.selects RX5 yX5_put yX5_put, Cond.code yX5_put cX5_put 3 none, Cond.methodLink RX2 45 yX5_put, Cond.methodLink RX7 88 yX3_size, Cond.instanceMethod yX3_size, Cond.selects RX3 yX3_size yX3_size, Cond.initialized RX3, Cond.code yX3_size cX3_size 1 (some .int), Cond.fieldLink RX3 23 "Creditfabric$Grid" "columns" "I", Cond.fieldLink RX3 27 "Creditfabric$Grid" "rows" "I", Cond.methodLink RX7 243 yX7_chooseAt, Cond.instanceMethod yX7_chooseAt, Cond.selects RX7 yX7_chooseAt yX7_chooseAt, Cond.initialized RX7, Cond.code yX7_chooseAt cX7_chooseAt 5 none, Cond.fieldLink RX7 67 "Creditfabric" "ready" "LCreditfabric$Row;", Cond.fieldLink RX7 28 "Creditfabric" "buffers" "LCreditfabric$Buffers;", Cond.fieldLink RX7 21 "Creditfabric" "traffic" "LCreditfabric$Packets;", Cond.methodLink RX7 235 yX5_fill]
def wsX7_runOne_r3 : List Cond := [Cond.instanceMethod yX5_fill, Cond.selects RX5 yX5_fill yX5_fill, Cond.code yX5_fill cX5_fill 3 none, Cond.methodLink RX7 252 yX0_first, Cond.instanceMethod yX0_first, Cond.selects RX0 yX0_first yX0_first, Cond.initialized RX0, Cond.code yX0_first cX0_first 2 (some .int), Cond.fieldLink RX0 20 "Creditfabric$Buffers" "sizes" "LCreditfabric$Row;", Cond.fieldLink RX0 14 "Creditfabric$Buffers" "slots" "LCreditfabric$Row;", Cond.methodLink RX0 30 yX5_at, Cond.methodLink RX7 196 yX4_outputOf, Cond.instanceMethod yX4_outputOf, Cond.selects RX4 yX4_outputOf yX4_outputOf, Cond.initialized RX4, Cond.code yX4_outputOf cX4_outputOf 3 (some .int), Cond.fieldLink RX4 29 "Creditfabric$Packets" "places" "LCreditfabric$Row;", Cond.fieldLink RX4 41 "Creditfabric$Packets" "grid" "LCreditfabric$Grid;", Cond.fieldLink RX4 20 "Creditfabric$Packets" "goals" "LCreditfabric$Row;", Cond.fieldLink RX4 26 "Creditfabric$Packets" "modes" "LCreditfabric$Row;", Cond.methodLink RX4 56 yX5_at, Cond.methodLink RX4 60 yX3_outputTowards, Cond.instanceMethod yX3_outputTowards, Cond.selects RX3 yX3_outputTowards yX3_outputTowards]
def wsX7_runOne_r4 : List Cond := [Cond.code yX3_outputTowards cX3_outputTowards 6 (some .int), Cond.fieldLink RX3 14 "Creditfabric$Grid" "columnOf" "LCreditfabric$Row;", Cond.fieldLink RX3 20 "Creditfabric$Grid" "rowOf" "LCreditfabric$Row;", Cond.methodLink RX3 38 yX5_at, Cond.methodLink RX3 42 yX3_stepTowards, Cond.static yX3_stepTowards, Cond.code yX3_stepTowards cX3_stepTowards 4 (some .int), Cond.methodLink RX7 149 yX5_at, Cond.methodLink RX7 258 yX7_canGo, Cond.instanceMethod yX7_canGo, Cond.selects RX7 yX7_canGo yX7_canGo, Cond.code yX7_canGo cX7_canGo 5 (some .boolean), Cond.fieldLink RX7 60 "Creditfabric" "paused" "LCreditfabric$Row;", Cond.methodLink RX7 214 yX3_behind, Cond.instanceMethod yX3_behind, Cond.selects RX3 yX3_behind yX3_behind, Cond.code yX3_behind cX3_behind 3 (some .int), Cond.methodLink RX7 102 yX7_bufferOf, Cond.static yX7_bufferOf, Cond.code yX7_bufferOf cX7_bufferOf 3 (some .int), Cond.methodLink RX7 162 yX2_there, Cond.instanceMethod yX2_there, Cond.selects RX2 yX2_there yX2_there, Cond.code yX2_there cX2_there 2 (some .int)]
def wsX7_runOne_r5 : List Cond := [Cond.methodLink RX7 153 yX5_put, Cond.methodLink RX7 262 yX7_takeTurn, Cond.instanceMethod yX7_takeTurn, Cond.selects RX7 yX7_takeTurn yX7_takeTurn, Cond.code yX7_takeTurn cX7_takeTurn 8 none, Cond.fieldLink RX7 64 "Creditfabric" "turns" "LCreditfabric$Row;", Cond.methodLink RX7 246 yX7_move, Cond.instanceMethod yX7_move, Cond.selects RX7 yX7_move yX7_move, Cond.code yX7_move cX7_move 7 none, Cond.fieldLink RX7 42 "Creditfabric" "senders" "LCreditfabric$Senders;", Cond.methodLink RX7 269 yX0_removeFirst, Cond.instanceMethod yX0_removeFirst, Cond.selects RX0 yX0_removeFirst yX0_removeFirst, Cond.code yX0_removeFirst cX0_removeFirst 4 none, Cond.methodLink RX0 38 yX5_put, Cond.methodLink RX0 42 yX5_add, Cond.methodLink RX7 272 yX2_giveBack, Cond.instanceMethod yX2_giveBack, Cond.selects RX2 yX2_giveBack yX2_giveBack, Cond.code yX2_giveBack cX2_giveBack 3 none, Cond.fieldLink RX2 23 "Creditfabric$Credits" "delay" "I", Cond.methodLink RX7 275 yX4_goOut, Cond.instanceMethod yX4_goOut]
def wsX7_runOne_r6 : List Cond := [Cond.selects RX4 yX4_goOut yX4_goOut, Cond.code yX4_goOut cX4_goOut 2 none, Cond.fieldLink RX4 49 "Creditfabric$Packets" "gone" "I", Cond.methodLink RX4 52 yX5_put, Cond.methodLink RX7 281 yX6_adapt, Cond.instanceMethod yX6_adapt, Cond.selects RX6 yX6_adapt yX6_adapt, Cond.initialized RX6, Cond.code yX6_adapt cX6_adapt 4 none, Cond.fieldLink RX6 14 "Creditfabric$Senders" "gaps" "LCreditfabric$Row;", Cond.methodLink RX6 34 Lib.Math.min.name, Cond.static Lib.Math.min.name, Cond.initialized "java/lang/Math", Cond.code Lib.Math.min.name Lib.Math.min.code 2 (some .int), Cond.methodLink RX6 40 Lib.Math.max.name, Cond.static Lib.Math.max.name, Cond.code Lib.Math.max.name Lib.Math.max.code 2 (some .int), Cond.methodLink RX6 26 yX5_at, Cond.methodLink RX6 30 yX5_put, Cond.methodLink RX7 167 yX2_take, Cond.instanceMethod yX2_take, Cond.selects RX2 yX2_take yX2_take, Cond.code yX2_take cX2_take 2 none, Cond.methodLink RX7 134 yX0_append]
def wsX7_runOne_r7 : List Cond := [Cond.instanceMethod yX0_append, Cond.selects RX0 yX0_append yX0_append, Cond.code yX0_append cX0_append 3 none, Cond.methodLink RX0 34 yX0_isFull, Cond.instanceMethod yX0_isFull, Cond.selects RX0 yX0_isFull yX0_isFull, Cond.code yX0_isFull cX0_isFull 2 (some .boolean), Cond.fieldLink RX0 23 "Creditfabric$Buffers" "room" "I", Cond.methodLink RX7 285 yX4_goOver, Cond.instanceMethod yX4_goOver, Cond.selects RX4 yX4_goOver yX4_goOver, Cond.code yX4_goOver cX4_goOver 4 none, Cond.fieldLink RX4 32 "Creditfabric$Packets" "inputs" "LCreditfabric$Row;", Cond.fieldLink RX4 35 "Creditfabric$Packets" "hopsGone" "LCreditfabric$Row;", Cond.methodLink RX4 66 yX5_add, Cond.methodLink RX7 249 yX7_markInCrowd, Cond.instanceMethod yX7_markInCrowd, Cond.selects RX7 yX7_markInCrowd yX7_markInCrowd, Cond.code yX7_markInCrowd cX7_markInCrowd 3 none, Cond.methodLink RX7 288 yX0_load, Cond.instanceMethod yX0_load, Cond.selects RX0 yX0_load yX0_load, Cond.code yX0_load cX0_load 4 (some .int)]
def wsX7_runOne : List Cond := .code yX7_runOne cX7_runOne 2 none :: ((wsX7_runOne_r1 ++ (wsX7_runOne_r2 ++ (wsX7_runOne_r3 ++ (wsX7_runOne_r4 ++ (wsX7_runOne_r5 ++ (wsX7_runOne_r6 ++ wsX7_runOne_r7)))))) ++ wsX70 ++ wsX20 ++ wsX50 ++ wsX30 ++ wsX40 ++ wsX00 ++ wsX60)
def wsX7_run_r1 : List Cond := [Cond.classLink RX7 77 "java/lang/IllegalArgumentException", Cond.initialized "java/lang/IllegalArgumentException", Cond.fieldLink RX7 21 "Creditfabric" "traffic" "LCreditfabric$Packets;", Cond.methodLink RX7 146 yX7_runOne, Cond.instanceMethod yX7_runOne, Cond.selects RX7 yX7_runOne yX7_runOne, Cond.initialized RX7, Cond.code yX7_runOne cX7_runOne 2 none, Cond.fieldLink RX7 35 "Creditfabric" "purse" "LCreditfabric$Credits;", Cond.fieldLink RX7 115 "Creditfabric" "now" "I", Cond.fieldLink RX7 240 "Creditfabric" "chosenCount" "I", Cond.fieldLink RX7 12 "Creditfabric" "grid" "LCreditfabric$Grid;", Cond.fieldLink RX7 70 "Creditfabric" "chosen" "LCreditfabric$Row;", Cond.methodLink RX7 237 yX2_comeBack, Cond.instanceMethod yX2_comeBack, Cond.selects RX2 yX2_comeBack yX2_comeBack, Cond.initialized RX2, Cond.code yX2_comeBack cX2_comeBack 5 none, Cond.fieldLink RX2 30 "Creditfabric$Credits" "comingInAll" "I", Cond.fieldLink RX2 20 "Creditfabric$Credits" "coming" "LCreditfabric$Row;", Cond.fieldLink RX2 14 "Creditfabric$Credits" "there" "LCreditfabric$Row;", Cond.methodLink RX2 41 yX2_slotOf, Cond.static yX2_slotOf, Cond.code yX2_slotOf cX2_slotOf 2 (some .int)]
def wsX7_run_r2 : List Cond := [Cond.methodLink RX2 33 yX5_at, Cond.instanceMethod yX5_at, Cond.selects RX5 yX5_at yX5_at, Cond.initialized RX5, Cond.code yX5_at cX5_at 2 (some .int), Cond.fieldLink RX5 7 "Creditfabric$Row" "numbers" "[I", Cond.methodLink RX2 37 yX5_add, Cond.instanceMethod yX5_add, Cond.selects RX5 yX5_add yX5_add, Cond.code yX5_add cX5_add 3 none, Cond.methodLink RX5 13 yX5_at, Cond.methodLink RX5 17 yX5_put, Cond.instanceMethod yX5_put, Cond.selects RX5 yX5_put yX5_put, Cond.code yX5_put cX5_put 3 none, Cond.methodLink RX2 45 yX5_put, Cond.methodLink RX7 88 yX3_size, Cond.instanceMethod yX3_size, Cond.selects RX3 yX3_size yX3_size, Cond.initialized RX3, Cond.code yX3_size cX3_size 1 (some .int), Cond.fieldLink RX3 23 "Creditfabric$Grid" "columns" "I", Cond.fieldLink RX3 27 "Creditfabric$Grid" "rows" "I", Cond.methodLink RX7 243 yX7_chooseAt]
def wsX7_run_r3 : List Cond := [Cond.instanceMethod yX7_chooseAt, Cond.selects RX7 yX7_chooseAt yX7_chooseAt, Cond.code yX7_chooseAt cX7_chooseAt 5 none, Cond.fieldLink RX7 67 "Creditfabric" "ready" "LCreditfabric$Row;", Cond.fieldLink RX7 28 "Creditfabric" "buffers" "LCreditfabric$Buffers;", Cond.methodLink RX7 235 yX5_fill, Cond.instanceMethod yX5_fill, Cond.selects RX5 yX5_fill yX5_fill, Cond.code yX5_fill cX5_fill 3 none, Cond.methodLink RX7 252 yX0_first, Cond.instanceMethod yX0_first, Cond.selects RX0 yX0_first yX0_first, Cond.initialized RX0, Cond.code yX0_first cX0_first 2 (some .int), Cond.fieldLink RX0 20 "Creditfabric$Buffers" "sizes" "LCreditfabric$Row;", Cond.fieldLink RX0 14 "Creditfabric$Buffers" "slots" "LCreditfabric$Row;", Cond.methodLink RX0 30 yX5_at, Cond.methodLink RX7 196 yX4_outputOf, Cond.instanceMethod yX4_outputOf, Cond.selects RX4 yX4_outputOf yX4_outputOf, Cond.initialized RX4, Cond.code yX4_outputOf cX4_outputOf 3 (some .int), Cond.fieldLink RX4 29 "Creditfabric$Packets" "places" "LCreditfabric$Row;", Cond.fieldLink RX4 41 "Creditfabric$Packets" "grid" "LCreditfabric$Grid;"]
def wsX7_run_r4 : List Cond := [Cond.fieldLink RX4 20 "Creditfabric$Packets" "goals" "LCreditfabric$Row;", Cond.fieldLink RX4 26 "Creditfabric$Packets" "modes" "LCreditfabric$Row;", Cond.methodLink RX4 56 yX5_at, Cond.methodLink RX4 60 yX3_outputTowards, Cond.instanceMethod yX3_outputTowards, Cond.selects RX3 yX3_outputTowards yX3_outputTowards, Cond.code yX3_outputTowards cX3_outputTowards 6 (some .int), Cond.fieldLink RX3 14 "Creditfabric$Grid" "columnOf" "LCreditfabric$Row;", Cond.fieldLink RX3 20 "Creditfabric$Grid" "rowOf" "LCreditfabric$Row;", Cond.methodLink RX3 38 yX5_at, Cond.methodLink RX3 42 yX3_stepTowards, Cond.static yX3_stepTowards, Cond.code yX3_stepTowards cX3_stepTowards 4 (some .int), Cond.methodLink RX7 149 yX5_at, Cond.methodLink RX7 258 yX7_canGo, Cond.instanceMethod yX7_canGo, Cond.selects RX7 yX7_canGo yX7_canGo, Cond.code yX7_canGo cX7_canGo 5 (some .boolean), Cond.fieldLink RX7 60 "Creditfabric" "paused" "LCreditfabric$Row;", Cond.methodLink RX7 214 yX3_behind, Cond.instanceMethod yX3_behind, Cond.selects RX3 yX3_behind yX3_behind, Cond.code yX3_behind cX3_behind 3 (some .int), Cond.methodLink RX7 102 yX7_bufferOf]
def wsX7_run_r5 : List Cond := [Cond.static yX7_bufferOf, Cond.code yX7_bufferOf cX7_bufferOf 3 (some .int), Cond.methodLink RX7 162 yX2_there, Cond.instanceMethod yX2_there, Cond.selects RX2 yX2_there yX2_there, Cond.code yX2_there cX2_there 2 (some .int), Cond.methodLink RX7 153 yX5_put, Cond.methodLink RX7 262 yX7_takeTurn, Cond.instanceMethod yX7_takeTurn, Cond.selects RX7 yX7_takeTurn yX7_takeTurn, Cond.code yX7_takeTurn cX7_takeTurn 8 none, Cond.fieldLink RX7 64 "Creditfabric" "turns" "LCreditfabric$Row;", Cond.methodLink RX7 246 yX7_move, Cond.instanceMethod yX7_move, Cond.selects RX7 yX7_move yX7_move, Cond.code yX7_move cX7_move 7 none, Cond.fieldLink RX7 42 "Creditfabric" "senders" "LCreditfabric$Senders;", Cond.methodLink RX7 269 yX0_removeFirst, Cond.instanceMethod yX0_removeFirst, Cond.selects RX0 yX0_removeFirst yX0_removeFirst, Cond.code yX0_removeFirst cX0_removeFirst 4 none, Cond.methodLink RX0 38 yX5_put, Cond.methodLink RX0 42 yX5_add, Cond.methodLink RX7 272 yX2_giveBack]
def wsX7_run_r6 : List Cond := [Cond.instanceMethod yX2_giveBack, Cond.selects RX2 yX2_giveBack yX2_giveBack, Cond.code yX2_giveBack cX2_giveBack 3 none, Cond.fieldLink RX2 23 "Creditfabric$Credits" "delay" "I", Cond.methodLink RX7 275 yX4_goOut, Cond.instanceMethod yX4_goOut, Cond.selects RX4 yX4_goOut yX4_goOut, Cond.code yX4_goOut cX4_goOut 2 none, Cond.fieldLink RX4 49 "Creditfabric$Packets" "gone" "I", Cond.methodLink RX4 52 yX5_put, Cond.methodLink RX7 281 yX6_adapt, Cond.instanceMethod yX6_adapt, Cond.selects RX6 yX6_adapt yX6_adapt, Cond.initialized RX6, Cond.code yX6_adapt cX6_adapt 4 none, Cond.fieldLink RX6 14 "Creditfabric$Senders" "gaps" "LCreditfabric$Row;", Cond.methodLink RX6 34 Lib.Math.min.name, Cond.static Lib.Math.min.name, Cond.initialized "java/lang/Math", Cond.code Lib.Math.min.name Lib.Math.min.code 2 (some .int), Cond.methodLink RX6 40 Lib.Math.max.name, Cond.static Lib.Math.max.name, Cond.code Lib.Math.max.name Lib.Math.max.code 2 (some .int), Cond.methodLink RX6 26 yX5_at]
def wsX7_run_r7 : List Cond := [Cond.methodLink RX6 30 yX5_put, Cond.methodLink RX7 167 yX2_take, Cond.instanceMethod yX2_take, Cond.selects RX2 yX2_take yX2_take, Cond.code yX2_take cX2_take 2 none, Cond.methodLink RX7 134 yX0_append, Cond.instanceMethod yX0_append, Cond.selects RX0 yX0_append yX0_append, Cond.code yX0_append cX0_append 3 none, Cond.methodLink RX0 34 yX0_isFull, Cond.instanceMethod yX0_isFull, Cond.selects RX0 yX0_isFull yX0_isFull, Cond.code yX0_isFull cX0_isFull 2 (some .boolean), Cond.fieldLink RX0 23 "Creditfabric$Buffers" "room" "I", Cond.methodLink RX7 285 yX4_goOver, Cond.instanceMethod yX4_goOver, Cond.selects RX4 yX4_goOver yX4_goOver, Cond.code yX4_goOver cX4_goOver 4 none, Cond.fieldLink RX4 32 "Creditfabric$Packets" "inputs" "LCreditfabric$Row;", Cond.fieldLink RX4 35 "Creditfabric$Packets" "hopsGone" "LCreditfabric$Row;", Cond.methodLink RX4 66 yX5_add, Cond.methodLink RX7 249 yX7_markInCrowd, Cond.instanceMethod yX7_markInCrowd, Cond.selects RX7 yX7_markInCrowd yX7_markInCrowd]
def wsX7_run_r8 : List Cond := [Cond.code yX7_markInCrowd cX7_markInCrowd 3 none, Cond.methodLink RX7 288 yX0_load, Cond.instanceMethod yX0_load, Cond.selects RX0 yX0_load yX0_load, Cond.code yX0_load cX0_load 4 (some .int)]
def wsX7_run : List Cond := .code yX7_run cX7_run 4 (some .int) :: ((wsX7_run_r1 ++ (wsX7_run_r2 ++ (wsX7_run_r3 ++ (wsX7_run_r4 ++ (wsX7_run_r5 ++ (wsX7_run_r6 ++ (wsX7_run_r7 ++ wsX7_run_r8))))))) ++ wsX70 ++ wsX40 ++ wsX20 ++ wsX50 ++ wsX30 ++ wsX00 ++ wsX60 ++ (vx_atS RX7 81 "java/lang/IllegalArgumentException" ["java/lang/RuntimeException", "java/lang/Exception"]).filter goodWord)
def wsX7_pause_r1 : List Cond := [Cond.fieldLink RX7 60 "Creditfabric" "paused" "LCreditfabric$Row;", Cond.methodLink RX7 92 yX7_checkSwitch, Cond.instanceMethod yX7_checkSwitch, Cond.selects RX7 yX7_checkSwitch yX7_checkSwitch, Cond.initialized RX7, Cond.code yX7_checkSwitch cX7_checkSwitch 2 none, Cond.classLink RX7 209 "java/lang/IndexOutOfBoundsException", Cond.initialized "java/lang/IndexOutOfBoundsException", Cond.fieldLink RX7 12 "Creditfabric" "grid" "LCreditfabric$Grid;", Cond.methodLink RX7 206 yX3_has, Cond.instanceMethod yX3_has, Cond.selects RX3 yX3_has yX3_has, Cond.initialized RX3, Cond.code yX3_has cX3_has 2 (some .boolean), Cond.methodLink RX3 34 yX3_size, Cond.instanceMethod yX3_size, Cond.selects RX3 yX3_size yX3_size, Cond.code yX3_size cX3_size 1 (some .int), Cond.fieldLink RX3 23 "Creditfabric$Grid" "columns" "I", Cond.fieldLink RX3 27 "Creditfabric$Grid" "rows" "I", Cond.methodLink RX7 149 yX5_at, Cond.instanceMethod yX5_at, Cond.selects RX5 yX5_at yX5_at, Cond.initialized RX5]
def wsX7_pause_r2 : List Cond := [Cond.code yX5_at cX5_at 2 (some .int), Cond.fieldLink RX5 7 "Creditfabric$Row" "numbers" "[I", Cond.methodLink RX7 153 yX5_put, Cond.instanceMethod yX5_put, Cond.selects RX5 yX5_put yX5_put, Cond.code yX5_put cX5_put 3 none]
def wsX7_pause : List Cond := .code yX7_pause cX7_pause 4 (some .boolean) :: ((wsX7_pause_r1 ++ wsX7_pause_r2) ++ wsX70 ++ wsX30 ++ wsX50 ++ (vx_atS RX7 213 "java/lang/IndexOutOfBoundsException" ["java/lang/RuntimeException", "java/lang/Exception"]).filter goodWord)
def wsX7_checkLink_r1 : List Cond := [Cond.classLink RX7 209 "java/lang/IndexOutOfBoundsException", Cond.initialized "java/lang/IndexOutOfBoundsException", Cond.fieldLink RX7 12 "Creditfabric" "grid" "LCreditfabric$Grid;", Cond.methodLink RX7 92 yX7_checkSwitch, Cond.instanceMethod yX7_checkSwitch, Cond.selects RX7 yX7_checkSwitch yX7_checkSwitch, Cond.initialized RX7, Cond.code yX7_checkSwitch cX7_checkSwitch 2 none, Cond.methodLink RX7 206 yX3_has, Cond.instanceMethod yX3_has, Cond.selects RX3 yX3_has yX3_has, Cond.initialized RX3, Cond.code yX3_has cX3_has 2 (some .boolean), Cond.methodLink RX3 34 yX3_size, Cond.instanceMethod yX3_size, Cond.selects RX3 yX3_size yX3_size, Cond.code yX3_size cX3_size 1 (some .int), Cond.fieldLink RX3 23 "Creditfabric$Grid" "columns" "I", Cond.fieldLink RX3 27 "Creditfabric$Grid" "rows" "I", Cond.methodLink RX7 214 yX3_behind, Cond.instanceMethod yX3_behind, Cond.selects RX3 yX3_behind yX3_behind, Cond.code yX3_behind cX3_behind 3 (some .int), Cond.fieldLink RX3 14 "Creditfabric$Grid" "columnOf" "LCreditfabric$Row;"]
def wsX7_checkLink_r2 : List Cond := [Cond.fieldLink RX3 20 "Creditfabric$Grid" "rowOf" "LCreditfabric$Row;", Cond.methodLink RX3 38 yX5_at, Cond.instanceMethod yX5_at, Cond.selects RX5 yX5_at yX5_at, Cond.initialized RX5, Cond.code yX5_at cX5_at 2 (some .int), Cond.fieldLink RX5 7 "Creditfabric$Row" "numbers" "[I"]
def wsX7_checkLink : List Cond := .code yX7_checkLink cX7_checkLink 3 none :: ((wsX7_checkLink_r1 ++ wsX7_checkLink_r2) ++ wsX70 ++ wsX30 ++ wsX50 ++ (vx_atS RX7 213 "java/lang/IndexOutOfBoundsException" ["java/lang/RuntimeException", "java/lang/Exception"]).filter goodWord)
def wsX7_bufferBehind : List Cond := .code yX7_bufferBehind cX7_bufferBehind 4 (some .int) :: ([.fieldLink RX7 12 "Creditfabric" "grid" "LCreditfabric$Grid;", .methodLink RX7 214 yX3_behind, .instanceMethod yX3_behind, .selects RX3 yX3_behind yX3_behind, .initialized RX3, .code yX3_behind cX3_behind 3 (some .int), .fieldLink RX3 14 "Creditfabric$Grid" "columnOf" "LCreditfabric$Row;", .fieldLink RX3 23 "Creditfabric$Grid" "columns" "I", .fieldLink RX3 20 "Creditfabric$Grid" "rowOf" "LCreditfabric$Row;", .fieldLink RX3 27 "Creditfabric$Grid" "rows" "I", .methodLink RX3 38 yX5_at, .instanceMethod yX5_at, .selects RX5 yX5_at yX5_at, .initialized RX5, .code yX5_at cX5_at 2 (some .int), .fieldLink RX5 7 "Creditfabric$Row" "numbers" "[I", .methodLink RX7 102 yX7_bufferOf, .static yX7_bufferOf, .initialized RX7, .code yX7_bufferOf cX7_bufferOf 3 (some .int)] ++ wsX70 ++ wsX30 ++ wsX50)
def wsX7_lose_r1 : List Cond := [Cond.classLink RX7 110 "java/lang/IllegalStateException", Cond.initialized "java/lang/IllegalStateException", Cond.fieldLink RX7 35 "Creditfabric" "purse" "LCreditfabric$Credits;", Cond.methodLink RX7 156 yX7_checkLink, Cond.instanceMethod yX7_checkLink, Cond.selects RX7 yX7_checkLink yX7_checkLink, Cond.initialized RX7, Cond.code yX7_checkLink cX7_checkLink 3 none, Cond.classLink RX7 209 "java/lang/IndexOutOfBoundsException", Cond.initialized "java/lang/IndexOutOfBoundsException", Cond.fieldLink RX7 12 "Creditfabric" "grid" "LCreditfabric$Grid;", Cond.methodLink RX7 92 yX7_checkSwitch, Cond.instanceMethod yX7_checkSwitch, Cond.selects RX7 yX7_checkSwitch yX7_checkSwitch, Cond.code yX7_checkSwitch cX7_checkSwitch 2 none, Cond.methodLink RX7 206 yX3_has, Cond.instanceMethod yX3_has, Cond.selects RX3 yX3_has yX3_has, Cond.initialized RX3, Cond.code yX3_has cX3_has 2 (some .boolean), Cond.methodLink RX3 34 yX3_size, Cond.instanceMethod yX3_size, Cond.selects RX3 yX3_size yX3_size, Cond.code yX3_size cX3_size 1 (some .int)]
def wsX7_lose_r2 : List Cond := [Cond.fieldLink RX3 23 "Creditfabric$Grid" "columns" "I", Cond.fieldLink RX3 27 "Creditfabric$Grid" "rows" "I", Cond.methodLink RX7 214 yX3_behind, Cond.instanceMethod yX3_behind, Cond.selects RX3 yX3_behind yX3_behind, Cond.code yX3_behind cX3_behind 3 (some .int), Cond.fieldLink RX3 14 "Creditfabric$Grid" "columnOf" "LCreditfabric$Row;", Cond.fieldLink RX3 20 "Creditfabric$Grid" "rowOf" "LCreditfabric$Row;", Cond.methodLink RX3 38 yX5_at, Cond.instanceMethod yX5_at, Cond.selects RX5 yX5_at yX5_at, Cond.initialized RX5, Cond.code yX5_at cX5_at 2 (some .int), Cond.fieldLink RX5 7 "Creditfabric$Row" "numbers" "[I", Cond.methodLink RX7 97 yX7_checkLane, Cond.static yX7_checkLane, Cond.code yX7_checkLane cX7_checkLane 1 none, Cond.classLink RX7 77 "java/lang/IllegalArgumentException", Cond.initialized "java/lang/IllegalArgumentException", Cond.methodLink RX7 159 yX7_bufferBehind, Cond.instanceMethod yX7_bufferBehind, Cond.selects RX7 yX7_bufferBehind yX7_bufferBehind, Cond.code yX7_bufferBehind cX7_bufferBehind 4 (some .int), Cond.methodLink RX7 102 yX7_bufferOf]
def wsX7_lose_r3 : List Cond := [Cond.static yX7_bufferOf, Cond.code yX7_bufferOf cX7_bufferOf 3 (some .int), Cond.methodLink RX7 162 yX2_there, Cond.instanceMethod yX2_there, Cond.selects RX2 yX2_there yX2_there, Cond.initialized RX2, Cond.code yX2_there cX2_there 2 (some .int), Cond.fieldLink RX2 14 "Creditfabric$Credits" "there" "LCreditfabric$Row;", Cond.methodLink RX2 33 yX5_at, Cond.methodLink RX7 167 yX2_take, Cond.instanceMethod yX2_take, Cond.selects RX2 yX2_take yX2_take, Cond.code yX2_take cX2_take 2 none, Cond.methodLink RX2 37 yX5_add, Cond.instanceMethod yX5_add, Cond.selects RX5 yX5_add yX5_add, Cond.code yX5_add cX5_add 3 none, Cond.methodLink RX5 13 yX5_at, Cond.methodLink RX5 17 yX5_put, Cond.instanceMethod yX5_put, Cond.selects RX5 yX5_put yX5_put, Cond.code yX5_put cX5_put 3 none]
def wsX7_lose : List Cond := .code yX7_lose cX7_lose 5 (some .int) :: ((wsX7_lose_r1 ++ (wsX7_lose_r2 ++ wsX7_lose_r3)) ++ wsX70 ++ wsX30 ++ wsX50 ++ wsX20 ++ (vx_atS RX7 114 "java/lang/IllegalStateException" ["java/lang/RuntimeException", "java/lang/Exception"]).filter goodWord ++ (vx_atS RX7 213 "java/lang/IndexOutOfBoundsException" ["java/lang/RuntimeException", "java/lang/Exception"]).filter goodWord ++ (vx_atS RX7 81 "java/lang/IllegalArgumentException" ["java/lang/RuntimeException", "java/lang/Exception"]).filter goodWord)
def wsX7_recover_r1 : List Cond := [Cond.fieldLink RX7 12 "Creditfabric" "grid" "LCreditfabric$Grid;", Cond.fieldLink RX7 35 "Creditfabric" "purse" "LCreditfabric$Credits;", Cond.fieldLink RX7 28 "Creditfabric" "buffers" "LCreditfabric$Buffers;", Cond.methodLink RX7 88 yX3_size, Cond.instanceMethod yX3_size, Cond.selects RX3 yX3_size yX3_size, Cond.initialized RX3, Cond.code yX3_size cX3_size 1 (some .int), Cond.fieldLink RX3 23 "Creditfabric$Grid" "columns" "I", Cond.fieldLink RX3 27 "Creditfabric$Grid" "rows" "I", Cond.methodLink RX7 170 yX0_free, Cond.instanceMethod yX0_free, Cond.selects RX0 yX0_free yX0_free, Cond.initialized RX0, Cond.code yX0_free cX0_free 2 (some .int), Cond.fieldLink RX0 23 "Creditfabric$Buffers" "room" "I", Cond.fieldLink RX0 20 "Creditfabric$Buffers" "sizes" "LCreditfabric$Row;", Cond.methodLink RX0 30 yX5_at, Cond.instanceMethod yX5_at, Cond.selects RX5 yX5_at yX5_at, Cond.initialized RX5, Cond.code yX5_at cX5_at 2 (some .int), Cond.fieldLink RX5 7 "Creditfabric$Row" "numbers" "[I", Cond.methodLink RX7 173 yX2_settle]
def wsX7_recover_r2 : List Cond := [Cond.instanceMethod yX2_settle, Cond.selects RX2 yX2_settle yX2_settle, Cond.initialized RX2, Cond.code yX2_settle cX2_settle 5 (some .int), Cond.fieldLink RX2 20 "Creditfabric$Credits" "coming" "LCreditfabric$Row;", Cond.fieldLink RX2 14 "Creditfabric$Credits" "there" "LCreditfabric$Row;", Cond.methodLink RX2 41 yX2_slotOf, Cond.static yX2_slotOf, Cond.code yX2_slotOf cX2_slotOf 2 (some .int), Cond.methodLink RX2 33 yX5_at, Cond.methodLink RX2 45 yX5_put, Cond.instanceMethod yX5_put, Cond.selects RX5 yX5_put yX5_put, Cond.code yX5_put cX5_put 3 none]
def wsX7_recover : List Cond := .code yX7_recover cX7_recover 5 (some .int) :: ((wsX7_recover_r1 ++ wsX7_recover_r2) ++ wsX70 ++ wsX30 ++ wsX00 ++ wsX50 ++ wsX20)
def wsX7_tick : List Cond := .code yX7_tick cX7_tick 1 (some .int) :: ([.fieldLink RX7 115 "Creditfabric" "now" "I"] ++ wsX70)
def wsX7_packets : List Cond := .code yX7_packets cX7_packets 1 (some .int) :: ([.fieldLink RX7 21 "Creditfabric" "traffic" "LCreditfabric$Packets;"] ++ wsX70 ++ wsX40)
def wsX7_arrived : List Cond := .code yX7_arrived cX7_arrived 1 (some .int) :: ([.fieldLink RX7 21 "Creditfabric" "traffic" "LCreditfabric$Packets;"] ++ wsX70 ++ wsX40)
def wsX7_credits_r1 : List Cond := [Cond.fieldLink RX7 35 "Creditfabric" "purse" "LCreditfabric$Credits;", Cond.methodLink RX7 156 yX7_checkLink, Cond.instanceMethod yX7_checkLink, Cond.selects RX7 yX7_checkLink yX7_checkLink, Cond.initialized RX7, Cond.code yX7_checkLink cX7_checkLink 3 none, Cond.classLink RX7 209 "java/lang/IndexOutOfBoundsException", Cond.initialized "java/lang/IndexOutOfBoundsException", Cond.fieldLink RX7 12 "Creditfabric" "grid" "LCreditfabric$Grid;", Cond.methodLink RX7 92 yX7_checkSwitch, Cond.instanceMethod yX7_checkSwitch, Cond.selects RX7 yX7_checkSwitch yX7_checkSwitch, Cond.code yX7_checkSwitch cX7_checkSwitch 2 none, Cond.methodLink RX7 206 yX3_has, Cond.instanceMethod yX3_has, Cond.selects RX3 yX3_has yX3_has, Cond.initialized RX3, Cond.code yX3_has cX3_has 2 (some .boolean), Cond.methodLink RX3 34 yX3_size, Cond.instanceMethod yX3_size, Cond.selects RX3 yX3_size yX3_size, Cond.code yX3_size cX3_size 1 (some .int), Cond.fieldLink RX3 23 "Creditfabric$Grid" "columns" "I", Cond.fieldLink RX3 27 "Creditfabric$Grid" "rows" "I"]
def wsX7_credits_r2 : List Cond := [Cond.methodLink RX7 214 yX3_behind, Cond.instanceMethod yX3_behind, Cond.selects RX3 yX3_behind yX3_behind, Cond.code yX3_behind cX3_behind 3 (some .int), Cond.fieldLink RX3 14 "Creditfabric$Grid" "columnOf" "LCreditfabric$Row;", Cond.fieldLink RX3 20 "Creditfabric$Grid" "rowOf" "LCreditfabric$Row;", Cond.methodLink RX3 38 yX5_at, Cond.instanceMethod yX5_at, Cond.selects RX5 yX5_at yX5_at, Cond.initialized RX5, Cond.code yX5_at cX5_at 2 (some .int), Cond.fieldLink RX5 7 "Creditfabric$Row" "numbers" "[I", Cond.methodLink RX7 97 yX7_checkLane, Cond.static yX7_checkLane, Cond.code yX7_checkLane cX7_checkLane 1 none, Cond.classLink RX7 77 "java/lang/IllegalArgumentException", Cond.initialized "java/lang/IllegalArgumentException", Cond.methodLink RX7 159 yX7_bufferBehind, Cond.instanceMethod yX7_bufferBehind, Cond.selects RX7 yX7_bufferBehind yX7_bufferBehind, Cond.code yX7_bufferBehind cX7_bufferBehind 4 (some .int), Cond.methodLink RX7 102 yX7_bufferOf, Cond.static yX7_bufferOf, Cond.code yX7_bufferOf cX7_bufferOf 3 (some .int)]
def wsX7_credits_r3 : List Cond := [Cond.methodLink RX7 162 yX2_there, Cond.instanceMethod yX2_there, Cond.selects RX2 yX2_there yX2_there, Cond.initialized RX2, Cond.code yX2_there cX2_there 2 (some .int), Cond.fieldLink RX2 14 "Creditfabric$Credits" "there" "LCreditfabric$Row;", Cond.methodLink RX2 33 yX5_at]
def wsX7_credits : List Cond := .code yX7_credits cX7_credits 4 (some .int) :: ((wsX7_credits_r1 ++ (wsX7_credits_r2 ++ wsX7_credits_r3)) ++ wsX70 ++ wsX30 ++ wsX50 ++ wsX20 ++ (vx_atS RX7 213 "java/lang/IndexOutOfBoundsException" ["java/lang/RuntimeException", "java/lang/Exception"]).filter goodWord ++ (vx_atS RX7 81 "java/lang/IllegalArgumentException" ["java/lang/RuntimeException", "java/lang/Exception"]).filter goodWord)
def wsX7_inBuffer_r1 : List Cond := [Cond.classLink RX7 77 "java/lang/IllegalArgumentException", Cond.initialized "java/lang/IllegalArgumentException", Cond.fieldLink RX7 28 "Creditfabric" "buffers" "LCreditfabric$Buffers;", Cond.methodLink RX7 92 yX7_checkSwitch, Cond.instanceMethod yX7_checkSwitch, Cond.selects RX7 yX7_checkSwitch yX7_checkSwitch, Cond.initialized RX7, Cond.code yX7_checkSwitch cX7_checkSwitch 2 none, Cond.classLink RX7 209 "java/lang/IndexOutOfBoundsException", Cond.initialized "java/lang/IndexOutOfBoundsException", Cond.fieldLink RX7 12 "Creditfabric" "grid" "LCreditfabric$Grid;", Cond.methodLink RX7 206 yX3_has, Cond.instanceMethod yX3_has, Cond.selects RX3 yX3_has yX3_has, Cond.initialized RX3, Cond.code yX3_has cX3_has 2 (some .boolean), Cond.methodLink RX3 34 yX3_size, Cond.instanceMethod yX3_size, Cond.selects RX3 yX3_size yX3_size, Cond.code yX3_size cX3_size 1 (some .int), Cond.fieldLink RX3 23 "Creditfabric$Grid" "columns" "I", Cond.fieldLink RX3 27 "Creditfabric$Grid" "rows" "I", Cond.methodLink RX7 97 yX7_checkLane, Cond.static yX7_checkLane]
def wsX7_inBuffer_r2 : List Cond := [Cond.code yX7_checkLane cX7_checkLane 1 none, Cond.methodLink RX7 102 yX7_bufferOf, Cond.static yX7_bufferOf, Cond.code yX7_bufferOf cX7_bufferOf 3 (some .int), Cond.methodLink RX7 179 yX0_size, Cond.instanceMethod yX0_size, Cond.selects RX0 yX0_size yX0_size, Cond.initialized RX0, Cond.code yX0_size cX0_size 2 (some .int), Cond.fieldLink RX0 20 "Creditfabric$Buffers" "sizes" "LCreditfabric$Row;", Cond.methodLink RX0 30 yX5_at, Cond.instanceMethod yX5_at, Cond.selects RX5 yX5_at yX5_at, Cond.initialized RX5, Cond.code yX5_at cX5_at 2 (some .int), Cond.fieldLink RX5 7 "Creditfabric$Row" "numbers" "[I"]
def wsX7_inBuffer : List Cond := .code yX7_inBuffer cX7_inBuffer 4 (some .int) :: ((wsX7_inBuffer_r1 ++ wsX7_inBuffer_r2) ++ wsX70 ++ wsX30 ++ wsX00 ++ wsX50 ++ (vx_atS RX7 81 "java/lang/IllegalArgumentException" ["java/lang/RuntimeException", "java/lang/Exception"]).filter goodWord ++ (vx_atS RX7 213 "java/lang/IndexOutOfBoundsException" ["java/lang/RuntimeException", "java/lang/Exception"]).filter goodWord)
def wsX7_gap_r1 : List Cond := [Cond.fieldLink RX7 42 "Creditfabric" "senders" "LCreditfabric$Senders;", Cond.methodLink RX7 92 yX7_checkSwitch, Cond.instanceMethod yX7_checkSwitch, Cond.selects RX7 yX7_checkSwitch yX7_checkSwitch, Cond.initialized RX7, Cond.code yX7_checkSwitch cX7_checkSwitch 2 none, Cond.classLink RX7 209 "java/lang/IndexOutOfBoundsException", Cond.initialized "java/lang/IndexOutOfBoundsException", Cond.fieldLink RX7 12 "Creditfabric" "grid" "LCreditfabric$Grid;", Cond.methodLink RX7 206 yX3_has, Cond.instanceMethod yX3_has, Cond.selects RX3 yX3_has yX3_has, Cond.initialized RX3, Cond.code yX3_has cX3_has 2 (some .boolean), Cond.methodLink RX3 34 yX3_size, Cond.instanceMethod yX3_size, Cond.selects RX3 yX3_size yX3_size, Cond.code yX3_size cX3_size 1 (some .int), Cond.fieldLink RX3 23 "Creditfabric$Grid" "columns" "I", Cond.fieldLink RX3 27 "Creditfabric$Grid" "rows" "I", Cond.methodLink RX7 181 yX6_gapOf, Cond.instanceMethod yX6_gapOf, Cond.selects RX6 yX6_gapOf yX6_gapOf, Cond.initialized RX6]
def wsX7_gap_r2 : List Cond := [Cond.code yX6_gapOf cX6_gapOf 2 (some .int), Cond.fieldLink RX6 14 "Creditfabric$Senders" "gaps" "LCreditfabric$Row;", Cond.methodLink RX6 26 yX5_at, Cond.instanceMethod yX5_at, Cond.selects RX5 yX5_at yX5_at, Cond.initialized RX5, Cond.code yX5_at cX5_at 2 (some .int), Cond.fieldLink RX5 7 "Creditfabric$Row" "numbers" "[I"]
def wsX7_gap : List Cond := .code yX7_gap cX7_gap 2 (some .int) :: ((wsX7_gap_r1 ++ wsX7_gap_r2) ++ wsX70 ++ wsX30 ++ wsX60 ++ wsX50 ++ (vx_atS RX7 213 "java/lang/IndexOutOfBoundsException" ["java/lang/RuntimeException", "java/lang/Exception"]).filter goodWord)
def wsX7_checkPacket : List Cond := .code yX7_checkPacket cX7_checkPacket 2 none :: ([.classLink RX7 209 "java/lang/IndexOutOfBoundsException", .initialized "java/lang/IndexOutOfBoundsException", .fieldLink RX7 21 "Creditfabric" "traffic" "LCreditfabric$Packets;"] ++ wsX70 ++ wsX40 ++ (vx_atS RX7 213 "java/lang/IndexOutOfBoundsException" ["java/lang/RuntimeException", "java/lang/Exception"]).filter goodWord)
def wsX7_placeOf : List Cond := .code yX7_placeOf cX7_placeOf 2 (some .int) :: ([.fieldLink RX7 21 "Creditfabric" "traffic" "LCreditfabric$Packets;", .methodLink RX7 184 yX7_checkPacket, .instanceMethod yX7_checkPacket, .selects RX7 yX7_checkPacket yX7_checkPacket, .initialized RX7, .code yX7_checkPacket cX7_checkPacket 2 none, .classLink RX7 209 "java/lang/IndexOutOfBoundsException", .initialized "java/lang/IndexOutOfBoundsException", .methodLink RX7 149 yX5_at, .instanceMethod yX5_at, .selects RX5 yX5_at yX5_at, .initialized RX5, .code yX5_at cX5_at 2 (some .int), .fieldLink RX5 7 "Creditfabric$Row" "numbers" "[I"] ++ wsX70 ++ wsX40 ++ wsX50 ++ (vx_atS RX7 213 "java/lang/IndexOutOfBoundsException" ["java/lang/RuntimeException", "java/lang/Exception"]).filter goodWord)
def wsX7_hops : List Cond := .code yX7_hops cX7_hops 2 (some .int) :: ([.fieldLink RX7 21 "Creditfabric" "traffic" "LCreditfabric$Packets;", .methodLink RX7 184 yX7_checkPacket, .instanceMethod yX7_checkPacket, .selects RX7 yX7_checkPacket yX7_checkPacket, .initialized RX7, .code yX7_checkPacket cX7_checkPacket 2 none, .classLink RX7 209 "java/lang/IndexOutOfBoundsException", .initialized "java/lang/IndexOutOfBoundsException", .methodLink RX7 149 yX5_at, .instanceMethod yX5_at, .selects RX5 yX5_at yX5_at, .initialized RX5, .code yX5_at cX5_at 2 (some .int), .fieldLink RX5 7 "Creditfabric$Row" "numbers" "[I"] ++ wsX70 ++ wsX40 ++ wsX50 ++ (vx_atS RX7 213 "java/lang/IndexOutOfBoundsException" ["java/lang/RuntimeException", "java/lang/Exception"]).filter goodWord)
def wsX7_isMarked : List Cond := .code yX7_isMarked cX7_isMarked 2 (some .boolean) :: ([.fieldLink RX7 21 "Creditfabric" "traffic" "LCreditfabric$Packets;", .methodLink RX7 184 yX7_checkPacket, .instanceMethod yX7_checkPacket, .selects RX7 yX7_checkPacket yX7_checkPacket, .initialized RX7, .code yX7_checkPacket cX7_checkPacket 2 none, .classLink RX7 209 "java/lang/IndexOutOfBoundsException", .initialized "java/lang/IndexOutOfBoundsException", .methodLink RX7 149 yX5_at, .instanceMethod yX5_at, .selects RX5 yX5_at yX5_at, .initialized RX5, .code yX5_at cX5_at 2 (some .int), .fieldLink RX5 7 "Creditfabric$Row" "numbers" "[I"] ++ wsX70 ++ wsX40 ++ wsX50 ++ (vx_atS RX7 213 "java/lang/IndexOutOfBoundsException" ["java/lang/RuntimeException", "java/lang/Exception"]).filter goodWord)
def wsX7_wants_r1 : List Cond := [Cond.fieldLink RX7 21 "Creditfabric" "traffic" "LCreditfabric$Packets;", Cond.methodLink RX7 184 yX7_checkPacket, Cond.instanceMethod yX7_checkPacket, Cond.selects RX7 yX7_checkPacket yX7_checkPacket, Cond.initialized RX7, Cond.code yX7_checkPacket cX7_checkPacket 2 none, Cond.classLink RX7 209 "java/lang/IndexOutOfBoundsException", Cond.initialized "java/lang/IndexOutOfBoundsException", Cond.methodLink RX7 196 yX4_outputOf, Cond.instanceMethod yX4_outputOf, Cond.selects RX4 yX4_outputOf yX4_outputOf, Cond.initialized RX4, Cond.code yX4_outputOf cX4_outputOf 3 (some .int), Cond.fieldLink RX4 29 "Creditfabric$Packets" "places" "LCreditfabric$Row;", Cond.fieldLink RX4 41 "Creditfabric$Packets" "grid" "LCreditfabric$Grid;", Cond.fieldLink RX4 20 "Creditfabric$Packets" "goals" "LCreditfabric$Row;", Cond.fieldLink RX4 26 "Creditfabric$Packets" "modes" "LCreditfabric$Row;", Cond.methodLink RX4 56 yX5_at, Cond.instanceMethod yX5_at, Cond.selects RX5 yX5_at yX5_at, Cond.initialized RX5, Cond.code yX5_at cX5_at 2 (some .int), Cond.fieldLink RX5 7 "Creditfabric$Row" "numbers" "[I", Cond.methodLink RX4 60 yX3_outputTowards]
def wsX7_wants_r2 : List Cond := [Cond.instanceMethod yX3_outputTowards, Cond.selects RX3 yX3_outputTowards yX3_outputTowards, Cond.initialized RX3, Cond.code yX3_outputTowards cX3_outputTowards 6 (some .int), Cond.fieldLink RX3 14 "Creditfabric$Grid" "columnOf" "LCreditfabric$Row;", Cond.fieldLink RX3 20 "Creditfabric$Grid" "rowOf" "LCreditfabric$Row;", Cond.methodLink RX3 38 yX5_at, Cond.methodLink RX3 42 yX3_stepTowards, Cond.static yX3_stepTowards, Cond.code yX3_stepTowards cX3_stepTowards 4 (some .int)]
def wsX7_wants : List Cond := .code yX7_wants cX7_wants 2 (some .int) :: ((wsX7_wants_r1 ++ wsX7_wants_r2) ++ wsX70 ++ wsX40 ++ wsX50 ++ wsX30 ++ (vx_atS RX7 213 "java/lang/IndexOutOfBoundsException" ["java/lang/RuntimeException", "java/lang/Exception"]).filter goodWord)
def wsX7_circle_r1 : List Cond := [Cond.fieldLink RX7 51 "Creditfabric" "circles" "LCreditfabric$Circles;", Cond.methodLink RX7 199 yX1_countWaiting, Cond.instanceMethod yX1_countWaiting, Cond.selects RX1 yX1_countWaiting yX1_countWaiting, Cond.initialized RX1, Cond.code yX1_countWaiting cX1_countWaiting 4 (some .int), Cond.fieldLink RX1 23 "Creditfabric$Circles" "grid" "LCreditfabric$Grid;", Cond.fieldLink RX1 14 "Creditfabric$Circles" "awaited" "LCreditfabric$Row;", Cond.methodLink RX1 35 yX3_size, Cond.instanceMethod yX3_size, Cond.selects RX3 yX3_size yX3_size, Cond.initialized RX3, Cond.code yX3_size cX3_size 1 (some .int), Cond.fieldLink RX3 23 "Creditfabric$Grid" "columns" "I", Cond.fieldLink RX3 27 "Creditfabric$Grid" "rows" "I", Cond.methodLink RX1 41 yX1_awaitedBy, Cond.instanceMethod yX1_awaitedBy, Cond.selects RX1 yX1_awaitedBy yX1_awaitedBy, Cond.code yX1_awaitedBy cX1_awaitedBy 4 (some .int), Cond.fieldLink RX1 31 "Creditfabric$Circles" "buffers" "LCreditfabric$Buffers;", Cond.fieldLink RX1 27 "Creditfabric$Circles" "traffic" "LCreditfabric$Packets;", Cond.methodLink RX1 53 yX0_first, Cond.instanceMethod yX0_first, Cond.selects RX0 yX0_first yX0_first]
def wsX7_circle_r2 : List Cond := [Cond.initialized RX0, Cond.code yX0_first cX0_first 2 (some .int), Cond.fieldLink RX0 20 "Creditfabric$Buffers" "sizes" "LCreditfabric$Row;", Cond.fieldLink RX0 14 "Creditfabric$Buffers" "slots" "LCreditfabric$Row;", Cond.methodLink RX0 30 yX5_at, Cond.instanceMethod yX5_at, Cond.selects RX5 yX5_at yX5_at, Cond.initialized RX5, Cond.code yX5_at cX5_at 2 (some .int), Cond.fieldLink RX5 7 "Creditfabric$Row" "numbers" "[I", Cond.methodLink RX1 63 yX5_at, Cond.methodLink RX1 66 yX4_outputOf, Cond.instanceMethod yX4_outputOf, Cond.selects RX4 yX4_outputOf yX4_outputOf, Cond.initialized RX4, Cond.code yX4_outputOf cX4_outputOf 3 (some .int), Cond.fieldLink RX4 29 "Creditfabric$Packets" "places" "LCreditfabric$Row;", Cond.fieldLink RX4 41 "Creditfabric$Packets" "grid" "LCreditfabric$Grid;", Cond.fieldLink RX4 20 "Creditfabric$Packets" "goals" "LCreditfabric$Row;", Cond.fieldLink RX4 26 "Creditfabric$Packets" "modes" "LCreditfabric$Row;", Cond.methodLink RX4 56 yX5_at, Cond.methodLink RX4 60 yX3_outputTowards, Cond.instanceMethod yX3_outputTowards, Cond.selects RX3 yX3_outputTowards yX3_outputTowards]
def wsX7_circle_r3 : List Cond := [Cond.code yX3_outputTowards cX3_outputTowards 6 (some .int), Cond.fieldLink RX3 14 "Creditfabric$Grid" "columnOf" "LCreditfabric$Row;", Cond.fieldLink RX3 20 "Creditfabric$Grid" "rowOf" "LCreditfabric$Row;", Cond.methodLink RX3 38 yX5_at, Cond.methodLink RX3 42 yX3_stepTowards, Cond.static yX3_stepTowards, Cond.code yX3_stepTowards cX3_stepTowards 4 (some .int), Cond.methodLink RX1 72 yX1_nextBuffer, Cond.instanceMethod yX1_nextBuffer, Cond.selects RX1 yX1_nextBuffer yX1_nextBuffer, Cond.code yX1_nextBuffer cX1_nextBuffer 5 (some .int), Cond.methodLink RX1 108 yX3_behind, Cond.instanceMethod yX3_behind, Cond.selects RX3 yX3_behind yX3_behind, Cond.code yX3_behind cX3_behind 3 (some .int), Cond.static yX7_bufferOf, Cond.initialized RX7, Cond.code yX7_bufferOf cX7_bufferOf 3 (some .int), Cond.methodLink RX1 76 yX0_isFull, Cond.instanceMethod yX0_isFull, Cond.selects RX0 yX0_isFull yX0_isFull, Cond.code yX0_isFull cX0_isFull 2 (some .boolean), Cond.fieldLink RX0 23 "Creditfabric$Buffers" "room" "I", Cond.methodLink RX1 45 yX5_put]
def wsX7_circle_r4 : List Cond := [Cond.instanceMethod yX5_put, Cond.selects RX5 yX5_put yX5_put, Cond.code yX5_put cX5_put 3 none, Cond.methodLink RX1 49 yX1_comesBack, Cond.instanceMethod yX1_comesBack, Cond.selects RX1 yX1_comesBack yX1_comesBack, Cond.code yX1_comesBack cX1_comesBack 4 (some .boolean)]
def wsX7_circle : List Cond := .code yX7_circle cX7_circle 1 (some .int) :: ((wsX7_circle_r1 ++ (wsX7_circle_r2 ++ (wsX7_circle_r3 ++ wsX7_circle_r4))) ++ wsX70 ++ wsX10 ++ wsX30 ++ wsX40 ++ wsX00 ++ wsX50)
def wsX7_mayCircle_r1 : List Cond := [Cond.fieldLink RX7 51 "Creditfabric" "circles" "LCreditfabric$Circles;", Cond.methodLink RX7 202 yX1_hangsTogether, Cond.instanceMethod yX1_hangsTogether, Cond.selects RX1 yX1_hangsTogether yX1_hangsTogether, Cond.initialized RX1, Cond.code yX1_hangsTogether cX1_hangsTogether 3 (some .boolean), Cond.fieldLink RX1 20 "Creditfabric$Circles" "hangings" "LCreditfabric$Row;", Cond.fieldLink RX1 27 "Creditfabric$Circles" "traffic" "LCreditfabric$Packets;", Cond.methodLink RX1 79 yX5_fill, Cond.instanceMethod yX5_fill, Cond.selects RX5 yX5_fill yX5_fill, Cond.initialized RX5, Cond.code yX5_fill cX5_fill 3 none, Cond.fieldLink RX5 7 "Creditfabric$Row" "numbers" "[I", Cond.methodLink RX1 63 yX5_at, Cond.instanceMethod yX5_at, Cond.selects RX5 yX5_at yX5_at, Cond.code yX5_at cX5_at 2 (some .int), Cond.methodLink RX1 86 yX1_hangAlong, Cond.instanceMethod yX1_hangAlong, Cond.selects RX1 yX1_hangAlong yX1_hangAlong, Cond.code yX1_hangAlong cX1_hangAlong 8 none, Cond.fieldLink RX1 23 "Creditfabric$Circles" "grid" "LCreditfabric$Grid;", Cond.static yX7_bufferOf]
def wsX7_mayCircle_r2 : List Cond := [Cond.initialized RX7, Cond.code yX7_bufferOf cX7_bufferOf 3 (some .int), Cond.methodLink RX1 105 yX3_outputTowards, Cond.instanceMethod yX3_outputTowards, Cond.selects RX3 yX3_outputTowards yX3_outputTowards, Cond.initialized RX3, Cond.code yX3_outputTowards cX3_outputTowards 6 (some .int), Cond.fieldLink RX3 14 "Creditfabric$Grid" "columnOf" "LCreditfabric$Row;", Cond.fieldLink RX3 20 "Creditfabric$Grid" "rowOf" "LCreditfabric$Row;", Cond.methodLink RX3 38 yX5_at, Cond.methodLink RX3 42 yX3_stepTowards, Cond.static yX3_stepTowards, Cond.code yX3_stepTowards cX3_stepTowards 4 (some .int), Cond.methodLink RX1 72 yX1_nextBuffer, Cond.instanceMethod yX1_nextBuffer, Cond.selects RX1 yX1_nextBuffer yX1_nextBuffer, Cond.code yX1_nextBuffer cX1_nextBuffer 5 (some .int), Cond.methodLink RX1 108 yX3_behind, Cond.instanceMethod yX3_behind, Cond.selects RX3 yX3_behind yX3_behind, Cond.code yX3_behind cX3_behind 3 (some .int), Cond.fieldLink RX3 23 "Creditfabric$Grid" "columns" "I", Cond.fieldLink RX3 27 "Creditfabric$Grid" "rows" "I", Cond.methodLink RX1 45 yX5_put]
def wsX7_mayCircle_r3 : List Cond := [Cond.instanceMethod yX5_put, Cond.selects RX5 yX5_put yX5_put, Cond.code yX5_put cX5_put 3 none, Cond.methodLink RX1 89 yX1_cutEnds, Cond.instanceMethod yX1_cutEnds, Cond.selects RX1 yX1_cutEnds yX1_cutEnds, Cond.code yX1_cutEnds cX1_cutEnds 5 (some .boolean), Cond.methodLink RX1 35 yX3_size, Cond.instanceMethod yX3_size, Cond.selects RX3 yX3_size yX3_size, Cond.code yX3_size cX3_size 1 (some .int), Cond.methodLink RX1 112 yX1_isEnd, Cond.instanceMethod yX1_isEnd, Cond.selects RX1 yX1_isEnd yX1_isEnd, Cond.code yX1_isEnd cX1_isEnd 6 (some .boolean)]
def wsX7_mayCircle : List Cond := .code yX7_mayCircle cX7_mayCircle 1 (some .boolean) :: ((wsX7_mayCircle_r1 ++ (wsX7_mayCircle_r2 ++ wsX7_mayCircle_r3)) ++ wsX70 ++ wsX10 ++ wsX40 ++ wsX50 ++ wsX30)
def wsX8_begins : List Cond := .code yX8_begins cX8_begins 6 none :: ([.fieldLink RX8 7 "CreditfabricModel" "columns" "I", .fieldLink RX8 13 "CreditfabricModel" "rows" "I", .fieldLink RX8 16 "CreditfabricModel" "room" "I", .fieldLink RX8 97 "CreditfabricModel" "delay" "I", .fieldLink RX8 100 "CreditfabricModel" "tick" "I", .fieldLink RX8 82 "CreditfabricModel" "sent" "I", .fieldLink RX8 103 "CreditfabricModel" "out" "I", .fieldLink RX8 23 "CreditfabricModel" "many" "[I", .fieldLink RX8 26 "CreditfabricModel" "credit" "[I", .fieldLink RX8 29 "CreditfabricModel" "coming" "[I", .fieldLink RX8 32 "CreditfabricModel" "next" "[I", .fieldLink RX8 35 "CreditfabricModel" "gap" "[I", .fieldLink RX8 38 "CreditfabricModel" "last" "[I", .fieldLink RX8 41 "CreditfabricModel" "isPaused" "[Z"] ++ wsX80)
def wsX8_init_r1 : List Cond := [Cond.methodLink RX8 1 objectInit, Cond.instanceMethod objectInit, Cond.code objectInit ⟨#[0xb1]⟩ 1 none, Cond.fieldLink RX8 7 "CreditfabricModel" "columns" "I", Cond.fieldLink RX8 13 "CreditfabricModel" "rows" "I", Cond.fieldLink RX8 16 "CreditfabricModel" "room" "I", Cond.arrayClass .int, Cond.fieldLink RX8 19 "CreditfabricModel" "buffer" "[I", Cond.fieldLink RX8 23 "CreditfabricModel" "many" "[I", Cond.fieldLink RX8 26 "CreditfabricModel" "credit" "[I", Cond.fieldLink RX8 29 "CreditfabricModel" "coming" "[I", Cond.fieldLink RX8 32 "CreditfabricModel" "next" "[I", Cond.fieldLink RX8 35 "CreditfabricModel" "gap" "[I", Cond.fieldLink RX8 38 "CreditfabricModel" "last" "[I", Cond.arrayClass .boolean, Cond.fieldLink RX8 41 "CreditfabricModel" "isPaused" "[Z", Cond.fieldLink RX8 45 "CreditfabricModel" "goal" "[I", Cond.fieldLink RX8 48 "CreditfabricModel" "source" "[I", Cond.fieldLink RX8 51 "CreditfabricModel" "lane" "[I", Cond.fieldLink RX8 54 "CreditfabricModel" "mode" "[I", Cond.fieldLink RX8 57 "CreditfabricModel" "place" "[I", Cond.fieldLink RX8 60 "CreditfabricModel" "hops" "[I", Cond.fieldLink RX8 63 "CreditfabricModel" "isMarked" "[Z", Cond.fieldLink RX8 66 "CreditfabricModel" "chosen" "[I"]
def wsX8_init_r2 : List Cond := [Cond.fieldLink RX8 69 "CreditfabricModel" "hangs" "[Z", Cond.fieldLink RX8 72 "CreditfabricModel" "isGone" "[Z", Cond.methodLink RX8 75 yX8_begins, Cond.instanceMethod yX8_begins, Cond.selects RX8 yX8_begins yX8_begins, Cond.initialized RX8, Cond.code yX8_begins cX8_begins 6 none, Cond.fieldLink RX8 97 "CreditfabricModel" "delay" "I", Cond.fieldLink RX8 100 "CreditfabricModel" "tick" "I", Cond.fieldLink RX8 82 "CreditfabricModel" "sent" "I", Cond.fieldLink RX8 103 "CreditfabricModel" "out" "I"]
def wsX8_init : List Cond := .code yX8_init cX8_init 1 none :: ((wsX8_init_r1 ++ wsX8_init_r2) ++ wsX80)
def wsX8_thrown : List Cond := .code yX8_thrown cX8_thrown 1 (some .int) :: ([.fieldLink RX8 79 "CreditfabricModel" "thrown" "I"] ++ wsX80)
def wsX8_goes : List Cond := .code yX8_goes cX8_goes 4 (some .boolean) :: ([.fieldLink RX8 79 "CreditfabricModel" "thrown" "I"] ++ wsX80)
def wsX8_isWithin : List Cond := .code yX8_isWithin cX8_isWithin 3 (some .boolean) :: ([])
def wsX8_isSwitch : List Cond := .code yX8_isSwitch cX8_isSwitch 2 (some .boolean) :: ([.fieldLink RX8 7 "CreditfabricModel" "columns" "I", .fieldLink RX8 13 "CreditfabricModel" "rows" "I"] ++ wsX80)
def wsX8_isPacket : List Cond := .code yX8_isPacket cX8_isPacket 2 (some .boolean) :: ([.fieldLink RX8 82 "CreditfabricModel" "sent" "I"] ++ wsX80)
def wsX8_bufferOf : List Cond := .code yX8_bufferOf cX8_bufferOf 3 (some .int) :: ([])
def wsX8_linkOf : List Cond := .code yX8_linkOf cX8_linkOf 3 (some .int) :: ([])
def wsX8_neighbour : List Cond := .code yX8_neighbour cX8_neighbour 6 (some .int) :: ([.fieldLink RX8 7 "CreditfabricModel" "columns" "I", .fieldLink RX8 13 "CreditfabricModel" "rows" "I"] ++ wsX80)
def wsX8_isLink : List Cond := .code yX8_isLink cX8_isLink 3 (some .boolean) :: ([.methodLink RX8 85 yX8_isSwitch, .instanceMethod yX8_isSwitch, .selects RX8 yX8_isSwitch yX8_isSwitch, .initialized RX8, .code yX8_isSwitch cX8_isSwitch 2 (some .boolean), .fieldLink RX8 7 "CreditfabricModel" "columns" "I", .fieldLink RX8 13 "CreditfabricModel" "rows" "I", .methodLink RX8 89 yX8_isWithin, .static yX8_isWithin, .code yX8_isWithin cX8_isWithin 3 (some .boolean), .methodLink RX8 93 yX8_neighbour, .instanceMethod yX8_neighbour, .selects RX8 yX8_neighbour yX8_neighbour, .code yX8_neighbour cX8_neighbour 6 (some .int)] ++ wsX80)
def wsX8_begin_r1 : List Cond := [Cond.methodLink RX8 89 yX8_isWithin, Cond.static yX8_isWithin, Cond.initialized RX8, Cond.code yX8_isWithin cX8_isWithin 3 (some .boolean), Cond.methodLink RX8 106 yX8_goes, Cond.instanceMethod yX8_goes, Cond.selects RX8 yX8_goes yX8_goes, Cond.code yX8_goes cX8_goes 4 (some .boolean), Cond.fieldLink RX8 79 "CreditfabricModel" "thrown" "I", Cond.methodLink RX8 75 yX8_begins, Cond.instanceMethod yX8_begins, Cond.selects RX8 yX8_begins yX8_begins, Cond.code yX8_begins cX8_begins 6 none, Cond.fieldLink RX8 7 "CreditfabricModel" "columns" "I", Cond.fieldLink RX8 13 "CreditfabricModel" "rows" "I", Cond.fieldLink RX8 16 "CreditfabricModel" "room" "I", Cond.fieldLink RX8 97 "CreditfabricModel" "delay" "I", Cond.fieldLink RX8 100 "CreditfabricModel" "tick" "I", Cond.fieldLink RX8 82 "CreditfabricModel" "sent" "I", Cond.fieldLink RX8 103 "CreditfabricModel" "out" "I", Cond.fieldLink RX8 23 "CreditfabricModel" "many" "[I", Cond.fieldLink RX8 26 "CreditfabricModel" "credit" "[I", Cond.fieldLink RX8 29 "CreditfabricModel" "coming" "[I", Cond.fieldLink RX8 32 "CreditfabricModel" "next" "[I"]
def wsX8_begin_r2 : List Cond := [Cond.fieldLink RX8 35 "CreditfabricModel" "gap" "[I", Cond.fieldLink RX8 38 "CreditfabricModel" "last" "[I", Cond.fieldLink RX8 41 "CreditfabricModel" "isPaused" "[Z"]
def wsX8_begin : List Cond := .code yX8_begin cX8_begin 5 (some .int) :: ((wsX8_begin_r1 ++ wsX8_begin_r2) ++ wsX80)
def wsX8_puts : List Cond := .code yX8_puts cX8_puts 3 none :: ([.fieldLink RX8 19 "CreditfabricModel" "buffer" "[I", .fieldLink RX8 23 "CreditfabricModel" "many" "[I"] ++ wsX80)
def wsX8_takes : List Cond := .code yX8_takes cX8_takes 4 (some .int) :: ([.fieldLink RX8 19 "CreditfabricModel" "buffer" "[I", .fieldLink RX8 23 "CreditfabricModel" "many" "[I"] ++ wsX80)
def wsX8_send_r1 : List Cond := [Cond.fieldLink RX8 82 "CreditfabricModel" "sent" "I", Cond.fieldLink RX8 23 "CreditfabricModel" "many" "[I", Cond.fieldLink RX8 16 "CreditfabricModel" "room" "I", Cond.fieldLink RX8 38 "CreditfabricModel" "last" "[I", Cond.fieldLink RX8 100 "CreditfabricModel" "tick" "I", Cond.fieldLink RX8 35 "CreditfabricModel" "gap" "[I", Cond.fieldLink RX8 48 "CreditfabricModel" "source" "[I", Cond.fieldLink RX8 45 "CreditfabricModel" "goal" "[I", Cond.fieldLink RX8 51 "CreditfabricModel" "lane" "[I", Cond.fieldLink RX8 54 "CreditfabricModel" "mode" "[I", Cond.fieldLink RX8 57 "CreditfabricModel" "place" "[I", Cond.fieldLink RX8 60 "CreditfabricModel" "hops" "[I", Cond.fieldLink RX8 63 "CreditfabricModel" "isMarked" "[Z", Cond.methodLink RX8 85 yX8_isSwitch, Cond.instanceMethod yX8_isSwitch, Cond.selects RX8 yX8_isSwitch yX8_isSwitch, Cond.initialized RX8, Cond.code yX8_isSwitch cX8_isSwitch 2 (some .boolean), Cond.fieldLink RX8 7 "CreditfabricModel" "columns" "I", Cond.fieldLink RX8 13 "CreditfabricModel" "rows" "I", Cond.methodLink RX8 89 yX8_isWithin, Cond.static yX8_isWithin, Cond.code yX8_isWithin cX8_isWithin 3 (some .boolean), Cond.methodLink RX8 110 yX8_bufferOf]
def wsX8_send_r2 : List Cond := [Cond.static yX8_bufferOf, Cond.code yX8_bufferOf cX8_bufferOf 3 (some .int), Cond.methodLink RX8 106 yX8_goes, Cond.instanceMethod yX8_goes, Cond.selects RX8 yX8_goes yX8_goes, Cond.code yX8_goes cX8_goes 4 (some .boolean), Cond.fieldLink RX8 79 "CreditfabricModel" "thrown" "I", Cond.methodLink RX8 114 yX8_puts, Cond.instanceMethod yX8_puts, Cond.selects RX8 yX8_puts yX8_puts, Cond.code yX8_puts cX8_puts 3 none, Cond.fieldLink RX8 19 "CreditfabricModel" "buffer" "[I"]
def wsX8_send : List Cond := .code yX8_send cX8_send 8 (some .int) :: ((wsX8_send_r1 ++ wsX8_send_r2) ++ wsX80)
def wsX8_wanted : List Cond := .code yX8_wanted cX8_wanted 9 (some .int) :: ([.fieldLink RX8 45 "CreditfabricModel" "goal" "[I", .fieldLink RX8 7 "CreditfabricModel" "columns" "I", .fieldLink RX8 54 "CreditfabricModel" "mode" "[I"] ++ wsX80)
def wsX8_canGo : List Cond := .code yX8_canGo cX8_canGo 4 (some .boolean) :: ([.fieldLink RX8 26 "CreditfabricModel" "credit" "[I", .fieldLink RX8 41 "CreditfabricModel" "isPaused" "[Z", .methodLink RX8 118 yX8_linkOf, .static yX8_linkOf, .initialized RX8, .code yX8_linkOf cX8_linkOf 3 (some .int), .methodLink RX8 93 yX8_neighbour, .instanceMethod yX8_neighbour, .selects RX8 yX8_neighbour yX8_neighbour, .code yX8_neighbour cX8_neighbour 6 (some .int), .fieldLink RX8 7 "CreditfabricModel" "columns" "I", .fieldLink RX8 13 "CreditfabricModel" "rows" "I"] ++ wsX80)
def wsX8_chooses_r1 : List Cond := [Cond.fieldLink RX8 66 "CreditfabricModel" "chosen" "[I", Cond.fieldLink RX8 32 "CreditfabricModel" "next" "[I", Cond.fieldLink RX8 23 "CreditfabricModel" "many" "[I", Cond.fieldLink RX8 19 "CreditfabricModel" "buffer" "[I", Cond.methodLink RX8 121 yX8_wanted, Cond.instanceMethod yX8_wanted, Cond.selects RX8 yX8_wanted yX8_wanted, Cond.initialized RX8, Cond.code yX8_wanted cX8_wanted 9 (some .int), Cond.fieldLink RX8 45 "CreditfabricModel" "goal" "[I", Cond.fieldLink RX8 7 "CreditfabricModel" "columns" "I", Cond.fieldLink RX8 54 "CreditfabricModel" "mode" "[I", Cond.methodLink RX8 124 yX8_canGo, Cond.instanceMethod yX8_canGo, Cond.selects RX8 yX8_canGo yX8_canGo, Cond.code yX8_canGo cX8_canGo 4 (some .boolean), Cond.fieldLink RX8 26 "CreditfabricModel" "credit" "[I", Cond.fieldLink RX8 41 "CreditfabricModel" "isPaused" "[Z", Cond.methodLink RX8 118 yX8_linkOf, Cond.static yX8_linkOf, Cond.code yX8_linkOf cX8_linkOf 3 (some .int), Cond.methodLink RX8 93 yX8_neighbour, Cond.instanceMethod yX8_neighbour, Cond.selects RX8 yX8_neighbour yX8_neighbour]
def wsX8_chooses_r2 : List Cond := [Cond.code yX8_neighbour cX8_neighbour 6 (some .int), Cond.fieldLink RX8 13 "CreditfabricModel" "rows" "I"]
def wsX8_chooses : List Cond := .code yX8_chooses cX8_chooses 8 none :: ((wsX8_chooses_r1 ++ wsX8_chooses_r2) ++ wsX80)
def wsX8_inSwitch : List Cond := .code yX8_inSwitch cX8_inSwitch 4 (some .int) :: ([.fieldLink RX8 23 "CreditfabricModel" "many" "[I"] ++ wsX80)
def wsX8_comeBack : List Cond := .code yX8_comeBack cX8_comeBack 2 none :: ([.fieldLink RX8 26 "CreditfabricModel" "credit" "[I", .fieldLink RX8 29 "CreditfabricModel" "coming" "[I", .fieldLink RX8 100 "CreditfabricModel" "tick" "I"] ++ wsX80)
def wsX8_leaves : List Cond := .code yX8_leaves cX8_leaves 8 none :: ([.fieldLink RX8 66 "CreditfabricModel" "chosen" "[I", .fieldLink RX8 32 "CreditfabricModel" "next" "[I", .fieldLink RX8 29 "CreditfabricModel" "coming" "[I", .fieldLink RX8 100 "CreditfabricModel" "tick" "I", .fieldLink RX8 97 "CreditfabricModel" "delay" "I", .fieldLink RX8 26 "CreditfabricModel" "credit" "[I", .methodLink RX8 127 yX8_takes, .instanceMethod yX8_takes, .selects RX8 yX8_takes yX8_takes, .initialized RX8, .code yX8_takes cX8_takes 4 (some .int), .fieldLink RX8 19 "CreditfabricModel" "buffer" "[I", .fieldLink RX8 23 "CreditfabricModel" "many" "[I", .methodLink RX8 93 yX8_neighbour, .instanceMethod yX8_neighbour, .selects RX8 yX8_neighbour yX8_neighbour, .code yX8_neighbour cX8_neighbour 6 (some .int), .fieldLink RX8 7 "CreditfabricModel" "columns" "I", .fieldLink RX8 13 "CreditfabricModel" "rows" "I", .methodLink RX8 118 yX8_linkOf, .static yX8_linkOf, .code yX8_linkOf cX8_linkOf 3 (some .int)] ++ wsX80)
def wsX8_ticks_r1 : List Cond := [Cond.fieldLink RX8 7 "CreditfabricModel" "columns" "I", Cond.fieldLink RX8 13 "CreditfabricModel" "rows" "I", Cond.fieldLink RX8 66 "CreditfabricModel" "chosen" "[I", Cond.fieldLink RX8 51 "CreditfabricModel" "lane" "[I", Cond.fieldLink RX8 57 "CreditfabricModel" "place" "[I", Cond.fieldLink RX8 60 "CreditfabricModel" "hops" "[I", Cond.fieldLink RX8 48 "CreditfabricModel" "source" "[I", Cond.fieldLink RX8 35 "CreditfabricModel" "gap" "[I", Cond.fieldLink RX8 63 "CreditfabricModel" "isMarked" "[Z", Cond.fieldLink RX8 100 "CreditfabricModel" "tick" "I", Cond.methodLink RX8 131 yX8_comeBack, Cond.instanceMethod yX8_comeBack, Cond.selects RX8 yX8_comeBack yX8_comeBack, Cond.initialized RX8, Cond.code yX8_comeBack cX8_comeBack 2 none, Cond.fieldLink RX8 26 "CreditfabricModel" "credit" "[I", Cond.fieldLink RX8 29 "CreditfabricModel" "coming" "[I", Cond.methodLink RX8 93 yX8_neighbour, Cond.instanceMethod yX8_neighbour, Cond.selects RX8 yX8_neighbour yX8_neighbour, Cond.code yX8_neighbour cX8_neighbour 6 (some .int), Cond.methodLink RX8 134 yX8_chooses, Cond.instanceMethod yX8_chooses, Cond.selects RX8 yX8_chooses yX8_chooses]
def wsX8_ticks_r2 : List Cond := [Cond.code yX8_chooses cX8_chooses 8 none, Cond.fieldLink RX8 32 "CreditfabricModel" "next" "[I", Cond.fieldLink RX8 23 "CreditfabricModel" "many" "[I", Cond.fieldLink RX8 19 "CreditfabricModel" "buffer" "[I", Cond.methodLink RX8 121 yX8_wanted, Cond.instanceMethod yX8_wanted, Cond.selects RX8 yX8_wanted yX8_wanted, Cond.code yX8_wanted cX8_wanted 9 (some .int), Cond.fieldLink RX8 45 "CreditfabricModel" "goal" "[I", Cond.fieldLink RX8 54 "CreditfabricModel" "mode" "[I", Cond.methodLink RX8 124 yX8_canGo, Cond.instanceMethod yX8_canGo, Cond.selects RX8 yX8_canGo yX8_canGo, Cond.code yX8_canGo cX8_canGo 4 (some .boolean), Cond.fieldLink RX8 41 "CreditfabricModel" "isPaused" "[Z", Cond.methodLink RX8 118 yX8_linkOf, Cond.static yX8_linkOf, Cond.code yX8_linkOf cX8_linkOf 3 (some .int), Cond.methodLink RX8 137 yX8_leaves, Cond.instanceMethod yX8_leaves, Cond.selects RX8 yX8_leaves yX8_leaves, Cond.code yX8_leaves cX8_leaves 8 none, Cond.fieldLink RX8 97 "CreditfabricModel" "delay" "I", Cond.methodLink RX8 127 yX8_takes]
def wsX8_ticks_r3 : List Cond := [Cond.instanceMethod yX8_takes, Cond.selects RX8 yX8_takes yX8_takes, Cond.code yX8_takes cX8_takes 4 (some .int), Cond.methodLink RX8 110 yX8_bufferOf, Cond.static yX8_bufferOf, Cond.code yX8_bufferOf cX8_bufferOf 3 (some .int), Cond.methodLink RX8 114 yX8_puts, Cond.instanceMethod yX8_puts, Cond.selects RX8 yX8_puts yX8_puts, Cond.code yX8_puts cX8_puts 3 none, Cond.methodLink RX8 140 yX8_inSwitch, Cond.instanceMethod yX8_inSwitch, Cond.selects RX8 yX8_inSwitch yX8_inSwitch, Cond.code yX8_inSwitch cX8_inSwitch 4 (some .int)]
def wsX8_ticks : List Cond := .code yX8_ticks cX8_ticks 7 (some .int) :: ((wsX8_ticks_r1 ++ (wsX8_ticks_r2 ++ wsX8_ticks_r3)) ++ wsX80)
def wsX8_run_r1 : List Cond := [Cond.fieldLink RX8 103 "CreditfabricModel" "out" "I", Cond.methodLink RX8 89 yX8_isWithin, Cond.static yX8_isWithin, Cond.initialized RX8, Cond.code yX8_isWithin cX8_isWithin 3 (some .boolean), Cond.methodLink RX8 106 yX8_goes, Cond.instanceMethod yX8_goes, Cond.selects RX8 yX8_goes yX8_goes, Cond.code yX8_goes cX8_goes 4 (some .boolean), Cond.fieldLink RX8 79 "CreditfabricModel" "thrown" "I", Cond.methodLink RX8 143 yX8_ticks, Cond.instanceMethod yX8_ticks, Cond.selects RX8 yX8_ticks yX8_ticks, Cond.code yX8_ticks cX8_ticks 7 (some .int), Cond.fieldLink RX8 7 "CreditfabricModel" "columns" "I", Cond.fieldLink RX8 13 "CreditfabricModel" "rows" "I", Cond.fieldLink RX8 66 "CreditfabricModel" "chosen" "[I", Cond.fieldLink RX8 51 "CreditfabricModel" "lane" "[I", Cond.fieldLink RX8 57 "CreditfabricModel" "place" "[I", Cond.fieldLink RX8 60 "CreditfabricModel" "hops" "[I", Cond.fieldLink RX8 48 "CreditfabricModel" "source" "[I", Cond.fieldLink RX8 35 "CreditfabricModel" "gap" "[I", Cond.fieldLink RX8 63 "CreditfabricModel" "isMarked" "[Z", Cond.fieldLink RX8 100 "CreditfabricModel" "tick" "I"]
def wsX8_run_r2 : List Cond := [Cond.methodLink RX8 131 yX8_comeBack, Cond.instanceMethod yX8_comeBack, Cond.selects RX8 yX8_comeBack yX8_comeBack, Cond.code yX8_comeBack cX8_comeBack 2 none, Cond.fieldLink RX8 26 "CreditfabricModel" "credit" "[I", Cond.fieldLink RX8 29 "CreditfabricModel" "coming" "[I", Cond.methodLink RX8 93 yX8_neighbour, Cond.instanceMethod yX8_neighbour, Cond.selects RX8 yX8_neighbour yX8_neighbour, Cond.code yX8_neighbour cX8_neighbour 6 (some .int), Cond.methodLink RX8 134 yX8_chooses, Cond.instanceMethod yX8_chooses, Cond.selects RX8 yX8_chooses yX8_chooses, Cond.code yX8_chooses cX8_chooses 8 none, Cond.fieldLink RX8 32 "CreditfabricModel" "next" "[I", Cond.fieldLink RX8 23 "CreditfabricModel" "many" "[I", Cond.fieldLink RX8 19 "CreditfabricModel" "buffer" "[I", Cond.methodLink RX8 121 yX8_wanted, Cond.instanceMethod yX8_wanted, Cond.selects RX8 yX8_wanted yX8_wanted, Cond.code yX8_wanted cX8_wanted 9 (some .int), Cond.fieldLink RX8 45 "CreditfabricModel" "goal" "[I", Cond.fieldLink RX8 54 "CreditfabricModel" "mode" "[I", Cond.methodLink RX8 124 yX8_canGo]
def wsX8_run_r3 : List Cond := [Cond.instanceMethod yX8_canGo, Cond.selects RX8 yX8_canGo yX8_canGo, Cond.code yX8_canGo cX8_canGo 4 (some .boolean), Cond.fieldLink RX8 41 "CreditfabricModel" "isPaused" "[Z", Cond.methodLink RX8 118 yX8_linkOf, Cond.static yX8_linkOf, Cond.code yX8_linkOf cX8_linkOf 3 (some .int), Cond.methodLink RX8 137 yX8_leaves, Cond.instanceMethod yX8_leaves, Cond.selects RX8 yX8_leaves yX8_leaves, Cond.code yX8_leaves cX8_leaves 8 none, Cond.fieldLink RX8 97 "CreditfabricModel" "delay" "I", Cond.methodLink RX8 127 yX8_takes, Cond.instanceMethod yX8_takes, Cond.selects RX8 yX8_takes yX8_takes, Cond.code yX8_takes cX8_takes 4 (some .int), Cond.methodLink RX8 110 yX8_bufferOf, Cond.static yX8_bufferOf, Cond.code yX8_bufferOf cX8_bufferOf 3 (some .int), Cond.methodLink RX8 114 yX8_puts, Cond.instanceMethod yX8_puts, Cond.selects RX8 yX8_puts yX8_puts, Cond.code yX8_puts cX8_puts 3 none, Cond.methodLink RX8 140 yX8_inSwitch]
def wsX8_run_r4 : List Cond := [Cond.instanceMethod yX8_inSwitch, Cond.selects RX8 yX8_inSwitch yX8_inSwitch, Cond.code yX8_inSwitch cX8_inSwitch 4 (some .int)]
def wsX8_run : List Cond := .code yX8_run cX8_run 4 (some .int) :: ((wsX8_run_r1 ++ (wsX8_run_r2 ++ (wsX8_run_r3 ++ wsX8_run_r4))) ++ wsX80)
def wsX8_pause : List Cond := .code yX8_pause cX8_pause 4 (some .boolean) :: ([.fieldLink RX8 41 "CreditfabricModel" "isPaused" "[Z", .methodLink RX8 85 yX8_isSwitch, .instanceMethod yX8_isSwitch, .selects RX8 yX8_isSwitch yX8_isSwitch, .initialized RX8, .code yX8_isSwitch cX8_isSwitch 2 (some .boolean), .fieldLink RX8 7 "CreditfabricModel" "columns" "I", .fieldLink RX8 13 "CreditfabricModel" "rows" "I", .methodLink RX8 106 yX8_goes, .instanceMethod yX8_goes, .selects RX8 yX8_goes yX8_goes, .code yX8_goes cX8_goes 4 (some .boolean), .fieldLink RX8 79 "CreditfabricModel" "thrown" "I"] ++ wsX80)
def wsX8_lose_r1 : List Cond := [Cond.fieldLink RX8 26 "CreditfabricModel" "credit" "[I", Cond.methodLink RX8 147 yX8_isLink, Cond.instanceMethod yX8_isLink, Cond.selects RX8 yX8_isLink yX8_isLink, Cond.initialized RX8, Cond.code yX8_isLink cX8_isLink 3 (some .boolean), Cond.methodLink RX8 85 yX8_isSwitch, Cond.instanceMethod yX8_isSwitch, Cond.selects RX8 yX8_isSwitch yX8_isSwitch, Cond.code yX8_isSwitch cX8_isSwitch 2 (some .boolean), Cond.fieldLink RX8 7 "CreditfabricModel" "columns" "I", Cond.fieldLink RX8 13 "CreditfabricModel" "rows" "I", Cond.methodLink RX8 89 yX8_isWithin, Cond.static yX8_isWithin, Cond.code yX8_isWithin cX8_isWithin 3 (some .boolean), Cond.methodLink RX8 93 yX8_neighbour, Cond.instanceMethod yX8_neighbour, Cond.selects RX8 yX8_neighbour yX8_neighbour, Cond.code yX8_neighbour cX8_neighbour 6 (some .int), Cond.methodLink RX8 118 yX8_linkOf, Cond.static yX8_linkOf, Cond.code yX8_linkOf cX8_linkOf 3 (some .int), Cond.methodLink RX8 106 yX8_goes, Cond.instanceMethod yX8_goes]
def wsX8_lose_r2 : List Cond := [Cond.selects RX8 yX8_goes yX8_goes, Cond.code yX8_goes cX8_goes 4 (some .boolean), Cond.fieldLink RX8 79 "CreditfabricModel" "thrown" "I"]
def wsX8_lose : List Cond := .code yX8_lose cX8_lose 6 (some .int) :: ((wsX8_lose_r1 ++ wsX8_lose_r2) ++ wsX80)
def wsX8_recover : List Cond := .code yX8_recover cX8_recover 7 (some .int) :: ([.fieldLink RX8 79 "CreditfabricModel" "thrown" "I", .fieldLink RX8 7 "CreditfabricModel" "columns" "I", .fieldLink RX8 13 "CreditfabricModel" "rows" "I", .fieldLink RX8 16 "CreditfabricModel" "room" "I", .fieldLink RX8 23 "CreditfabricModel" "many" "[I", .fieldLink RX8 29 "CreditfabricModel" "coming" "[I", .fieldLink RX8 26 "CreditfabricModel" "credit" "[I", .methodLink RX8 93 yX8_neighbour, .instanceMethod yX8_neighbour, .selects RX8 yX8_neighbour yX8_neighbour, .initialized RX8, .code yX8_neighbour cX8_neighbour 6 (some .int), .methodLink RX8 110 yX8_bufferOf, .static yX8_bufferOf, .code yX8_bufferOf cX8_bufferOf 3 (some .int)] ++ wsX80)
def wsX8_tick : List Cond := .code yX8_tick cX8_tick 1 (some .int) :: ([.fieldLink RX8 79 "CreditfabricModel" "thrown" "I", .fieldLink RX8 100 "CreditfabricModel" "tick" "I"] ++ wsX80)
def wsX8_packets : List Cond := .code yX8_packets cX8_packets 1 (some .int) :: ([.fieldLink RX8 79 "CreditfabricModel" "thrown" "I", .fieldLink RX8 82 "CreditfabricModel" "sent" "I"] ++ wsX80)
def wsX8_arrived : List Cond := .code yX8_arrived cX8_arrived 1 (some .int) :: ([.fieldLink RX8 79 "CreditfabricModel" "thrown" "I", .fieldLink RX8 103 "CreditfabricModel" "out" "I"] ++ wsX80)
def wsX8_credits_r1 : List Cond := [Cond.fieldLink RX8 26 "CreditfabricModel" "credit" "[I", Cond.methodLink RX8 147 yX8_isLink, Cond.instanceMethod yX8_isLink, Cond.selects RX8 yX8_isLink yX8_isLink, Cond.initialized RX8, Cond.code yX8_isLink cX8_isLink 3 (some .boolean), Cond.methodLink RX8 85 yX8_isSwitch, Cond.instanceMethod yX8_isSwitch, Cond.selects RX8 yX8_isSwitch yX8_isSwitch, Cond.code yX8_isSwitch cX8_isSwitch 2 (some .boolean), Cond.fieldLink RX8 7 "CreditfabricModel" "columns" "I", Cond.fieldLink RX8 13 "CreditfabricModel" "rows" "I", Cond.methodLink RX8 89 yX8_isWithin, Cond.static yX8_isWithin, Cond.code yX8_isWithin cX8_isWithin 3 (some .boolean), Cond.methodLink RX8 93 yX8_neighbour, Cond.instanceMethod yX8_neighbour, Cond.selects RX8 yX8_neighbour yX8_neighbour, Cond.code yX8_neighbour cX8_neighbour 6 (some .int), Cond.methodLink RX8 106 yX8_goes, Cond.instanceMethod yX8_goes, Cond.selects RX8 yX8_goes yX8_goes, Cond.code yX8_goes cX8_goes 4 (some .boolean), Cond.fieldLink RX8 79 "CreditfabricModel" "thrown" "I"]
def wsX8_credits_r2 : List Cond := [Cond.methodLink RX8 118 yX8_linkOf, Cond.static yX8_linkOf, Cond.code yX8_linkOf cX8_linkOf 3 (some .int)]
def wsX8_credits : List Cond := .code yX8_credits cX8_credits 4 (some .int) :: ((wsX8_credits_r1 ++ wsX8_credits_r2) ++ wsX80)
def wsX8_inBuffer : List Cond := .code yX8_inBuffer cX8_inBuffer 4 (some .int) :: ([.fieldLink RX8 23 "CreditfabricModel" "many" "[I", .methodLink RX8 85 yX8_isSwitch, .instanceMethod yX8_isSwitch, .selects RX8 yX8_isSwitch yX8_isSwitch, .initialized RX8, .code yX8_isSwitch cX8_isSwitch 2 (some .boolean), .fieldLink RX8 7 "CreditfabricModel" "columns" "I", .fieldLink RX8 13 "CreditfabricModel" "rows" "I", .methodLink RX8 89 yX8_isWithin, .static yX8_isWithin, .code yX8_isWithin cX8_isWithin 3 (some .boolean), .methodLink RX8 106 yX8_goes, .instanceMethod yX8_goes, .selects RX8 yX8_goes yX8_goes, .code yX8_goes cX8_goes 4 (some .boolean), .fieldLink RX8 79 "CreditfabricModel" "thrown" "I", .methodLink RX8 110 yX8_bufferOf, .static yX8_bufferOf, .code yX8_bufferOf cX8_bufferOf 3 (some .int)] ++ wsX80)
def wsX8_gap : List Cond := .code yX8_gap cX8_gap 2 (some .int) :: ([.fieldLink RX8 35 "CreditfabricModel" "gap" "[I", .methodLink RX8 85 yX8_isSwitch, .instanceMethod yX8_isSwitch, .selects RX8 yX8_isSwitch yX8_isSwitch, .initialized RX8, .code yX8_isSwitch cX8_isSwitch 2 (some .boolean), .fieldLink RX8 7 "CreditfabricModel" "columns" "I", .fieldLink RX8 13 "CreditfabricModel" "rows" "I", .methodLink RX8 106 yX8_goes, .instanceMethod yX8_goes, .selects RX8 yX8_goes yX8_goes, .code yX8_goes cX8_goes 4 (some .boolean), .fieldLink RX8 79 "CreditfabricModel" "thrown" "I"] ++ wsX80)
def wsX8_placeOf : List Cond := .code yX8_placeOf cX8_placeOf 2 (some .int) :: ([.fieldLink RX8 57 "CreditfabricModel" "place" "[I", .methodLink RX8 151 yX8_isPacket, .instanceMethod yX8_isPacket, .selects RX8 yX8_isPacket yX8_isPacket, .initialized RX8, .code yX8_isPacket cX8_isPacket 2 (some .boolean), .fieldLink RX8 82 "CreditfabricModel" "sent" "I", .methodLink RX8 106 yX8_goes, .instanceMethod yX8_goes, .selects RX8 yX8_goes yX8_goes, .code yX8_goes cX8_goes 4 (some .boolean), .fieldLink RX8 79 "CreditfabricModel" "thrown" "I"] ++ wsX80)
def wsX8_hops : List Cond := .code yX8_hops cX8_hops 2 (some .int) :: ([.fieldLink RX8 60 "CreditfabricModel" "hops" "[I", .methodLink RX8 151 yX8_isPacket, .instanceMethod yX8_isPacket, .selects RX8 yX8_isPacket yX8_isPacket, .initialized RX8, .code yX8_isPacket cX8_isPacket 2 (some .boolean), .fieldLink RX8 82 "CreditfabricModel" "sent" "I", .methodLink RX8 106 yX8_goes, .instanceMethod yX8_goes, .selects RX8 yX8_goes yX8_goes, .code yX8_goes cX8_goes 4 (some .boolean), .fieldLink RX8 79 "CreditfabricModel" "thrown" "I"] ++ wsX80)
def wsX8_isMarked : List Cond := .code yX8_isMarked cX8_isMarked 2 (some .boolean) :: ([.fieldLink RX8 63 "CreditfabricModel" "isMarked" "[Z", .methodLink RX8 151 yX8_isPacket, .instanceMethod yX8_isPacket, .selects RX8 yX8_isPacket yX8_isPacket, .initialized RX8, .code yX8_isPacket cX8_isPacket 2 (some .boolean), .fieldLink RX8 82 "CreditfabricModel" "sent" "I", .methodLink RX8 106 yX8_goes, .instanceMethod yX8_goes, .selects RX8 yX8_goes yX8_goes, .code yX8_goes cX8_goes 4 (some .boolean), .fieldLink RX8 79 "CreditfabricModel" "thrown" "I"] ++ wsX80)
def wsX8_wants : List Cond := .code yX8_wants cX8_wants 2 (some .int) :: ([.fieldLink RX8 57 "CreditfabricModel" "place" "[I", .methodLink RX8 151 yX8_isPacket, .instanceMethod yX8_isPacket, .selects RX8 yX8_isPacket yX8_isPacket, .initialized RX8, .code yX8_isPacket cX8_isPacket 2 (some .boolean), .fieldLink RX8 82 "CreditfabricModel" "sent" "I", .methodLink RX8 106 yX8_goes, .instanceMethod yX8_goes, .selects RX8 yX8_goes yX8_goes, .code yX8_goes cX8_goes 4 (some .boolean), .fieldLink RX8 79 "CreditfabricModel" "thrown" "I", .methodLink RX8 121 yX8_wanted, .instanceMethod yX8_wanted, .selects RX8 yX8_wanted yX8_wanted, .code yX8_wanted cX8_wanted 9 (some .int), .fieldLink RX8 45 "CreditfabricModel" "goal" "[I", .fieldLink RX8 7 "CreditfabricModel" "columns" "I", .fieldLink RX8 54 "CreditfabricModel" "mode" "[I"] ++ wsX80)
def wsX8_waitsFor : List Cond := .code yX8_waitsFor cX8_waitsFor 5 (some .int) :: ([.fieldLink RX8 23 "CreditfabricModel" "many" "[I", .fieldLink RX8 19 "CreditfabricModel" "buffer" "[I", .fieldLink RX8 16 "CreditfabricModel" "room" "I", .methodLink RX8 121 yX8_wanted, .instanceMethod yX8_wanted, .selects RX8 yX8_wanted yX8_wanted, .initialized RX8, .code yX8_wanted cX8_wanted 9 (some .int), .fieldLink RX8 45 "CreditfabricModel" "goal" "[I", .fieldLink RX8 7 "CreditfabricModel" "columns" "I", .fieldLink RX8 54 "CreditfabricModel" "mode" "[I", .methodLink RX8 93 yX8_neighbour, .instanceMethod yX8_neighbour, .selects RX8 yX8_neighbour yX8_neighbour, .code yX8_neighbour cX8_neighbour 6 (some .int), .fieldLink RX8 13 "CreditfabricModel" "rows" "I", .methodLink RX8 110 yX8_bufferOf, .static yX8_bufferOf, .code yX8_bufferOf cX8_bufferOf 3 (some .int)] ++ wsX80)
def wsX8_circle : List Cond := .code yX8_circle cX8_circle 6 (some .int) :: ([.fieldLink RX8 79 "CreditfabricModel" "thrown" "I", .fieldLink RX8 7 "CreditfabricModel" "columns" "I", .fieldLink RX8 13 "CreditfabricModel" "rows" "I", .methodLink RX8 154 yX8_waitsFor, .instanceMethod yX8_waitsFor, .selects RX8 yX8_waitsFor yX8_waitsFor, .initialized RX8, .code yX8_waitsFor cX8_waitsFor 5 (some .int), .fieldLink RX8 23 "CreditfabricModel" "many" "[I", .fieldLink RX8 19 "CreditfabricModel" "buffer" "[I", .fieldLink RX8 16 "CreditfabricModel" "room" "I", .methodLink RX8 121 yX8_wanted, .instanceMethod yX8_wanted, .selects RX8 yX8_wanted yX8_wanted, .code yX8_wanted cX8_wanted 9 (some .int), .fieldLink RX8 45 "CreditfabricModel" "goal" "[I", .fieldLink RX8 54 "CreditfabricModel" "mode" "[I", .methodLink RX8 93 yX8_neighbour, .instanceMethod yX8_neighbour, .selects RX8 yX8_neighbour yX8_neighbour, .code yX8_neighbour cX8_neighbour 6 (some .int), .methodLink RX8 110 yX8_bufferOf, .static yX8_bufferOf, .code yX8_bufferOf cX8_bufferOf 3 (some .int)] ++ wsX80)
def wsX8_lays : List Cond := .code yX8_lays cX8_lays 7 none :: ([.fieldLink RX8 69 "CreditfabricModel" "hangs" "[Z", .fieldLink RX8 7 "CreditfabricModel" "columns" "I", .fieldLink RX8 13 "CreditfabricModel" "rows" "I", .fieldLink RX8 23 "CreditfabricModel" "many" "[I", .fieldLink RX8 19 "CreditfabricModel" "buffer" "[I", .fieldLink RX8 51 "CreditfabricModel" "lane" "[I", .methodLink RX8 121 yX8_wanted, .instanceMethod yX8_wanted, .selects RX8 yX8_wanted yX8_wanted, .initialized RX8, .code yX8_wanted cX8_wanted 9 (some .int), .fieldLink RX8 45 "CreditfabricModel" "goal" "[I", .fieldLink RX8 54 "CreditfabricModel" "mode" "[I", .methodLink RX8 93 yX8_neighbour, .instanceMethod yX8_neighbour, .selects RX8 yX8_neighbour yX8_neighbour, .code yX8_neighbour cX8_neighbour 6 (some .int), .methodLink RX8 110 yX8_bufferOf, .static yX8_bufferOf, .code yX8_bufferOf cX8_bufferOf 3 (some .int)] ++ wsX80)
def wsX8_mayCircle_r1 : List Cond := [Cond.fieldLink RX8 79 "CreditfabricModel" "thrown" "I", Cond.fieldLink RX8 7 "CreditfabricModel" "columns" "I", Cond.fieldLink RX8 13 "CreditfabricModel" "rows" "I", Cond.fieldLink RX8 72 "CreditfabricModel" "isGone" "[Z", Cond.fieldLink RX8 69 "CreditfabricModel" "hangs" "[Z", Cond.methodLink RX8 157 yX8_lays, Cond.instanceMethod yX8_lays, Cond.selects RX8 yX8_lays yX8_lays, Cond.initialized RX8, Cond.code yX8_lays cX8_lays 7 none, Cond.fieldLink RX8 23 "CreditfabricModel" "many" "[I", Cond.fieldLink RX8 19 "CreditfabricModel" "buffer" "[I", Cond.fieldLink RX8 51 "CreditfabricModel" "lane" "[I", Cond.methodLink RX8 121 yX8_wanted, Cond.instanceMethod yX8_wanted, Cond.selects RX8 yX8_wanted yX8_wanted, Cond.code yX8_wanted cX8_wanted 9 (some .int), Cond.fieldLink RX8 45 "CreditfabricModel" "goal" "[I", Cond.fieldLink RX8 54 "CreditfabricModel" "mode" "[I", Cond.methodLink RX8 93 yX8_neighbour, Cond.instanceMethod yX8_neighbour, Cond.selects RX8 yX8_neighbour yX8_neighbour, Cond.code yX8_neighbour cX8_neighbour 6 (some .int), Cond.methodLink RX8 110 yX8_bufferOf]
def wsX8_mayCircle_r2 : List Cond := [Cond.static yX8_bufferOf, Cond.code yX8_bufferOf cX8_bufferOf 3 (some .int)]
def wsX8_mayCircle : List Cond := .code yX8_mayCircle cX8_mayCircle 7 (some .boolean) :: ((wsX8_mayCircle_r1 ++ wsX8_mayCircle_r2) ++ wsX80)
def wsJ9_max_7cf53 : List Cond := .code yJ9_max_7cf53 cJ9_max_7cf53 2 (some .int) :: ([])
def wsJ9_min_7cf53 : List Cond := .code yJ9_min_7cf53 cJ9_min_7cf53 2 (some .int) :: ([])
def wsL_begin_r1 : List Cond := [Cond.classLink RL 13 "java/lang/IllegalArgumentException", Cond.methodLink RL 7 yX7_begin, Cond.instanceMethod yX7_begin, Cond.selects RX7 yX7_begin yX7_begin, Cond.initialized RX7, Cond.code yX7_begin cX7_begin 5 (some .int), Cond.classLink RX7 77 "java/lang/IllegalArgumentException", Cond.initialized "java/lang/IllegalArgumentException", Cond.fieldLink RX7 12 "Creditfabric" "grid" "LCreditfabric$Grid;", Cond.methodLink RX7 73 yX7_layAnew, Cond.instanceMethod yX7_layAnew, Cond.selects RX7 yX7_layAnew yX7_layAnew, Cond.code yX7_layAnew cX7_layAnew 5 none, Cond.fieldLink RX7 21 "Creditfabric" "traffic" "LCreditfabric$Packets;", Cond.fieldLink RX7 28 "Creditfabric" "buffers" "LCreditfabric$Buffers;", Cond.fieldLink RX7 35 "Creditfabric" "purse" "LCreditfabric$Credits;", Cond.fieldLink RX7 42 "Creditfabric" "senders" "LCreditfabric$Senders;", Cond.fieldLink RX7 60 "Creditfabric" "paused" "LCreditfabric$Row;", Cond.fieldLink RX7 64 "Creditfabric" "turns" "LCreditfabric$Row;", Cond.fieldLink RX7 115 "Creditfabric" "now" "I", Cond.methodLink RX7 223 yX3_lay, Cond.instanceMethod yX3_lay, Cond.selects RX3 yX3_lay yX3_lay, Cond.initialized RX3]
def wsL_begin_r2 : List Cond := [Cond.code yX3_lay cX3_lay 5 none, Cond.fieldLink RX3 23 "Creditfabric$Grid" "columns" "I", Cond.fieldLink RX3 27 "Creditfabric$Grid" "rows" "I", Cond.fieldLink RX3 14 "Creditfabric$Grid" "columnOf" "LCreditfabric$Row;", Cond.fieldLink RX3 20 "Creditfabric$Grid" "rowOf" "LCreditfabric$Row;", Cond.methodLink RX3 30 yX5_put, Cond.instanceMethod yX5_put, Cond.selects RX5 yX5_put yX5_put, Cond.initialized RX5, Cond.code yX5_put cX5_put 3 none, Cond.fieldLink RX5 7 "Creditfabric$Row" "numbers" "[I", Cond.methodLink RX7 226 yX4_clear, Cond.instanceMethod yX4_clear, Cond.selects RX4 yX4_clear yX4_clear, Cond.initialized RX4, Cond.code yX4_clear cX4_clear 1 none, Cond.fieldLink RX4 45 "Creditfabric$Packets" "count" "I", Cond.fieldLink RX4 49 "Creditfabric$Packets" "gone" "I", Cond.methodLink RX7 229 yX0_clear, Cond.instanceMethod yX0_clear, Cond.selects RX0 yX0_clear yX0_clear, Cond.initialized RX0, Cond.code yX0_clear cX0_clear 2 none, Cond.fieldLink RX0 23 "Creditfabric$Buffers" "room" "I"]
def wsL_begin_r3 : List Cond := [Cond.fieldLink RX0 20 "Creditfabric$Buffers" "sizes" "LCreditfabric$Row;", Cond.methodLink RX0 27 yX5_fill, Cond.instanceMethod yX5_fill, Cond.selects RX5 yX5_fill yX5_fill, Cond.code yX5_fill cX5_fill 3 none, Cond.methodLink RX7 231 yX2_fill, Cond.instanceMethod yX2_fill, Cond.selects RX2 yX2_fill yX2_fill, Cond.initialized RX2, Cond.code yX2_fill cX2_fill 3 none, Cond.fieldLink RX2 23 "Creditfabric$Credits" "delay" "I", Cond.fieldLink RX2 14 "Creditfabric$Credits" "there" "LCreditfabric$Row;", Cond.fieldLink RX2 20 "Creditfabric$Credits" "coming" "LCreditfabric$Row;", Cond.fieldLink RX2 30 "Creditfabric$Credits" "comingInAll" "I", Cond.methodLink RX2 27 yX5_fill, Cond.methodLink RX7 234 yX6_clear, Cond.instanceMethod yX6_clear, Cond.selects RX6 yX6_clear yX6_clear, Cond.initialized RX6, Cond.code yX6_clear cX6_clear 1 none, Cond.fieldLink RX6 14 "Creditfabric$Senders" "gaps" "LCreditfabric$Row;", Cond.fieldLink RX6 20 "Creditfabric$Senders" "lastTicks" "LCreditfabric$Row;", Cond.methodLink RX6 23 yX5_fill, Cond.methodLink RX7 235 yX5_fill]
def wsL_begin_r4 : List Cond := [Cond.methodLink RX7 88 yX3_size, Cond.instanceMethod yX3_size, Cond.selects RX3 yX3_size yX3_size, Cond.code yX3_size cX3_size 1 (some .int)]
def wsL_begin : List Cond := .codeWith yL_begin cL_begin 7 (some .int) [(0, 14, 17, 13)] :: ((wsL_begin_r1 ++ (wsL_begin_r2 ++ (wsL_begin_r3 ++ wsL_begin_r4))) ++ wsX70 ++ wsX30 ++ wsX50 ++ wsX40 ++ wsX00 ++ wsX20 ++ wsX60 ++ (vx_atS RX7 81 "java/lang/IllegalArgumentException" ["java/lang/RuntimeException", "java/lang/Exception"]).filter goodWord)
def wsL_send_r1 : List Cond := [Cond.classLink RL 18 "java/lang/IndexOutOfBoundsException", Cond.classLink RL 13 "java/lang/IllegalArgumentException", Cond.classLink RL 20 "java/lang/IllegalStateException", Cond.methodLink RL 15 yX7_send, Cond.instanceMethod yX7_send, Cond.selects RX7 yX7_send yX7_send, Cond.initialized RX7, Cond.code yX7_send cX7_send 7 (some .int), Cond.classLink RX7 77 "java/lang/IllegalArgumentException", Cond.initialized "java/lang/IllegalArgumentException", Cond.classLink RX7 110 "java/lang/IllegalStateException", Cond.initialized "java/lang/IllegalStateException", Cond.fieldLink RX7 28 "Creditfabric" "buffers" "LCreditfabric$Buffers;", Cond.fieldLink RX7 42 "Creditfabric" "senders" "LCreditfabric$Senders;", Cond.fieldLink RX7 115 "Creditfabric" "now" "I", Cond.fieldLink RX7 21 "Creditfabric" "traffic" "LCreditfabric$Packets;", Cond.methodLink RX7 92 yX7_checkSwitch, Cond.instanceMethod yX7_checkSwitch, Cond.selects RX7 yX7_checkSwitch yX7_checkSwitch, Cond.code yX7_checkSwitch cX7_checkSwitch 2 none, Cond.classLink RX7 209 "java/lang/IndexOutOfBoundsException", Cond.initialized "java/lang/IndexOutOfBoundsException", Cond.fieldLink RX7 12 "Creditfabric" "grid" "LCreditfabric$Grid;", Cond.methodLink RX7 206 yX3_has]
def wsL_send_r2 : List Cond := [Cond.instanceMethod yX3_has, Cond.selects RX3 yX3_has yX3_has, Cond.initialized RX3, Cond.code yX3_has cX3_has 2 (some .boolean), Cond.methodLink RX3 34 yX3_size, Cond.instanceMethod yX3_size, Cond.selects RX3 yX3_size yX3_size, Cond.code yX3_size cX3_size 1 (some .int), Cond.fieldLink RX3 23 "Creditfabric$Grid" "columns" "I", Cond.fieldLink RX3 27 "Creditfabric$Grid" "rows" "I", Cond.methodLink RX7 97 yX7_checkLane, Cond.static yX7_checkLane, Cond.code yX7_checkLane cX7_checkLane 1 none, Cond.methodLink RX7 102 yX7_bufferOf, Cond.static yX7_bufferOf, Cond.code yX7_bufferOf cX7_bufferOf 3 (some .int), Cond.methodLink RX7 106 yX0_isFull, Cond.instanceMethod yX0_isFull, Cond.selects RX0 yX0_isFull yX0_isFull, Cond.initialized RX0, Cond.code yX0_isFull cX0_isFull 2 (some .boolean), Cond.fieldLink RX0 20 "Creditfabric$Buffers" "sizes" "LCreditfabric$Row;", Cond.fieldLink RX0 23 "Creditfabric$Buffers" "room" "I", Cond.methodLink RX0 30 yX5_at]
def wsL_send_r3 : List Cond := [Cond.instanceMethod yX5_at, Cond.selects RX5 yX5_at yX5_at, Cond.initialized RX5, Cond.code yX5_at cX5_at 2 (some .int), Cond.fieldLink RX5 7 "Creditfabric$Row" "numbers" "[I", Cond.methodLink RX7 119 yX6_isReady, Cond.instanceMethod yX6_isReady, Cond.selects RX6 yX6_isReady yX6_isReady, Cond.initialized RX6, Cond.code yX6_isReady cX6_isReady 4 (some .boolean), Cond.fieldLink RX6 20 "Creditfabric$Senders" "lastTicks" "LCreditfabric$Row;", Cond.fieldLink RX6 14 "Creditfabric$Senders" "gaps" "LCreditfabric$Row;", Cond.methodLink RX6 26 yX5_at, Cond.methodLink RX7 130 yX4_add, Cond.instanceMethod yX4_add, Cond.selects RX4 yX4_add yX4_add, Cond.initialized RX4, Cond.code yX4_add cX4_add 6 (some .int), Cond.fieldLink RX4 45 "Creditfabric$Packets" "count" "I", Cond.fieldLink RX4 14 "Creditfabric$Packets" "sources" "LCreditfabric$Row;", Cond.fieldLink RX4 20 "Creditfabric$Packets" "goals" "LCreditfabric$Row;", Cond.fieldLink RX4 23 "Creditfabric$Packets" "lanes" "LCreditfabric$Row;", Cond.fieldLink RX4 26 "Creditfabric$Packets" "modes" "LCreditfabric$Row;", Cond.fieldLink RX4 29 "Creditfabric$Packets" "places" "LCreditfabric$Row;"]
def wsL_send_r4 : List Cond := [Cond.fieldLink RX4 32 "Creditfabric$Packets" "inputs" "LCreditfabric$Row;", Cond.fieldLink RX4 35 "Creditfabric$Packets" "hopsGone" "LCreditfabric$Row;", Cond.fieldLink RX4 38 "Creditfabric$Packets" "marks" "LCreditfabric$Row;", Cond.methodLink RX4 52 yX5_put, Cond.instanceMethod yX5_put, Cond.selects RX5 yX5_put yX5_put, Cond.code yX5_put cX5_put 3 none, Cond.methodLink RX7 134 yX0_append, Cond.instanceMethod yX0_append, Cond.selects RX0 yX0_append yX0_append, Cond.code yX0_append cX0_append 3 none, Cond.fieldLink RX0 14 "Creditfabric$Buffers" "slots" "LCreditfabric$Row;", Cond.methodLink RX0 34 yX0_isFull, Cond.methodLink RX0 38 yX5_put, Cond.methodLink RX0 42 yX5_add, Cond.instanceMethod yX5_add, Cond.selects RX5 yX5_add yX5_add, Cond.code yX5_add cX5_add 3 none, Cond.methodLink RX5 13 yX5_at, Cond.methodLink RX5 17 yX5_put, Cond.methodLink RX7 138 yX6_note, Cond.instanceMethod yX6_note, Cond.selects RX6 yX6_note yX6_note, Cond.code yX6_note cX6_note 3 none]
def wsL_send_r5 : List Cond := [Cond.methodLink RX6 30 yX5_put]
def wsL_send : List Cond := .codeWith yL_send cL_send 7 (some .int) [(0, 14, 17, 18), (0, 14, 21, 13), (0, 14, 25, 20)] :: ((wsL_send_r1 ++ (wsL_send_r2 ++ (wsL_send_r3 ++ (wsL_send_r4 ++ wsL_send_r5)))) ++ wsX70 ++ wsX40 ++ wsX30 ++ wsX00 ++ wsX50 ++ wsX60 ++ (vx_atS RX7 81 "java/lang/IllegalArgumentException" ["java/lang/RuntimeException", "java/lang/Exception"]).filter goodWord ++ (vx_atS RX7 114 "java/lang/IllegalStateException" ["java/lang/RuntimeException", "java/lang/Exception"]).filter goodWord ++ (vx_atS RX7 213 "java/lang/IndexOutOfBoundsException" ["java/lang/RuntimeException", "java/lang/Exception"]).filter goodWord)
def wsL_run_r1 : List Cond := [Cond.classLink RL 13 "java/lang/IllegalArgumentException", Cond.methodLink RL 22 yX7_run, Cond.instanceMethod yX7_run, Cond.selects RX7 yX7_run yX7_run, Cond.initialized RX7, Cond.code yX7_run cX7_run 4 (some .int), Cond.classLink RX7 77 "java/lang/IllegalArgumentException", Cond.initialized "java/lang/IllegalArgumentException", Cond.fieldLink RX7 21 "Creditfabric" "traffic" "LCreditfabric$Packets;", Cond.methodLink RX7 146 yX7_runOne, Cond.instanceMethod yX7_runOne, Cond.selects RX7 yX7_runOne yX7_runOne, Cond.code yX7_runOne cX7_runOne 2 none, Cond.fieldLink RX7 35 "Creditfabric" "purse" "LCreditfabric$Credits;", Cond.fieldLink RX7 115 "Creditfabric" "now" "I", Cond.fieldLink RX7 240 "Creditfabric" "chosenCount" "I", Cond.fieldLink RX7 12 "Creditfabric" "grid" "LCreditfabric$Grid;", Cond.fieldLink RX7 70 "Creditfabric" "chosen" "LCreditfabric$Row;", Cond.methodLink RX7 237 yX2_comeBack, Cond.instanceMethod yX2_comeBack, Cond.selects RX2 yX2_comeBack yX2_comeBack, Cond.initialized RX2, Cond.code yX2_comeBack cX2_comeBack 5 none, Cond.fieldLink RX2 30 "Creditfabric$Credits" "comingInAll" "I"]
def wsL_run_r2 : List Cond := [Cond.fieldLink RX2 20 "Creditfabric$Credits" "coming" "LCreditfabric$Row;", Cond.fieldLink RX2 14 "Creditfabric$Credits" "there" "LCreditfabric$Row;", Cond.methodLink RX2 41 yX2_slotOf, Cond.static yX2_slotOf, Cond.code yX2_slotOf cX2_slotOf 2 (some .int), Cond.methodLink RX2 33 yX5_at, Cond.instanceMethod yX5_at, Cond.selects RX5 yX5_at yX5_at, Cond.initialized RX5, Cond.code yX5_at cX5_at 2 (some .int), Cond.fieldLink RX5 7 "Creditfabric$Row" "numbers" "[I", Cond.methodLink RX2 37 yX5_add, Cond.instanceMethod yX5_add, Cond.selects RX5 yX5_add yX5_add, Cond.code yX5_add cX5_add 3 none, Cond.methodLink RX5 13 yX5_at, Cond.methodLink RX5 17 yX5_put, Cond.instanceMethod yX5_put, Cond.selects RX5 yX5_put yX5_put, Cond.code yX5_put cX5_put 3 none, Cond.methodLink RX2 45 yX5_put, Cond.methodLink RX7 88 yX3_size, Cond.instanceMethod yX3_size, Cond.selects RX3 yX3_size yX3_size]
def wsL_run_r3 : List Cond := [Cond.initialized RX3, Cond.code yX3_size cX3_size 1 (some .int), Cond.fieldLink RX3 23 "Creditfabric$Grid" "columns" "I", Cond.fieldLink RX3 27 "Creditfabric$Grid" "rows" "I", Cond.methodLink RX7 243 yX7_chooseAt, Cond.instanceMethod yX7_chooseAt, Cond.selects RX7 yX7_chooseAt yX7_chooseAt, Cond.code yX7_chooseAt cX7_chooseAt 5 none, Cond.fieldLink RX7 67 "Creditfabric" "ready" "LCreditfabric$Row;", Cond.fieldLink RX7 28 "Creditfabric" "buffers" "LCreditfabric$Buffers;", Cond.methodLink RX7 235 yX5_fill, Cond.instanceMethod yX5_fill, Cond.selects RX5 yX5_fill yX5_fill, Cond.code yX5_fill cX5_fill 3 none, Cond.methodLink RX7 252 yX0_first, Cond.instanceMethod yX0_first, Cond.selects RX0 yX0_first yX0_first, Cond.initialized RX0, Cond.code yX0_first cX0_first 2 (some .int), Cond.fieldLink RX0 20 "Creditfabric$Buffers" "sizes" "LCreditfabric$Row;", Cond.fieldLink RX0 14 "Creditfabric$Buffers" "slots" "LCreditfabric$Row;", Cond.methodLink RX0 30 yX5_at, Cond.methodLink RX7 196 yX4_outputOf, Cond.instanceMethod yX4_outputOf]
def wsL_run_r4 : List Cond := [Cond.selects RX4 yX4_outputOf yX4_outputOf, Cond.initialized RX4, Cond.code yX4_outputOf cX4_outputOf 3 (some .int), Cond.fieldLink RX4 29 "Creditfabric$Packets" "places" "LCreditfabric$Row;", Cond.fieldLink RX4 41 "Creditfabric$Packets" "grid" "LCreditfabric$Grid;", Cond.fieldLink RX4 20 "Creditfabric$Packets" "goals" "LCreditfabric$Row;", Cond.fieldLink RX4 26 "Creditfabric$Packets" "modes" "LCreditfabric$Row;", Cond.methodLink RX4 56 yX5_at, Cond.methodLink RX4 60 yX3_outputTowards, Cond.instanceMethod yX3_outputTowards, Cond.selects RX3 yX3_outputTowards yX3_outputTowards, Cond.code yX3_outputTowards cX3_outputTowards 6 (some .int), Cond.fieldLink RX3 14 "Creditfabric$Grid" "columnOf" "LCreditfabric$Row;", Cond.fieldLink RX3 20 "Creditfabric$Grid" "rowOf" "LCreditfabric$Row;", Cond.methodLink RX3 38 yX5_at, Cond.methodLink RX3 42 yX3_stepTowards, Cond.static yX3_stepTowards, Cond.code yX3_stepTowards cX3_stepTowards 4 (some .int), Cond.methodLink RX7 149 yX5_at, Cond.methodLink RX7 258 yX7_canGo, Cond.instanceMethod yX7_canGo, Cond.selects RX7 yX7_canGo yX7_canGo, Cond.code yX7_canGo cX7_canGo 5 (some .boolean), Cond.fieldLink RX7 60 "Creditfabric" "paused" "LCreditfabric$Row;"]
def wsL_run_r5 : List Cond := [Cond.methodLink RX7 214 yX3_behind, Cond.instanceMethod yX3_behind, Cond.selects RX3 yX3_behind yX3_behind, Cond.code yX3_behind cX3_behind 3 (some .int), Cond.methodLink RX7 102 yX7_bufferOf, Cond.static yX7_bufferOf, Cond.code yX7_bufferOf cX7_bufferOf 3 (some .int), Cond.methodLink RX7 162 yX2_there, Cond.instanceMethod yX2_there, Cond.selects RX2 yX2_there yX2_there, Cond.code yX2_there cX2_there 2 (some .int), Cond.methodLink RX7 153 yX5_put, Cond.methodLink RX7 262 yX7_takeTurn, Cond.instanceMethod yX7_takeTurn, Cond.selects RX7 yX7_takeTurn yX7_takeTurn, Cond.code yX7_takeTurn cX7_takeTurn 8 none, Cond.fieldLink RX7 64 "Creditfabric" "turns" "LCreditfabric$Row;", Cond.methodLink RX7 246 yX7_move, Cond.instanceMethod yX7_move, Cond.selects RX7 yX7_move yX7_move, Cond.code yX7_move cX7_move 7 none, Cond.fieldLink RX7 42 "Creditfabric" "senders" "LCreditfabric$Senders;", Cond.methodLink RX7 269 yX0_removeFirst, Cond.instanceMethod yX0_removeFirst]
def wsL_run_r6 : List Cond := [Cond.selects RX0 yX0_removeFirst yX0_removeFirst, Cond.code yX0_removeFirst cX0_removeFirst 4 none, Cond.methodLink RX0 38 yX5_put, Cond.methodLink RX0 42 yX5_add, Cond.methodLink RX7 272 yX2_giveBack, Cond.instanceMethod yX2_giveBack, Cond.selects RX2 yX2_giveBack yX2_giveBack, Cond.code yX2_giveBack cX2_giveBack 3 none, Cond.fieldLink RX2 23 "Creditfabric$Credits" "delay" "I", Cond.methodLink RX7 275 yX4_goOut, Cond.instanceMethod yX4_goOut, Cond.selects RX4 yX4_goOut yX4_goOut, Cond.code yX4_goOut cX4_goOut 2 none, Cond.fieldLink RX4 49 "Creditfabric$Packets" "gone" "I", Cond.methodLink RX4 52 yX5_put, Cond.methodLink RX7 281 yX6_adapt, Cond.instanceMethod yX6_adapt, Cond.selects RX6 yX6_adapt yX6_adapt, Cond.initialized RX6, Cond.code yX6_adapt cX6_adapt 4 none, Cond.fieldLink RX6 14 "Creditfabric$Senders" "gaps" "LCreditfabric$Row;", Cond.methodLink RX6 34 Lib.Math.min.name, Cond.static Lib.Math.min.name, Cond.initialized "java/lang/Math"]
def wsL_run_r7 : List Cond := [Cond.code Lib.Math.min.name Lib.Math.min.code 2 (some .int), Cond.methodLink RX6 40 Lib.Math.max.name, Cond.static Lib.Math.max.name, Cond.code Lib.Math.max.name Lib.Math.max.code 2 (some .int), Cond.methodLink RX6 26 yX5_at, Cond.methodLink RX6 30 yX5_put, Cond.methodLink RX7 167 yX2_take, Cond.instanceMethod yX2_take, Cond.selects RX2 yX2_take yX2_take, Cond.code yX2_take cX2_take 2 none, Cond.methodLink RX7 134 yX0_append, Cond.instanceMethod yX0_append, Cond.selects RX0 yX0_append yX0_append, Cond.code yX0_append cX0_append 3 none, Cond.methodLink RX0 34 yX0_isFull, Cond.instanceMethod yX0_isFull, Cond.selects RX0 yX0_isFull yX0_isFull, Cond.code yX0_isFull cX0_isFull 2 (some .boolean), Cond.fieldLink RX0 23 "Creditfabric$Buffers" "room" "I", Cond.methodLink RX7 285 yX4_goOver, Cond.instanceMethod yX4_goOver, Cond.selects RX4 yX4_goOver yX4_goOver, Cond.code yX4_goOver cX4_goOver 4 none, Cond.fieldLink RX4 32 "Creditfabric$Packets" "inputs" "LCreditfabric$Row;"]
def wsL_run_r8 : List Cond := [Cond.fieldLink RX4 35 "Creditfabric$Packets" "hopsGone" "LCreditfabric$Row;", Cond.methodLink RX4 66 yX5_add, Cond.methodLink RX7 249 yX7_markInCrowd, Cond.instanceMethod yX7_markInCrowd, Cond.selects RX7 yX7_markInCrowd yX7_markInCrowd, Cond.code yX7_markInCrowd cX7_markInCrowd 3 none, Cond.methodLink RX7 288 yX0_load, Cond.instanceMethod yX0_load, Cond.selects RX0 yX0_load yX0_load, Cond.code yX0_load cX0_load 4 (some .int)]
def wsL_run : List Cond := .codeWith yL_run cL_run 4 (some .int) [(0, 9, 12, 13)] :: ((wsL_run_r1 ++ (wsL_run_r2 ++ (wsL_run_r3 ++ (wsL_run_r4 ++ (wsL_run_r5 ++ (wsL_run_r6 ++ (wsL_run_r7 ++ wsL_run_r8))))))) ++ wsX70 ++ wsX40 ++ wsX20 ++ wsX50 ++ wsX30 ++ wsX00 ++ wsX60 ++ (vx_atS RX7 81 "java/lang/IllegalArgumentException" ["java/lang/RuntimeException", "java/lang/Exception"]).filter goodWord)
def wsL_pause_r1 : List Cond := [Cond.classLink RL 18 "java/lang/IndexOutOfBoundsException", Cond.methodLink RL 26 yX7_pause, Cond.instanceMethod yX7_pause, Cond.selects RX7 yX7_pause yX7_pause, Cond.initialized RX7, Cond.code yX7_pause cX7_pause 4 (some .boolean), Cond.fieldLink RX7 60 "Creditfabric" "paused" "LCreditfabric$Row;", Cond.methodLink RX7 92 yX7_checkSwitch, Cond.instanceMethod yX7_checkSwitch, Cond.selects RX7 yX7_checkSwitch yX7_checkSwitch, Cond.code yX7_checkSwitch cX7_checkSwitch 2 none, Cond.classLink RX7 209 "java/lang/IndexOutOfBoundsException", Cond.initialized "java/lang/IndexOutOfBoundsException", Cond.fieldLink RX7 12 "Creditfabric" "grid" "LCreditfabric$Grid;", Cond.methodLink RX7 206 yX3_has, Cond.instanceMethod yX3_has, Cond.selects RX3 yX3_has yX3_has, Cond.initialized RX3, Cond.code yX3_has cX3_has 2 (some .boolean), Cond.methodLink RX3 34 yX3_size, Cond.instanceMethod yX3_size, Cond.selects RX3 yX3_size yX3_size, Cond.code yX3_size cX3_size 1 (some .int), Cond.fieldLink RX3 23 "Creditfabric$Grid" "columns" "I"]
def wsL_pause_r2 : List Cond := [Cond.fieldLink RX3 27 "Creditfabric$Grid" "rows" "I", Cond.methodLink RX7 149 yX5_at, Cond.instanceMethod yX5_at, Cond.selects RX5 yX5_at yX5_at, Cond.initialized RX5, Cond.code yX5_at cX5_at 2 (some .int), Cond.fieldLink RX5 7 "Creditfabric$Row" "numbers" "[I", Cond.methodLink RX7 153 yX5_put, Cond.instanceMethod yX5_put, Cond.selects RX5 yX5_put yX5_put, Cond.code yX5_put cX5_put 3 none]
def wsL_pause : List Cond := .codeWith yL_pause cL_pause 5 (some .int) [(0, 17, 20, 18)] :: ((wsL_pause_r1 ++ wsL_pause_r2) ++ wsX70 ++ wsX30 ++ wsX50 ++ (vx_atS RX7 213 "java/lang/IndexOutOfBoundsException" ["java/lang/RuntimeException", "java/lang/Exception"]).filter goodWord)
def wsL_lose_r1 : List Cond := [Cond.classLink RL 18 "java/lang/IndexOutOfBoundsException", Cond.classLink RL 13 "java/lang/IllegalArgumentException", Cond.classLink RL 20 "java/lang/IllegalStateException", Cond.methodLink RL 30 yX7_lose, Cond.instanceMethod yX7_lose, Cond.selects RX7 yX7_lose yX7_lose, Cond.initialized RX7, Cond.code yX7_lose cX7_lose 5 (some .int), Cond.classLink RX7 110 "java/lang/IllegalStateException", Cond.initialized "java/lang/IllegalStateException", Cond.fieldLink RX7 35 "Creditfabric" "purse" "LCreditfabric$Credits;", Cond.methodLink RX7 156 yX7_checkLink, Cond.instanceMethod yX7_checkLink, Cond.selects RX7 yX7_checkLink yX7_checkLink, Cond.code yX7_checkLink cX7_checkLink 3 none, Cond.classLink RX7 209 "java/lang/IndexOutOfBoundsException", Cond.initialized "java/lang/IndexOutOfBoundsException", Cond.fieldLink RX7 12 "Creditfabric" "grid" "LCreditfabric$Grid;", Cond.methodLink RX7 92 yX7_checkSwitch, Cond.instanceMethod yX7_checkSwitch, Cond.selects RX7 yX7_checkSwitch yX7_checkSwitch, Cond.code yX7_checkSwitch cX7_checkSwitch 2 none, Cond.methodLink RX7 206 yX3_has, Cond.instanceMethod yX3_has]
def wsL_lose_r2 : List Cond := [Cond.selects RX3 yX3_has yX3_has, Cond.initialized RX3, Cond.code yX3_has cX3_has 2 (some .boolean), Cond.methodLink RX3 34 yX3_size, Cond.instanceMethod yX3_size, Cond.selects RX3 yX3_size yX3_size, Cond.code yX3_size cX3_size 1 (some .int), Cond.fieldLink RX3 23 "Creditfabric$Grid" "columns" "I", Cond.fieldLink RX3 27 "Creditfabric$Grid" "rows" "I", Cond.methodLink RX7 214 yX3_behind, Cond.instanceMethod yX3_behind, Cond.selects RX3 yX3_behind yX3_behind, Cond.code yX3_behind cX3_behind 3 (some .int), Cond.fieldLink RX3 14 "Creditfabric$Grid" "columnOf" "LCreditfabric$Row;", Cond.fieldLink RX3 20 "Creditfabric$Grid" "rowOf" "LCreditfabric$Row;", Cond.methodLink RX3 38 yX5_at, Cond.instanceMethod yX5_at, Cond.selects RX5 yX5_at yX5_at, Cond.initialized RX5, Cond.code yX5_at cX5_at 2 (some .int), Cond.fieldLink RX5 7 "Creditfabric$Row" "numbers" "[I", Cond.methodLink RX7 97 yX7_checkLane, Cond.static yX7_checkLane, Cond.code yX7_checkLane cX7_checkLane 1 none]
def wsL_lose_r3 : List Cond := [Cond.classLink RX7 77 "java/lang/IllegalArgumentException", Cond.initialized "java/lang/IllegalArgumentException", Cond.methodLink RX7 159 yX7_bufferBehind, Cond.instanceMethod yX7_bufferBehind, Cond.selects RX7 yX7_bufferBehind yX7_bufferBehind, Cond.code yX7_bufferBehind cX7_bufferBehind 4 (some .int), Cond.methodLink RX7 102 yX7_bufferOf, Cond.static yX7_bufferOf, Cond.code yX7_bufferOf cX7_bufferOf 3 (some .int), Cond.methodLink RX7 162 yX2_there, Cond.instanceMethod yX2_there, Cond.selects RX2 yX2_there yX2_there, Cond.initialized RX2, Cond.code yX2_there cX2_there 2 (some .int), Cond.fieldLink RX2 14 "Creditfabric$Credits" "there" "LCreditfabric$Row;", Cond.methodLink RX2 33 yX5_at, Cond.methodLink RX7 167 yX2_take, Cond.instanceMethod yX2_take, Cond.selects RX2 yX2_take yX2_take, Cond.code yX2_take cX2_take 2 none, Cond.methodLink RX2 37 yX5_add, Cond.instanceMethod yX5_add, Cond.selects RX5 yX5_add yX5_add, Cond.code yX5_add cX5_add 3 none]
def wsL_lose_r4 : List Cond := [Cond.methodLink RX5 13 yX5_at, Cond.methodLink RX5 17 yX5_put, Cond.instanceMethod yX5_put, Cond.selects RX5 yX5_put yX5_put, Cond.code yX5_put cX5_put 3 none]
def wsL_lose : List Cond := .codeWith yL_lose cL_lose 6 (some .int) [(0, 12, 15, 18), (0, 12, 19, 13), (0, 12, 23, 20)] :: ((wsL_lose_r1 ++ (wsL_lose_r2 ++ (wsL_lose_r3 ++ wsL_lose_r4))) ++ wsX70 ++ wsX30 ++ wsX50 ++ wsX20 ++ (vx_atS RX7 114 "java/lang/IllegalStateException" ["java/lang/RuntimeException", "java/lang/Exception"]).filter goodWord ++ (vx_atS RX7 213 "java/lang/IndexOutOfBoundsException" ["java/lang/RuntimeException", "java/lang/Exception"]).filter goodWord ++ (vx_atS RX7 81 "java/lang/IllegalArgumentException" ["java/lang/RuntimeException", "java/lang/Exception"]).filter goodWord)
def wsL_credits_r1 : List Cond := [Cond.classLink RL 18 "java/lang/IndexOutOfBoundsException", Cond.classLink RL 13 "java/lang/IllegalArgumentException", Cond.methodLink RL 34 yX7_credits, Cond.instanceMethod yX7_credits, Cond.selects RX7 yX7_credits yX7_credits, Cond.initialized RX7, Cond.code yX7_credits cX7_credits 4 (some .int), Cond.fieldLink RX7 35 "Creditfabric" "purse" "LCreditfabric$Credits;", Cond.methodLink RX7 156 yX7_checkLink, Cond.instanceMethod yX7_checkLink, Cond.selects RX7 yX7_checkLink yX7_checkLink, Cond.code yX7_checkLink cX7_checkLink 3 none, Cond.classLink RX7 209 "java/lang/IndexOutOfBoundsException", Cond.initialized "java/lang/IndexOutOfBoundsException", Cond.fieldLink RX7 12 "Creditfabric" "grid" "LCreditfabric$Grid;", Cond.methodLink RX7 92 yX7_checkSwitch, Cond.instanceMethod yX7_checkSwitch, Cond.selects RX7 yX7_checkSwitch yX7_checkSwitch, Cond.code yX7_checkSwitch cX7_checkSwitch 2 none, Cond.methodLink RX7 206 yX3_has, Cond.instanceMethod yX3_has, Cond.selects RX3 yX3_has yX3_has, Cond.initialized RX3, Cond.code yX3_has cX3_has 2 (some .boolean)]
def wsL_credits_r2 : List Cond := [Cond.methodLink RX3 34 yX3_size, Cond.instanceMethod yX3_size, Cond.selects RX3 yX3_size yX3_size, Cond.code yX3_size cX3_size 1 (some .int), Cond.fieldLink RX3 23 "Creditfabric$Grid" "columns" "I", Cond.fieldLink RX3 27 "Creditfabric$Grid" "rows" "I", Cond.methodLink RX7 214 yX3_behind, Cond.instanceMethod yX3_behind, Cond.selects RX3 yX3_behind yX3_behind, Cond.code yX3_behind cX3_behind 3 (some .int), Cond.fieldLink RX3 14 "Creditfabric$Grid" "columnOf" "LCreditfabric$Row;", Cond.fieldLink RX3 20 "Creditfabric$Grid" "rowOf" "LCreditfabric$Row;", Cond.methodLink RX3 38 yX5_at, Cond.instanceMethod yX5_at, Cond.selects RX5 yX5_at yX5_at, Cond.initialized RX5, Cond.code yX5_at cX5_at 2 (some .int), Cond.fieldLink RX5 7 "Creditfabric$Row" "numbers" "[I", Cond.methodLink RX7 97 yX7_checkLane, Cond.static yX7_checkLane, Cond.code yX7_checkLane cX7_checkLane 1 none, Cond.classLink RX7 77 "java/lang/IllegalArgumentException", Cond.initialized "java/lang/IllegalArgumentException", Cond.methodLink RX7 159 yX7_bufferBehind]
def wsL_credits_r3 : List Cond := [Cond.instanceMethod yX7_bufferBehind, Cond.selects RX7 yX7_bufferBehind yX7_bufferBehind, Cond.code yX7_bufferBehind cX7_bufferBehind 4 (some .int), Cond.methodLink RX7 102 yX7_bufferOf, Cond.static yX7_bufferOf, Cond.code yX7_bufferOf cX7_bufferOf 3 (some .int), Cond.methodLink RX7 162 yX2_there, Cond.instanceMethod yX2_there, Cond.selects RX2 yX2_there yX2_there, Cond.initialized RX2, Cond.code yX2_there cX2_there 2 (some .int), Cond.fieldLink RX2 14 "Creditfabric$Credits" "there" "LCreditfabric$Row;", Cond.methodLink RX2 33 yX5_at]
def wsL_credits : List Cond := .codeWith yL_credits cL_credits 6 (some .int) [(0, 12, 15, 18), (0, 12, 19, 13)] :: ((wsL_credits_r1 ++ (wsL_credits_r2 ++ wsL_credits_r3)) ++ wsX70 ++ wsX30 ++ wsX50 ++ wsX20 ++ (vx_atS RX7 213 "java/lang/IndexOutOfBoundsException" ["java/lang/RuntimeException", "java/lang/Exception"]).filter goodWord ++ (vx_atS RX7 81 "java/lang/IllegalArgumentException" ["java/lang/RuntimeException", "java/lang/Exception"]).filter goodWord)
def wsL_inBuffer_r1 : List Cond := [Cond.classLink RL 18 "java/lang/IndexOutOfBoundsException", Cond.classLink RL 13 "java/lang/IllegalArgumentException", Cond.methodLink RL 37 yX7_inBuffer, Cond.instanceMethod yX7_inBuffer, Cond.selects RX7 yX7_inBuffer yX7_inBuffer, Cond.initialized RX7, Cond.code yX7_inBuffer cX7_inBuffer 4 (some .int), Cond.classLink RX7 77 "java/lang/IllegalArgumentException", Cond.initialized "java/lang/IllegalArgumentException", Cond.fieldLink RX7 28 "Creditfabric" "buffers" "LCreditfabric$Buffers;", Cond.methodLink RX7 92 yX7_checkSwitch, Cond.instanceMethod yX7_checkSwitch, Cond.selects RX7 yX7_checkSwitch yX7_checkSwitch, Cond.code yX7_checkSwitch cX7_checkSwitch 2 none, Cond.classLink RX7 209 "java/lang/IndexOutOfBoundsException", Cond.initialized "java/lang/IndexOutOfBoundsException", Cond.fieldLink RX7 12 "Creditfabric" "grid" "LCreditfabric$Grid;", Cond.methodLink RX7 206 yX3_has, Cond.instanceMethod yX3_has, Cond.selects RX3 yX3_has yX3_has, Cond.initialized RX3, Cond.code yX3_has cX3_has 2 (some .boolean), Cond.methodLink RX3 34 yX3_size, Cond.instanceMethod yX3_size]
def wsL_inBuffer_r2 : List Cond := [Cond.selects RX3 yX3_size yX3_size, Cond.code yX3_size cX3_size 1 (some .int), Cond.fieldLink RX3 23 "Creditfabric$Grid" "columns" "I", Cond.fieldLink RX3 27 "Creditfabric$Grid" "rows" "I", Cond.methodLink RX7 97 yX7_checkLane, Cond.static yX7_checkLane, Cond.code yX7_checkLane cX7_checkLane 1 none, Cond.methodLink RX7 102 yX7_bufferOf, Cond.static yX7_bufferOf, Cond.code yX7_bufferOf cX7_bufferOf 3 (some .int), Cond.methodLink RX7 179 yX0_size, Cond.instanceMethod yX0_size, Cond.selects RX0 yX0_size yX0_size, Cond.initialized RX0, Cond.code yX0_size cX0_size 2 (some .int), Cond.fieldLink RX0 20 "Creditfabric$Buffers" "sizes" "LCreditfabric$Row;", Cond.methodLink RX0 30 yX5_at, Cond.instanceMethod yX5_at, Cond.selects RX5 yX5_at yX5_at, Cond.initialized RX5, Cond.code yX5_at cX5_at 2 (some .int), Cond.fieldLink RX5 7 "Creditfabric$Row" "numbers" "[I"]
def wsL_inBuffer : List Cond := .codeWith yL_inBuffer cL_inBuffer 6 (some .int) [(0, 12, 15, 18), (0, 12, 19, 13)] :: ((wsL_inBuffer_r1 ++ wsL_inBuffer_r2) ++ wsX70 ++ wsX30 ++ wsX00 ++ wsX50 ++ (vx_atS RX7 81 "java/lang/IllegalArgumentException" ["java/lang/RuntimeException", "java/lang/Exception"]).filter goodWord ++ (vx_atS RX7 213 "java/lang/IndexOutOfBoundsException" ["java/lang/RuntimeException", "java/lang/Exception"]).filter goodWord)
def wsL_gap_r1 : List Cond := [Cond.classLink RL 18 "java/lang/IndexOutOfBoundsException", Cond.methodLink RL 40 yX7_gap, Cond.instanceMethod yX7_gap, Cond.selects RX7 yX7_gap yX7_gap, Cond.initialized RX7, Cond.code yX7_gap cX7_gap 2 (some .int), Cond.fieldLink RX7 42 "Creditfabric" "senders" "LCreditfabric$Senders;", Cond.methodLink RX7 92 yX7_checkSwitch, Cond.instanceMethod yX7_checkSwitch, Cond.selects RX7 yX7_checkSwitch yX7_checkSwitch, Cond.code yX7_checkSwitch cX7_checkSwitch 2 none, Cond.classLink RX7 209 "java/lang/IndexOutOfBoundsException", Cond.initialized "java/lang/IndexOutOfBoundsException", Cond.fieldLink RX7 12 "Creditfabric" "grid" "LCreditfabric$Grid;", Cond.methodLink RX7 206 yX3_has, Cond.instanceMethod yX3_has, Cond.selects RX3 yX3_has yX3_has, Cond.initialized RX3, Cond.code yX3_has cX3_has 2 (some .boolean), Cond.methodLink RX3 34 yX3_size, Cond.instanceMethod yX3_size, Cond.selects RX3 yX3_size yX3_size, Cond.code yX3_size cX3_size 1 (some .int), Cond.fieldLink RX3 23 "Creditfabric$Grid" "columns" "I"]
def wsL_gap_r2 : List Cond := [Cond.fieldLink RX3 27 "Creditfabric$Grid" "rows" "I", Cond.methodLink RX7 181 yX6_gapOf, Cond.instanceMethod yX6_gapOf, Cond.selects RX6 yX6_gapOf yX6_gapOf, Cond.initialized RX6, Cond.code yX6_gapOf cX6_gapOf 2 (some .int), Cond.fieldLink RX6 14 "Creditfabric$Senders" "gaps" "LCreditfabric$Row;", Cond.methodLink RX6 26 yX5_at, Cond.instanceMethod yX5_at, Cond.selects RX5 yX5_at yX5_at, Cond.initialized RX5, Cond.code yX5_at cX5_at 2 (some .int), Cond.fieldLink RX5 7 "Creditfabric$Row" "numbers" "[I"]
def wsL_gap : List Cond := .codeWith yL_gap cL_gap 4 (some .int) [(0, 9, 12, 18)] :: ((wsL_gap_r1 ++ wsL_gap_r2) ++ wsX70 ++ wsX30 ++ wsX60 ++ wsX50 ++ (vx_atS RX7 213 "java/lang/IndexOutOfBoundsException" ["java/lang/RuntimeException", "java/lang/Exception"]).filter goodWord)
def wsL_placeOf : List Cond := .codeWith yL_placeOf cL_placeOf 4 (some .int) [(0, 9, 12, 18)] :: ([.classLink RL 18 "java/lang/IndexOutOfBoundsException", .methodLink RL 43 yX7_placeOf, .instanceMethod yX7_placeOf, .selects RX7 yX7_placeOf yX7_placeOf, .initialized RX7, .code yX7_placeOf cX7_placeOf 2 (some .int), .fieldLink RX7 21 "Creditfabric" "traffic" "LCreditfabric$Packets;", .methodLink RX7 184 yX7_checkPacket, .instanceMethod yX7_checkPacket, .selects RX7 yX7_checkPacket yX7_checkPacket, .code yX7_checkPacket cX7_checkPacket 2 none, .classLink RX7 209 "java/lang/IndexOutOfBoundsException", .initialized "java/lang/IndexOutOfBoundsException", .methodLink RX7 149 yX5_at, .instanceMethod yX5_at, .selects RX5 yX5_at yX5_at, .initialized RX5, .code yX5_at cX5_at 2 (some .int), .fieldLink RX5 7 "Creditfabric$Row" "numbers" "[I"] ++ wsX70 ++ wsX40 ++ wsX50 ++ (vx_atS RX7 213 "java/lang/IndexOutOfBoundsException" ["java/lang/RuntimeException", "java/lang/Exception"]).filter goodWord)
def wsL_hops : List Cond := .codeWith yL_hops cL_hops 4 (some .int) [(0, 9, 12, 18)] :: ([.classLink RL 18 "java/lang/IndexOutOfBoundsException", .methodLink RL 46 yX7_hops, .instanceMethod yX7_hops, .selects RX7 yX7_hops yX7_hops, .initialized RX7, .code yX7_hops cX7_hops 2 (some .int), .fieldLink RX7 21 "Creditfabric" "traffic" "LCreditfabric$Packets;", .methodLink RX7 184 yX7_checkPacket, .instanceMethod yX7_checkPacket, .selects RX7 yX7_checkPacket yX7_checkPacket, .code yX7_checkPacket cX7_checkPacket 2 none, .classLink RX7 209 "java/lang/IndexOutOfBoundsException", .initialized "java/lang/IndexOutOfBoundsException", .methodLink RX7 149 yX5_at, .instanceMethod yX5_at, .selects RX5 yX5_at yX5_at, .initialized RX5, .code yX5_at cX5_at 2 (some .int), .fieldLink RX5 7 "Creditfabric$Row" "numbers" "[I"] ++ wsX70 ++ wsX40 ++ wsX50 ++ (vx_atS RX7 213 "java/lang/IndexOutOfBoundsException" ["java/lang/RuntimeException", "java/lang/Exception"]).filter goodWord)
def wsL_isMarked : List Cond := .codeWith yL_isMarked cL_isMarked 4 (some .int) [(0, 16, 19, 18)] :: ([.classLink RL 18 "java/lang/IndexOutOfBoundsException", .methodLink RL 49 yX7_isMarked, .instanceMethod yX7_isMarked, .selects RX7 yX7_isMarked yX7_isMarked, .initialized RX7, .code yX7_isMarked cX7_isMarked 2 (some .boolean), .fieldLink RX7 21 "Creditfabric" "traffic" "LCreditfabric$Packets;", .methodLink RX7 184 yX7_checkPacket, .instanceMethod yX7_checkPacket, .selects RX7 yX7_checkPacket yX7_checkPacket, .code yX7_checkPacket cX7_checkPacket 2 none, .classLink RX7 209 "java/lang/IndexOutOfBoundsException", .initialized "java/lang/IndexOutOfBoundsException", .methodLink RX7 149 yX5_at, .instanceMethod yX5_at, .selects RX5 yX5_at yX5_at, .initialized RX5, .code yX5_at cX5_at 2 (some .int), .fieldLink RX5 7 "Creditfabric$Row" "numbers" "[I"] ++ wsX70 ++ wsX40 ++ wsX50 ++ (vx_atS RX7 213 "java/lang/IndexOutOfBoundsException" ["java/lang/RuntimeException", "java/lang/Exception"]).filter goodWord)
def wsL_wants_r1 : List Cond := [Cond.classLink RL 18 "java/lang/IndexOutOfBoundsException", Cond.methodLink RL 53 yX7_wants, Cond.instanceMethod yX7_wants, Cond.selects RX7 yX7_wants yX7_wants, Cond.initialized RX7, Cond.code yX7_wants cX7_wants 2 (some .int), Cond.fieldLink RX7 21 "Creditfabric" "traffic" "LCreditfabric$Packets;", Cond.methodLink RX7 184 yX7_checkPacket, Cond.instanceMethod yX7_checkPacket, Cond.selects RX7 yX7_checkPacket yX7_checkPacket, Cond.code yX7_checkPacket cX7_checkPacket 2 none, Cond.classLink RX7 209 "java/lang/IndexOutOfBoundsException", Cond.initialized "java/lang/IndexOutOfBoundsException", Cond.methodLink RX7 196 yX4_outputOf, Cond.instanceMethod yX4_outputOf, Cond.selects RX4 yX4_outputOf yX4_outputOf, Cond.initialized RX4, Cond.code yX4_outputOf cX4_outputOf 3 (some .int), Cond.fieldLink RX4 29 "Creditfabric$Packets" "places" "LCreditfabric$Row;", Cond.fieldLink RX4 41 "Creditfabric$Packets" "grid" "LCreditfabric$Grid;", Cond.fieldLink RX4 20 "Creditfabric$Packets" "goals" "LCreditfabric$Row;", Cond.fieldLink RX4 26 "Creditfabric$Packets" "modes" "LCreditfabric$Row;", Cond.methodLink RX4 56 yX5_at, Cond.instanceMethod yX5_at]
def wsL_wants_r2 : List Cond := [Cond.selects RX5 yX5_at yX5_at, Cond.initialized RX5, Cond.code yX5_at cX5_at 2 (some .int), Cond.fieldLink RX5 7 "Creditfabric$Row" "numbers" "[I", Cond.methodLink RX4 60 yX3_outputTowards, Cond.instanceMethod yX3_outputTowards, Cond.selects RX3 yX3_outputTowards yX3_outputTowards, Cond.initialized RX3, Cond.code yX3_outputTowards cX3_outputTowards 6 (some .int), Cond.fieldLink RX3 14 "Creditfabric$Grid" "columnOf" "LCreditfabric$Row;", Cond.fieldLink RX3 20 "Creditfabric$Grid" "rowOf" "LCreditfabric$Row;", Cond.methodLink RX3 38 yX5_at, Cond.methodLink RX3 42 yX3_stepTowards, Cond.static yX3_stepTowards, Cond.code yX3_stepTowards cX3_stepTowards 4 (some .int)]
def wsL_wants : List Cond := .codeWith yL_wants cL_wants 4 (some .int) [(0, 9, 12, 18)] :: ((wsL_wants_r1 ++ wsL_wants_r2) ++ wsX70 ++ wsX40 ++ wsX50 ++ wsX30 ++ (vx_atS RX7 213 "java/lang/IndexOutOfBoundsException" ["java/lang/RuntimeException", "java/lang/Exception"]).filter goodWord)
def wsL_law0_r1 : List Cond := [Cond.classLink RL 8 RX7, Cond.instantiable RX7 12, Cond.initialized RX7, Cond.classLink RL 57 RX8, Cond.instantiable RX8 26, Cond.initialized RX8, Cond.arrayClass .long, Cond.methodLink RL 56 yX7_init, Cond.instanceMethod yX7_init, Cond.code yX7_init cX7_init 1 none, Cond.methodLink RX7 3 objectInit, Cond.instanceMethod objectInit, Cond.code objectInit ⟨#[0xb1]⟩ 1 none, Cond.classLink RX7 9 RX3, Cond.instantiable RX3 4, Cond.initialized RX3, Cond.fieldLink RX7 12 "Creditfabric" "grid" "LCreditfabric$Grid;", Cond.classLink RX7 16 RX4, Cond.instantiable RX4 11, Cond.initialized RX4, Cond.fieldLink RX7 21 "Creditfabric" "traffic" "LCreditfabric$Packets;", Cond.classLink RX7 25 RX0, Cond.instantiable RX0 3, Cond.initialized RX0]
def wsL_law0_r2 : List Cond := [Cond.fieldLink RX7 28 "Creditfabric" "buffers" "LCreditfabric$Buffers;", Cond.classLink RX7 32 RX2, Cond.instantiable RX2 4, Cond.initialized RX2, Cond.fieldLink RX7 35 "Creditfabric" "purse" "LCreditfabric$Credits;", Cond.classLink RX7 39 RX6, Cond.instantiable RX6 2, Cond.initialized RX6, Cond.fieldLink RX7 42 "Creditfabric" "senders" "LCreditfabric$Senders;", Cond.classLink RX7 46 RX1, Cond.instantiable RX1 5, Cond.initialized RX1, Cond.fieldLink RX7 51 "Creditfabric" "circles" "LCreditfabric$Circles;", Cond.classLink RX7 55 RX5, Cond.instantiable RX5 1, Cond.initialized RX5, Cond.fieldLink RX7 60 "Creditfabric" "paused" "LCreditfabric$Row;", Cond.fieldLink RX7 64 "Creditfabric" "turns" "LCreditfabric$Row;", Cond.fieldLink RX7 67 "Creditfabric" "ready" "LCreditfabric$Row;", Cond.fieldLink RX7 70 "Creditfabric" "chosen" "LCreditfabric$Row;", Cond.instanceMethod yX3_init, Cond.code yX3_init cX3_init 1 none, Cond.methodLink RX3 3 objectInit, Cond.classLink RX3 9 RX5]
def wsL_law0_r3 : List Cond := [Cond.fieldLink RX3 14 "Creditfabric$Grid" "columnOf" "LCreditfabric$Row;", Cond.fieldLink RX3 20 "Creditfabric$Grid" "rowOf" "LCreditfabric$Row;", Cond.methodLink RX3 11 yX5_init, Cond.instanceMethod yX5_init, Cond.code yX5_init cX5_init 2 none, Cond.methodLink RX5 1 objectInit, Cond.arrayClass .int, Cond.fieldLink RX5 7 "Creditfabric$Row" "numbers" "[I", Cond.methodLink RX7 18 yX4_init, Cond.instanceMethod yX4_init, Cond.code yX4_init cX4_init 2 none, Cond.methodLink RX4 3 objectInit, Cond.classLink RX4 9 RX5, Cond.fieldLink RX4 14 "Creditfabric$Packets" "sources" "LCreditfabric$Row;", Cond.fieldLink RX4 20 "Creditfabric$Packets" "goals" "LCreditfabric$Row;", Cond.fieldLink RX4 23 "Creditfabric$Packets" "lanes" "LCreditfabric$Row;", Cond.fieldLink RX4 26 "Creditfabric$Packets" "modes" "LCreditfabric$Row;", Cond.fieldLink RX4 29 "Creditfabric$Packets" "places" "LCreditfabric$Row;", Cond.fieldLink RX4 32 "Creditfabric$Packets" "inputs" "LCreditfabric$Row;", Cond.fieldLink RX4 35 "Creditfabric$Packets" "hopsGone" "LCreditfabric$Row;", Cond.fieldLink RX4 38 "Creditfabric$Packets" "marks" "LCreditfabric$Row;", Cond.fieldLink RX4 41 "Creditfabric$Packets" "grid" "LCreditfabric$Grid;", Cond.methodLink RX4 11 yX5_init, Cond.instanceMethod yX0_init]
def wsL_law0_r4 : List Cond := [Cond.code yX0_init cX0_init 1 none, Cond.methodLink RX0 3 objectInit, Cond.classLink RX0 9 RX5, Cond.fieldLink RX0 14 "Creditfabric$Buffers" "slots" "LCreditfabric$Row;", Cond.fieldLink RX0 20 "Creditfabric$Buffers" "sizes" "LCreditfabric$Row;", Cond.methodLink RX0 11 yX5_init, Cond.instanceMethod yX2_init, Cond.code yX2_init cX2_init 1 none, Cond.methodLink RX2 3 objectInit, Cond.classLink RX2 9 RX5, Cond.fieldLink RX2 14 "Creditfabric$Credits" "there" "LCreditfabric$Row;", Cond.fieldLink RX2 20 "Creditfabric$Credits" "coming" "LCreditfabric$Row;", Cond.methodLink RX2 11 yX5_init, Cond.instanceMethod yX6_init, Cond.code yX6_init cX6_init 1 none, Cond.methodLink RX6 3 objectInit, Cond.classLink RX6 9 RX5, Cond.fieldLink RX6 14 "Creditfabric$Senders" "gaps" "LCreditfabric$Row;", Cond.fieldLink RX6 20 "Creditfabric$Senders" "lastTicks" "LCreditfabric$Row;", Cond.methodLink RX6 11 yX5_init, Cond.methodLink RX7 48 yX1_init, Cond.instanceMethod yX1_init, Cond.code yX1_init cX1_init 4 none, Cond.methodLink RX1 3 objectInit]
def wsL_law0_r5 : List Cond := [Cond.classLink RX1 9 RX5, Cond.fieldLink RX1 14 "Creditfabric$Circles" "awaited" "LCreditfabric$Row;", Cond.fieldLink RX1 20 "Creditfabric$Circles" "hangings" "LCreditfabric$Row;", Cond.fieldLink RX1 23 "Creditfabric$Circles" "grid" "LCreditfabric$Grid;", Cond.fieldLink RX1 27 "Creditfabric$Circles" "traffic" "LCreditfabric$Packets;", Cond.fieldLink RX1 31 "Creditfabric$Circles" "buffers" "LCreditfabric$Buffers;", Cond.methodLink RX1 11 yX5_init, Cond.methodLink RX7 57 yX5_init, Cond.methodLink RX7 73 yX7_layAnew, Cond.instanceMethod yX7_layAnew, Cond.selects RX7 yX7_layAnew yX7_layAnew, Cond.code yX7_layAnew cX7_layAnew 5 none, Cond.fieldLink RX7 115 "Creditfabric" "now" "I", Cond.methodLink RX7 223 yX3_lay, Cond.instanceMethod yX3_lay, Cond.selects RX3 yX3_lay yX3_lay, Cond.code yX3_lay cX3_lay 5 none, Cond.fieldLink RX3 23 "Creditfabric$Grid" "columns" "I", Cond.fieldLink RX3 27 "Creditfabric$Grid" "rows" "I", Cond.methodLink RX3 30 yX5_put, Cond.instanceMethod yX5_put, Cond.selects RX5 yX5_put yX5_put, Cond.code yX5_put cX5_put 3 none, Cond.methodLink RX7 226 yX4_clear]
def wsL_law0_r6 : List Cond := [Cond.instanceMethod yX4_clear, Cond.selects RX4 yX4_clear yX4_clear, Cond.code yX4_clear cX4_clear 1 none, Cond.fieldLink RX4 45 "Creditfabric$Packets" "count" "I", Cond.fieldLink RX4 49 "Creditfabric$Packets" "gone" "I", Cond.methodLink RX7 229 yX0_clear, Cond.instanceMethod yX0_clear, Cond.selects RX0 yX0_clear yX0_clear, Cond.code yX0_clear cX0_clear 2 none, Cond.fieldLink RX0 23 "Creditfabric$Buffers" "room" "I", Cond.methodLink RX0 27 yX5_fill, Cond.instanceMethod yX5_fill, Cond.selects RX5 yX5_fill yX5_fill, Cond.code yX5_fill cX5_fill 3 none, Cond.methodLink RX7 231 yX2_fill, Cond.instanceMethod yX2_fill, Cond.selects RX2 yX2_fill yX2_fill, Cond.code yX2_fill cX2_fill 3 none, Cond.fieldLink RX2 23 "Creditfabric$Credits" "delay" "I", Cond.fieldLink RX2 30 "Creditfabric$Credits" "comingInAll" "I", Cond.methodLink RX2 27 yX5_fill, Cond.methodLink RX7 234 yX6_clear, Cond.instanceMethod yX6_clear, Cond.selects RX6 yX6_clear yX6_clear]
def wsL_law0_r7 : List Cond := [Cond.code yX6_clear cX6_clear 1 none, Cond.methodLink RX6 23 yX5_fill, Cond.methodLink RX7 235 yX5_fill, Cond.methodLink RL 59 yX8_init, Cond.instanceMethod yX8_init, Cond.code yX8_init cX8_init 1 none, Cond.methodLink RX8 1 objectInit, Cond.fieldLink RX8 7 "CreditfabricModel" "columns" "I", Cond.fieldLink RX8 13 "CreditfabricModel" "rows" "I", Cond.fieldLink RX8 16 "CreditfabricModel" "room" "I", Cond.fieldLink RX8 19 "CreditfabricModel" "buffer" "[I", Cond.fieldLink RX8 23 "CreditfabricModel" "many" "[I", Cond.fieldLink RX8 26 "CreditfabricModel" "credit" "[I", Cond.fieldLink RX8 29 "CreditfabricModel" "coming" "[I", Cond.fieldLink RX8 32 "CreditfabricModel" "next" "[I", Cond.fieldLink RX8 35 "CreditfabricModel" "gap" "[I", Cond.fieldLink RX8 38 "CreditfabricModel" "last" "[I", Cond.arrayClass .boolean, Cond.fieldLink RX8 41 "CreditfabricModel" "isPaused" "[Z", Cond.fieldLink RX8 45 "CreditfabricModel" "goal" "[I", Cond.fieldLink RX8 48 "CreditfabricModel" "source" "[I", Cond.fieldLink RX8 51 "CreditfabricModel" "lane" "[I", Cond.fieldLink RX8 54 "CreditfabricModel" "mode" "[I", Cond.fieldLink RX8 57 "CreditfabricModel" "place" "[I"]
def wsL_law0_r8 : List Cond := [Cond.fieldLink RX8 60 "CreditfabricModel" "hops" "[I", Cond.fieldLink RX8 63 "CreditfabricModel" "isMarked" "[Z", Cond.fieldLink RX8 66 "CreditfabricModel" "chosen" "[I", Cond.fieldLink RX8 69 "CreditfabricModel" "hangs" "[Z", Cond.fieldLink RX8 72 "CreditfabricModel" "isGone" "[Z", Cond.methodLink RX8 75 yX8_begins, Cond.instanceMethod yX8_begins, Cond.selects RX8 yX8_begins yX8_begins, Cond.code yX8_begins cX8_begins 6 none, Cond.fieldLink RX8 97 "CreditfabricModel" "delay" "I", Cond.fieldLink RX8 100 "CreditfabricModel" "tick" "I", Cond.fieldLink RX8 82 "CreditfabricModel" "sent" "I", Cond.fieldLink RX8 103 "CreditfabricModel" "out" "I", Cond.methodLink RL 60 yL_begin, Cond.static yL_begin, Cond.initialized RL, Cond.codeWith yL_begin cL_begin 7 (some .int) [(0, 14, 17, 13)], Cond.classLink RL 13 "java/lang/IllegalArgumentException", Cond.methodLink RL 7 yX7_begin, Cond.instanceMethod yX7_begin, Cond.selects RX7 yX7_begin yX7_begin, Cond.code yX7_begin cX7_begin 5 (some .int), Cond.classLink RX7 77 "java/lang/IllegalArgumentException", Cond.initialized "java/lang/IllegalArgumentException"]
def wsL_law0_r9 : List Cond := [Cond.methodLink RX7 88 yX3_size, Cond.instanceMethod yX3_size, Cond.selects RX3 yX3_size yX3_size, Cond.code yX3_size cX3_size 1 (some .int), Cond.methodLink RL 65 yX8_begin, Cond.instanceMethod yX8_begin, Cond.selects RX8 yX8_begin yX8_begin, Cond.code yX8_begin cX8_begin 5 (some .int), Cond.methodLink RX8 89 yX8_isWithin, Cond.static yX8_isWithin, Cond.code yX8_isWithin cX8_isWithin 3 (some .boolean), Cond.methodLink RX8 106 yX8_goes, Cond.instanceMethod yX8_goes, Cond.selects RX8 yX8_goes yX8_goes, Cond.code yX8_goes cX8_goes 4 (some .boolean), Cond.fieldLink RX8 79 "CreditfabricModel" "thrown" "I", Cond.methodLink RL 66 yX8_thrown, Cond.instanceMethod yX8_thrown, Cond.selects RX8 yX8_thrown yX8_thrown, Cond.code yX8_thrown cX8_thrown 1 (some .int), Cond.methodLink RL 70 yL_send, Cond.static yL_send, Cond.codeWith yL_send cL_send 7 (some .int) [(0, 14, 17, 18), (0, 14, 21, 13), (0, 14, 25, 20)], Cond.classLink RL 18 "java/lang/IndexOutOfBoundsException"]
def wsL_law0_r10 : List Cond := [Cond.classLink RL 20 "java/lang/IllegalStateException", Cond.methodLink RL 15 yX7_send, Cond.instanceMethod yX7_send, Cond.selects RX7 yX7_send yX7_send, Cond.code yX7_send cX7_send 7 (some .int), Cond.classLink RX7 110 "java/lang/IllegalStateException", Cond.initialized "java/lang/IllegalStateException", Cond.methodLink RX7 92 yX7_checkSwitch, Cond.instanceMethod yX7_checkSwitch, Cond.selects RX7 yX7_checkSwitch yX7_checkSwitch, Cond.code yX7_checkSwitch cX7_checkSwitch 2 none, Cond.classLink RX7 209 "java/lang/IndexOutOfBoundsException", Cond.initialized "java/lang/IndexOutOfBoundsException", Cond.methodLink RX7 206 yX3_has, Cond.instanceMethod yX3_has, Cond.selects RX3 yX3_has yX3_has, Cond.code yX3_has cX3_has 2 (some .boolean), Cond.methodLink RX3 34 yX3_size, Cond.methodLink RX7 97 yX7_checkLane, Cond.static yX7_checkLane, Cond.code yX7_checkLane cX7_checkLane 1 none, Cond.methodLink RX7 102 yX7_bufferOf, Cond.static yX7_bufferOf, Cond.code yX7_bufferOf cX7_bufferOf 3 (some .int)]
def wsL_law0_r11 : List Cond := [Cond.methodLink RX7 106 yX0_isFull, Cond.instanceMethod yX0_isFull, Cond.selects RX0 yX0_isFull yX0_isFull, Cond.code yX0_isFull cX0_isFull 2 (some .boolean), Cond.methodLink RX0 30 yX5_at, Cond.instanceMethod yX5_at, Cond.selects RX5 yX5_at yX5_at, Cond.code yX5_at cX5_at 2 (some .int), Cond.methodLink RX7 119 yX6_isReady, Cond.instanceMethod yX6_isReady, Cond.selects RX6 yX6_isReady yX6_isReady, Cond.code yX6_isReady cX6_isReady 4 (some .boolean), Cond.methodLink RX6 26 yX5_at, Cond.methodLink RX7 130 yX4_add, Cond.instanceMethod yX4_add, Cond.selects RX4 yX4_add yX4_add, Cond.code yX4_add cX4_add 6 (some .int), Cond.methodLink RX4 52 yX5_put, Cond.methodLink RX7 134 yX0_append, Cond.instanceMethod yX0_append, Cond.selects RX0 yX0_append yX0_append, Cond.code yX0_append cX0_append 3 none, Cond.methodLink RX0 34 yX0_isFull, Cond.methodLink RX0 38 yX5_put]
def wsL_law0_r12 : List Cond := [Cond.methodLink RX0 42 yX5_add, Cond.instanceMethod yX5_add, Cond.selects RX5 yX5_add yX5_add, Cond.code yX5_add cX5_add 3 none, Cond.methodLink RX5 13 yX5_at, Cond.methodLink RX5 17 yX5_put, Cond.methodLink RX7 138 yX6_note, Cond.instanceMethod yX6_note, Cond.selects RX6 yX6_note yX6_note, Cond.code yX6_note cX6_note 3 none, Cond.methodLink RX6 30 yX5_put, Cond.methodLink RL 72 yX8_send, Cond.instanceMethod yX8_send, Cond.selects RX8 yX8_send yX8_send, Cond.code yX8_send cX8_send 8 (some .int), Cond.methodLink RX8 85 yX8_isSwitch, Cond.instanceMethod yX8_isSwitch, Cond.selects RX8 yX8_isSwitch yX8_isSwitch, Cond.code yX8_isSwitch cX8_isSwitch 2 (some .boolean), Cond.methodLink RX8 110 yX8_bufferOf, Cond.static yX8_bufferOf, Cond.code yX8_bufferOf cX8_bufferOf 3 (some .int), Cond.methodLink RX8 114 yX8_puts, Cond.instanceMethod yX8_puts]
def wsL_law0_r13 : List Cond := [Cond.selects RX8 yX8_puts yX8_puts, Cond.code yX8_puts cX8_puts 3 none, Cond.methodLink RL 73 yL_run, Cond.static yL_run, Cond.codeWith yL_run cL_run 4 (some .int) [(0, 9, 12, 13)], Cond.methodLink RL 22 yX7_run, Cond.instanceMethod yX7_run, Cond.selects RX7 yX7_run yX7_run, Cond.code yX7_run cX7_run 4 (some .int), Cond.methodLink RX7 146 yX7_runOne, Cond.instanceMethod yX7_runOne, Cond.selects RX7 yX7_runOne yX7_runOne, Cond.code yX7_runOne cX7_runOne 2 none, Cond.fieldLink RX7 240 "Creditfabric" "chosenCount" "I", Cond.methodLink RX7 237 yX2_comeBack, Cond.instanceMethod yX2_comeBack, Cond.selects RX2 yX2_comeBack yX2_comeBack, Cond.code yX2_comeBack cX2_comeBack 5 none, Cond.methodLink RX2 41 yX2_slotOf, Cond.static yX2_slotOf, Cond.code yX2_slotOf cX2_slotOf 2 (some .int), Cond.methodLink RX2 33 yX5_at, Cond.methodLink RX2 37 yX5_add, Cond.methodLink RX2 45 yX5_put]
def wsL_law0_r14 : List Cond := [Cond.methodLink RX7 243 yX7_chooseAt, Cond.instanceMethod yX7_chooseAt, Cond.selects RX7 yX7_chooseAt yX7_chooseAt, Cond.code yX7_chooseAt cX7_chooseAt 5 none, Cond.methodLink RX7 252 yX0_first, Cond.instanceMethod yX0_first, Cond.selects RX0 yX0_first yX0_first, Cond.code yX0_first cX0_first 2 (some .int), Cond.methodLink RX7 196 yX4_outputOf, Cond.instanceMethod yX4_outputOf, Cond.selects RX4 yX4_outputOf yX4_outputOf, Cond.code yX4_outputOf cX4_outputOf 3 (some .int), Cond.methodLink RX4 56 yX5_at, Cond.methodLink RX4 60 yX3_outputTowards, Cond.instanceMethod yX3_outputTowards, Cond.selects RX3 yX3_outputTowards yX3_outputTowards, Cond.code yX3_outputTowards cX3_outputTowards 6 (some .int), Cond.methodLink RX3 38 yX5_at, Cond.methodLink RX3 42 yX3_stepTowards, Cond.static yX3_stepTowards, Cond.code yX3_stepTowards cX3_stepTowards 4 (some .int), Cond.methodLink RX7 149 yX5_at, Cond.methodLink RX7 258 yX7_canGo, Cond.instanceMethod yX7_canGo]
def wsL_law0_r15 : List Cond := [Cond.selects RX7 yX7_canGo yX7_canGo, Cond.code yX7_canGo cX7_canGo 5 (some .boolean), Cond.methodLink RX7 214 yX3_behind, Cond.instanceMethod yX3_behind, Cond.selects RX3 yX3_behind yX3_behind, Cond.code yX3_behind cX3_behind 3 (some .int), Cond.methodLink RX7 162 yX2_there, Cond.instanceMethod yX2_there, Cond.selects RX2 yX2_there yX2_there, Cond.code yX2_there cX2_there 2 (some .int), Cond.methodLink RX7 153 yX5_put, Cond.methodLink RX7 262 yX7_takeTurn, Cond.instanceMethod yX7_takeTurn, Cond.selects RX7 yX7_takeTurn yX7_takeTurn, Cond.code yX7_takeTurn cX7_takeTurn 8 none, Cond.methodLink RX7 246 yX7_move, Cond.instanceMethod yX7_move, Cond.selects RX7 yX7_move yX7_move, Cond.code yX7_move cX7_move 7 none, Cond.methodLink RX7 269 yX0_removeFirst, Cond.instanceMethod yX0_removeFirst, Cond.selects RX0 yX0_removeFirst yX0_removeFirst, Cond.code yX0_removeFirst cX0_removeFirst 4 none, Cond.methodLink RX7 272 yX2_giveBack]
def wsL_law0_r16 : List Cond := [Cond.instanceMethod yX2_giveBack, Cond.selects RX2 yX2_giveBack yX2_giveBack, Cond.code yX2_giveBack cX2_giveBack 3 none, Cond.methodLink RX7 275 yX4_goOut, Cond.instanceMethod yX4_goOut, Cond.selects RX4 yX4_goOut yX4_goOut, Cond.code yX4_goOut cX4_goOut 2 none, Cond.methodLink RX7 281 yX6_adapt, Cond.instanceMethod yX6_adapt, Cond.selects RX6 yX6_adapt yX6_adapt, Cond.code yX6_adapt cX6_adapt 4 none, Cond.methodLink RX6 34 Lib.Math.min.name, Cond.static Lib.Math.min.name, Cond.initialized "java/lang/Math", Cond.code Lib.Math.min.name Lib.Math.min.code 2 (some .int), Cond.methodLink RX6 40 Lib.Math.max.name, Cond.static Lib.Math.max.name, Cond.code Lib.Math.max.name Lib.Math.max.code 2 (some .int), Cond.methodLink RX7 167 yX2_take, Cond.instanceMethod yX2_take, Cond.selects RX2 yX2_take yX2_take, Cond.code yX2_take cX2_take 2 none, Cond.methodLink RX7 285 yX4_goOver, Cond.instanceMethod yX4_goOver]
def wsL_law0_r17 : List Cond := [Cond.selects RX4 yX4_goOver yX4_goOver, Cond.code yX4_goOver cX4_goOver 4 none, Cond.methodLink RX4 66 yX5_add, Cond.methodLink RX7 249 yX7_markInCrowd, Cond.instanceMethod yX7_markInCrowd, Cond.selects RX7 yX7_markInCrowd yX7_markInCrowd, Cond.code yX7_markInCrowd cX7_markInCrowd 3 none, Cond.methodLink RX7 288 yX0_load, Cond.instanceMethod yX0_load, Cond.selects RX0 yX0_load yX0_load, Cond.code yX0_load cX0_load 4 (some .int), Cond.methodLink RL 76 yX8_run, Cond.instanceMethod yX8_run, Cond.selects RX8 yX8_run yX8_run, Cond.code yX8_run cX8_run 4 (some .int), Cond.methodLink RX8 143 yX8_ticks, Cond.instanceMethod yX8_ticks, Cond.selects RX8 yX8_ticks yX8_ticks, Cond.code yX8_ticks cX8_ticks 7 (some .int), Cond.methodLink RX8 131 yX8_comeBack, Cond.instanceMethod yX8_comeBack, Cond.selects RX8 yX8_comeBack yX8_comeBack, Cond.code yX8_comeBack cX8_comeBack 2 none, Cond.methodLink RX8 93 yX8_neighbour]
def wsL_law0_r18 : List Cond := [Cond.instanceMethod yX8_neighbour, Cond.selects RX8 yX8_neighbour yX8_neighbour, Cond.code yX8_neighbour cX8_neighbour 6 (some .int), Cond.methodLink RX8 134 yX8_chooses, Cond.instanceMethod yX8_chooses, Cond.selects RX8 yX8_chooses yX8_chooses, Cond.code yX8_chooses cX8_chooses 8 none, Cond.methodLink RX8 121 yX8_wanted, Cond.instanceMethod yX8_wanted, Cond.selects RX8 yX8_wanted yX8_wanted, Cond.code yX8_wanted cX8_wanted 9 (some .int), Cond.methodLink RX8 124 yX8_canGo, Cond.instanceMethod yX8_canGo, Cond.selects RX8 yX8_canGo yX8_canGo, Cond.code yX8_canGo cX8_canGo 4 (some .boolean), Cond.methodLink RX8 118 yX8_linkOf, Cond.static yX8_linkOf, Cond.code yX8_linkOf cX8_linkOf 3 (some .int), Cond.methodLink RX8 137 yX8_leaves, Cond.instanceMethod yX8_leaves, Cond.selects RX8 yX8_leaves yX8_leaves, Cond.code yX8_leaves cX8_leaves 8 none, Cond.methodLink RX8 127 yX8_takes, Cond.instanceMethod yX8_takes]
def wsL_law0_r19 : List Cond := [Cond.selects RX8 yX8_takes yX8_takes, Cond.code yX8_takes cX8_takes 4 (some .int), Cond.methodLink RX8 140 yX8_inSwitch, Cond.instanceMethod yX8_inSwitch, Cond.selects RX8 yX8_inSwitch yX8_inSwitch, Cond.code yX8_inSwitch cX8_inSwitch 4 (some .int), Cond.methodLink RL 77 yL_pause, Cond.static yL_pause, Cond.codeWith yL_pause cL_pause 5 (some .int) [(0, 17, 20, 18)], Cond.methodLink RL 26 yX7_pause, Cond.instanceMethod yX7_pause, Cond.selects RX7 yX7_pause yX7_pause, Cond.code yX7_pause cX7_pause 4 (some .boolean), Cond.methodLink RL 80 yX8_pause, Cond.instanceMethod yX8_pause, Cond.selects RX8 yX8_pause yX8_pause, Cond.code yX8_pause cX8_pause 4 (some .boolean), Cond.methodLink RL 81 yL_lose, Cond.static yL_lose, Cond.codeWith yL_lose cL_lose 6 (some .int) [(0, 12, 15, 18), (0, 12, 19, 13), (0, 12, 23, 20)], Cond.methodLink RL 30 yX7_lose, Cond.instanceMethod yX7_lose, Cond.selects RX7 yX7_lose yX7_lose, Cond.code yX7_lose cX7_lose 5 (some .int)]
def wsL_law0_r20 : List Cond := [Cond.methodLink RX7 156 yX7_checkLink, Cond.instanceMethod yX7_checkLink, Cond.selects RX7 yX7_checkLink yX7_checkLink, Cond.code yX7_checkLink cX7_checkLink 3 none, Cond.methodLink RX7 159 yX7_bufferBehind, Cond.instanceMethod yX7_bufferBehind, Cond.selects RX7 yX7_bufferBehind yX7_bufferBehind, Cond.code yX7_bufferBehind cX7_bufferBehind 4 (some .int), Cond.methodLink RL 84 yX8_lose, Cond.instanceMethod yX8_lose, Cond.selects RX8 yX8_lose yX8_lose, Cond.code yX8_lose cX8_lose 6 (some .int), Cond.methodLink RX8 147 yX8_isLink, Cond.instanceMethod yX8_isLink, Cond.selects RX8 yX8_isLink yX8_isLink, Cond.code yX8_isLink cX8_isLink 3 (some .boolean), Cond.methodLink RL 85 yX7_recover, Cond.instanceMethod yX7_recover, Cond.selects RX7 yX7_recover yX7_recover, Cond.code yX7_recover cX7_recover 5 (some .int), Cond.methodLink RX7 170 yX0_free, Cond.instanceMethod yX0_free, Cond.selects RX0 yX0_free yX0_free, Cond.code yX0_free cX0_free 2 (some .int)]
def wsL_law0_r21 : List Cond := [Cond.methodLink RX7 173 yX2_settle, Cond.instanceMethod yX2_settle, Cond.selects RX2 yX2_settle yX2_settle, Cond.code yX2_settle cX2_settle 5 (some .int), Cond.methodLink RL 88 yX8_recover, Cond.instanceMethod yX8_recover, Cond.selects RX8 yX8_recover yX8_recover, Cond.code yX8_recover cX8_recover 7 (some .int), Cond.methodLink RL 89 yX7_tick, Cond.instanceMethod yX7_tick, Cond.selects RX7 yX7_tick yX7_tick, Cond.code yX7_tick cX7_tick 1 (some .int), Cond.methodLink RL 92 yX8_tick, Cond.instanceMethod yX8_tick, Cond.selects RX8 yX8_tick yX8_tick, Cond.code yX8_tick cX8_tick 1 (some .int), Cond.methodLink RL 93 yX7_packets, Cond.instanceMethod yX7_packets, Cond.selects RX7 yX7_packets yX7_packets, Cond.code yX7_packets cX7_packets 1 (some .int), Cond.methodLink RL 96 yX8_packets, Cond.instanceMethod yX8_packets, Cond.selects RX8 yX8_packets yX8_packets, Cond.code yX8_packets cX8_packets 1 (some .int)]
def wsL_law0_r22 : List Cond := [Cond.methodLink RL 97 yX7_arrived, Cond.instanceMethod yX7_arrived, Cond.selects RX7 yX7_arrived yX7_arrived, Cond.code yX7_arrived cX7_arrived 1 (some .int), Cond.methodLink RL 100 yX8_arrived, Cond.instanceMethod yX8_arrived, Cond.selects RX8 yX8_arrived yX8_arrived, Cond.code yX8_arrived cX8_arrived 1 (some .int), Cond.methodLink RL 101 yL_credits, Cond.static yL_credits, Cond.codeWith yL_credits cL_credits 6 (some .int) [(0, 12, 15, 18), (0, 12, 19, 13)], Cond.methodLink RL 34 yX7_credits, Cond.instanceMethod yX7_credits, Cond.selects RX7 yX7_credits yX7_credits, Cond.code yX7_credits cX7_credits 4 (some .int), Cond.methodLink RL 103 yX8_credits, Cond.instanceMethod yX8_credits, Cond.selects RX8 yX8_credits yX8_credits, Cond.code yX8_credits cX8_credits 4 (some .int), Cond.methodLink RL 104 yL_inBuffer, Cond.static yL_inBuffer, Cond.codeWith yL_inBuffer cL_inBuffer 6 (some .int) [(0, 12, 15, 18), (0, 12, 19, 13)], Cond.methodLink RL 37 yX7_inBuffer, Cond.instanceMethod yX7_inBuffer]
def wsL_law0_r23 : List Cond := [Cond.selects RX7 yX7_inBuffer yX7_inBuffer, Cond.code yX7_inBuffer cX7_inBuffer 4 (some .int), Cond.methodLink RX7 179 yX0_size, Cond.instanceMethod yX0_size, Cond.selects RX0 yX0_size yX0_size, Cond.code yX0_size cX0_size 2 (some .int), Cond.methodLink RL 106 yX8_inBuffer, Cond.instanceMethod yX8_inBuffer, Cond.selects RX8 yX8_inBuffer yX8_inBuffer, Cond.code yX8_inBuffer cX8_inBuffer 4 (some .int), Cond.methodLink RL 107 yL_gap, Cond.static yL_gap, Cond.codeWith yL_gap cL_gap 4 (some .int) [(0, 9, 12, 18)], Cond.methodLink RL 40 yX7_gap, Cond.instanceMethod yX7_gap, Cond.selects RX7 yX7_gap yX7_gap, Cond.code yX7_gap cX7_gap 2 (some .int), Cond.methodLink RX7 181 yX6_gapOf, Cond.instanceMethod yX6_gapOf, Cond.selects RX6 yX6_gapOf yX6_gapOf, Cond.code yX6_gapOf cX6_gapOf 2 (some .int), Cond.methodLink RL 109 yX8_gap, Cond.instanceMethod yX8_gap, Cond.selects RX8 yX8_gap yX8_gap]
def wsL_law0_r24 : List Cond := [Cond.code yX8_gap cX8_gap 2 (some .int), Cond.methodLink RL 110 yL_placeOf, Cond.static yL_placeOf, Cond.codeWith yL_placeOf cL_placeOf 4 (some .int) [(0, 9, 12, 18)], Cond.methodLink RL 43 yX7_placeOf, Cond.instanceMethod yX7_placeOf, Cond.selects RX7 yX7_placeOf yX7_placeOf, Cond.code yX7_placeOf cX7_placeOf 2 (some .int), Cond.methodLink RX7 184 yX7_checkPacket, Cond.instanceMethod yX7_checkPacket, Cond.selects RX7 yX7_checkPacket yX7_checkPacket, Cond.code yX7_checkPacket cX7_checkPacket 2 none, Cond.methodLink RL 112 yX8_placeOf, Cond.instanceMethod yX8_placeOf, Cond.selects RX8 yX8_placeOf yX8_placeOf, Cond.code yX8_placeOf cX8_placeOf 2 (some .int), Cond.methodLink RX8 151 yX8_isPacket, Cond.instanceMethod yX8_isPacket, Cond.selects RX8 yX8_isPacket yX8_isPacket, Cond.code yX8_isPacket cX8_isPacket 2 (some .boolean), Cond.methodLink RL 113 yL_hops, Cond.static yL_hops, Cond.codeWith yL_hops cL_hops 4 (some .int) [(0, 9, 12, 18)], Cond.methodLink RL 46 yX7_hops]
def wsL_law0_r25 : List Cond := [Cond.instanceMethod yX7_hops, Cond.selects RX7 yX7_hops yX7_hops, Cond.code yX7_hops cX7_hops 2 (some .int), Cond.methodLink RL 115 yX8_hops, Cond.instanceMethod yX8_hops, Cond.selects RX8 yX8_hops yX8_hops, Cond.code yX8_hops cX8_hops 2 (some .int), Cond.methodLink RL 116 yL_isMarked, Cond.static yL_isMarked, Cond.codeWith yL_isMarked cL_isMarked 4 (some .int) [(0, 16, 19, 18)], Cond.methodLink RL 49 yX7_isMarked, Cond.instanceMethod yX7_isMarked, Cond.selects RX7 yX7_isMarked yX7_isMarked, Cond.code yX7_isMarked cX7_isMarked 2 (some .boolean), Cond.methodLink RL 118 yX8_isMarked, Cond.instanceMethod yX8_isMarked, Cond.selects RX8 yX8_isMarked yX8_isMarked, Cond.code yX8_isMarked cX8_isMarked 2 (some .boolean), Cond.methodLink RL 119 yL_wants, Cond.static yL_wants, Cond.codeWith yL_wants cL_wants 4 (some .int) [(0, 9, 12, 18)], Cond.methodLink RL 53 yX7_wants, Cond.instanceMethod yX7_wants, Cond.selects RX7 yX7_wants yX7_wants]
def wsL_law0_r26 : List Cond := [Cond.code yX7_wants cX7_wants 2 (some .int), Cond.methodLink RL 121 yX8_wants, Cond.instanceMethod yX8_wants, Cond.selects RX8 yX8_wants yX8_wants, Cond.code yX8_wants cX8_wants 2 (some .int), Cond.methodLink RL 122 yX7_circle, Cond.instanceMethod yX7_circle, Cond.selects RX7 yX7_circle yX7_circle, Cond.code yX7_circle cX7_circle 1 (some .int), Cond.methodLink RX7 199 yX1_countWaiting, Cond.instanceMethod yX1_countWaiting, Cond.selects RX1 yX1_countWaiting yX1_countWaiting, Cond.code yX1_countWaiting cX1_countWaiting 4 (some .int), Cond.methodLink RX1 35 yX3_size, Cond.methodLink RX1 41 yX1_awaitedBy, Cond.instanceMethod yX1_awaitedBy, Cond.selects RX1 yX1_awaitedBy yX1_awaitedBy, Cond.code yX1_awaitedBy cX1_awaitedBy 4 (some .int), Cond.methodLink RX1 53 yX0_first, Cond.methodLink RX1 63 yX5_at, Cond.methodLink RX1 66 yX4_outputOf, Cond.methodLink RX1 72 yX1_nextBuffer, Cond.instanceMethod yX1_nextBuffer, Cond.selects RX1 yX1_nextBuffer yX1_nextBuffer]
def wsL_law0_r27 : List Cond := [Cond.code yX1_nextBuffer cX1_nextBuffer 5 (some .int), Cond.methodLink RX1 108 yX3_behind, Cond.methodLink RX1 76 yX0_isFull, Cond.methodLink RX1 45 yX5_put, Cond.methodLink RX1 49 yX1_comesBack, Cond.instanceMethod yX1_comesBack, Cond.selects RX1 yX1_comesBack yX1_comesBack, Cond.code yX1_comesBack cX1_comesBack 4 (some .boolean), Cond.methodLink RL 125 yX8_circle, Cond.instanceMethod yX8_circle, Cond.selects RX8 yX8_circle yX8_circle, Cond.code yX8_circle cX8_circle 6 (some .int), Cond.methodLink RX8 154 yX8_waitsFor, Cond.instanceMethod yX8_waitsFor, Cond.selects RX8 yX8_waitsFor yX8_waitsFor, Cond.code yX8_waitsFor cX8_waitsFor 5 (some .int), Cond.methodLink RL 126 yX7_mayCircle, Cond.instanceMethod yX7_mayCircle, Cond.selects RX7 yX7_mayCircle yX7_mayCircle, Cond.code yX7_mayCircle cX7_mayCircle 1 (some .boolean), Cond.methodLink RX7 202 yX1_hangsTogether, Cond.instanceMethod yX1_hangsTogether, Cond.selects RX1 yX1_hangsTogether yX1_hangsTogether, Cond.code yX1_hangsTogether cX1_hangsTogether 3 (some .boolean)]
def wsL_law0_r28 : List Cond := [Cond.methodLink RX1 79 yX5_fill, Cond.methodLink RX1 86 yX1_hangAlong, Cond.instanceMethod yX1_hangAlong, Cond.selects RX1 yX1_hangAlong yX1_hangAlong, Cond.code yX1_hangAlong cX1_hangAlong 8 none, Cond.methodLink RX1 105 yX3_outputTowards, Cond.methodLink RX1 89 yX1_cutEnds, Cond.instanceMethod yX1_cutEnds, Cond.selects RX1 yX1_cutEnds yX1_cutEnds, Cond.code yX1_cutEnds cX1_cutEnds 5 (some .boolean), Cond.methodLink RX1 112 yX1_isEnd, Cond.instanceMethod yX1_isEnd, Cond.selects RX1 yX1_isEnd yX1_isEnd, Cond.code yX1_isEnd cX1_isEnd 6 (some .boolean), Cond.methodLink RL 130 yX8_mayCircle, Cond.instanceMethod yX8_mayCircle, Cond.selects RX8 yX8_mayCircle yX8_mayCircle, Cond.code yX8_mayCircle cX8_mayCircle 7 (some .boolean), Cond.methodLink RX8 157 yX8_lays, Cond.instanceMethod yX8_lays, Cond.selects RX8 yX8_lays yX8_lays, Cond.code yX8_lays cX8_lays 7 none]
def wsL_law0 : List Cond := (wsL_law0_r1 ++ (wsL_law0_r2 ++ (wsL_law0_r3 ++ (wsL_law0_r4 ++ (wsL_law0_r5 ++ (wsL_law0_r6 ++ (wsL_law0_r7 ++ (wsL_law0_r8 ++ (wsL_law0_r9 ++ (wsL_law0_r10 ++ (wsL_law0_r11 ++ (wsL_law0_r12 ++ (wsL_law0_r13 ++ (wsL_law0_r14 ++ (wsL_law0_r15 ++ (wsL_law0_r16 ++ (wsL_law0_r17 ++ (wsL_law0_r18 ++ (wsL_law0_r19 ++ (wsL_law0_r20 ++ (wsL_law0_r21 ++ (wsL_law0_r22 ++ (wsL_law0_r23 ++ (wsL_law0_r24 ++ (wsL_law0_r25 ++ (wsL_law0_r26 ++ (wsL_law0_r27 ++ wsL_law0_r28))))))))))))))))))))))))))) ++ wsX70 ++ wsX80 ++ wsX30 ++ wsX40 ++ wsX00 ++ wsX20 ++ wsX60 ++ wsX10 ++ wsX50 ++ ([] : List Cond)
def wsL_law : List Cond := wsL_law0 ++ (vx_atS RX7 81 "java/lang/IllegalArgumentException" ["java/lang/RuntimeException", "java/lang/Exception"]).filter goodWord ++ (vx_atS RX7 114 "java/lang/IllegalStateException" ["java/lang/RuntimeException", "java/lang/Exception"]).filter goodWord ++ (vx_atS RX7 213 "java/lang/IndexOutOfBoundsException" ["java/lang/RuntimeException", "java/lang/Exception"]).filter goodWord
abbrev vwCl : List vw_C := [(RX0, TX0, 3), (RX1, TX1, 5), (RX2, TX2, 4), (RX3, TX3, 4), (RX4, TX4, 11), (RX5, TX5, 1), (RX6, TX6, 2), (RX7, TX7, 12), (RX8, TX8, 26)]
end
section
set_option maxRecDepth 20000 in
theorem ggX0_init_X5_init : GoodIn wsX0_init wsX5_init := goodIn_r _ [11, 12, 2, 3, 13, 14, 15] (by decide +kernel) (by decide +kernel)
set_option maxRecDepth 20000 in
theorem gX0_init_X5_init : GoodIn wsX0_init (wsX5_init) := ggX0_init_X5_init
theorem dX0_init_0 : decode cX0_init 0 = .ok (.aload_n 0, 1) := by decide +kernel
theorem dX0_init_1 : decode cX0_init 1 = .ok (.invokespecial 3, 3) := by decide +kernel
theorem dX0_init_4 : decode cX0_init 4 = .ok (.aload_n 0, 1) := by decide +kernel
theorem dX0_init_5 : decode cX0_init 5 = .ok (.new 9, 3) := by decide +kernel
theorem dX0_init_8 : decode cX0_init 8 = .ok (.dup, 1) := by decide +kernel
theorem dX0_init_9 : decode cX0_init 9 = .ok (.sipush 480, 3) := by decide +kernel
theorem dX0_init_12 : decode cX0_init 12 = .ok (.invokespecial 11, 3) := by decide +kernel
theorem dX0_init_15 : decode cX0_init 15 = .ok (.putfield 14, 3) := by decide +kernel
theorem dX0_init_18 : decode cX0_init 18 = .ok (.aload_n 0, 1) := by decide +kernel
theorem dX0_init_19 : decode cX0_init 19 = .ok (.new 9, 3) := by decide +kernel
theorem dX0_init_22 : decode cX0_init 22 = .ok (.dup, 1) := by decide +kernel
theorem dX0_init_23 : decode cX0_init 23 = .ok (.sipush 160, 3) := by decide +kernel
theorem dX0_init_26 : decode cX0_init 26 = .ok (.invokespecial 11, 3) := by decide +kernel
theorem dX0_init_29 : decode cX0_init 29 = .ok (.putfield 20, 3) := by decide +kernel
theorem dX0_init_32 : decode cX0_init 32 = .ok (.return_, 1) := by decide +kernel
set_option maxRecDepth 20000 in
theorem ggX0_clear_X5_fill : GoodIn wsX0_clear wsX5_fill := goodIn_r _ [7, 8, 12] (by decide +kernel) (by decide +kernel)
set_option maxRecDepth 20000 in
theorem gX0_clear_X5_fill : GoodIn wsX0_clear (wsV RX0 27 RX5 yX5_fill wsX5_fill) := goodIn_app (goodIn_of _ (by decide +kernel)) ggX0_clear_X5_fill
theorem dX0_clear_0 : decode cX0_clear 0 = .ok (.aload_n 0, 1) := by decide +kernel
theorem dX0_clear_1 : decode cX0_clear 1 = .ok (.iload_n 1, 1) := by decide +kernel
theorem dX0_clear_2 : decode cX0_clear 2 = .ok (.putfield 23, 3) := by decide +kernel
theorem dX0_clear_5 : decode cX0_clear 5 = .ok (.aload_n 0, 1) := by decide +kernel
theorem dX0_clear_6 : decode cX0_clear 6 = .ok (.getfield 20, 3) := by decide +kernel
theorem dX0_clear_9 : decode cX0_clear 9 = .ok (.iconst 0, 1) := by decide +kernel
theorem dX0_clear_10 : decode cX0_clear 10 = .ok (.invokevirtual 27, 3) := by decide +kernel
theorem dX0_clear_13 : decode cX0_clear 13 = .ok (.return_, 1) := by decide +kernel
set_option maxRecDepth 20000 in
theorem ggX0_size_X5_at : GoodIn wsX0_size wsX5_at := goodIn_r _ [6, 7, 11] (by decide +kernel) (by decide +kernel)
set_option maxRecDepth 20000 in
theorem gX0_size_X5_at : GoodIn wsX0_size (wsV RX0 30 RX5 yX5_at wsX5_at) := goodIn_app (goodIn_of _ (by decide +kernel)) ggX0_size_X5_at
theorem dX0_size_0 : decode cX0_size 0 = .ok (.aload_n 0, 1) := by decide +kernel
theorem dX0_size_1 : decode cX0_size 1 = .ok (.getfield 20, 3) := by decide +kernel
theorem dX0_size_4 : decode cX0_size 4 = .ok (.iload_n 1, 1) := by decide +kernel
theorem dX0_size_5 : decode cX0_size 5 = .ok (.invokevirtual 30, 3) := by decide +kernel
theorem dX0_size_8 : decode cX0_size 8 = .ok (.ireturn, 1) := by decide +kernel
set_option maxRecDepth 20000 in
theorem ggX0_free_X5_at : GoodIn wsX0_free wsX5_at := goodIn_r _ [7, 8, 12] (by decide +kernel) (by decide +kernel)
set_option maxRecDepth 20000 in
theorem gX0_free_X5_at : GoodIn wsX0_free (wsV RX0 30 RX5 yX5_at wsX5_at) := goodIn_app (goodIn_of _ (by decide +kernel)) ggX0_free_X5_at
theorem dX0_free_0 : decode cX0_free 0 = .ok (.aload_n 0, 1) := by decide +kernel
theorem dX0_free_1 : decode cX0_free 1 = .ok (.getfield 23, 3) := by decide +kernel
theorem dX0_free_4 : decode cX0_free 4 = .ok (.aload_n 0, 1) := by decide +kernel
theorem dX0_free_5 : decode cX0_free 5 = .ok (.getfield 20, 3) := by decide +kernel
theorem dX0_free_8 : decode cX0_free 8 = .ok (.iload_n 1, 1) := by decide +kernel
theorem dX0_free_9 : decode cX0_free 9 = .ok (.invokevirtual 30, 3) := by decide +kernel
theorem dX0_free_12 : decode cX0_free 12 = .ok (.isub, 1) := by decide +kernel
theorem dX0_free_13 : decode cX0_free 13 = .ok (.ireturn, 1) := by decide +kernel
set_option maxRecDepth 20000 in
theorem ggX0_isFull_X5_at : GoodIn wsX0_isFull wsX5_at := goodIn_r _ [7, 8, 12] (by decide +kernel) (by decide +kernel)
set_option maxRecDepth 20000 in
theorem gX0_isFull_X5_at : GoodIn wsX0_isFull (wsV RX0 30 RX5 yX5_at wsX5_at) := goodIn_app (goodIn_of _ (by decide +kernel)) ggX0_isFull_X5_at
theorem dX0_isFull_0 : decode cX0_isFull 0 = .ok (.aload_n 0, 1) := by decide +kernel
theorem dX0_isFull_1 : decode cX0_isFull 1 = .ok (.getfield 20, 3) := by decide +kernel
theorem dX0_isFull_4 : decode cX0_isFull 4 = .ok (.iload_n 1, 1) := by decide +kernel
theorem dX0_isFull_5 : decode cX0_isFull 5 = .ok (.invokevirtual 30, 3) := by decide +kernel
theorem dX0_isFull_8 : decode cX0_isFull 8 = .ok (.aload_n 0, 1) := by decide +kernel
theorem dX0_isFull_9 : decode cX0_isFull 9 = .ok (.getfield 23, 3) := by decide +kernel
theorem dX0_isFull_12 : decode cX0_isFull 12 = .ok (.if_icmp .lt 7, 3) := by decide +kernel
theorem dX0_isFull_15 : decode cX0_isFull 15 = .ok (.iconst 1, 1) := by decide +kernel
theorem dX0_isFull_16 : decode cX0_isFull 16 = .ok (.goto 4, 3) := by decide +kernel
theorem dX0_isFull_19 : decode cX0_isFull 19 = .ok (.iconst 0, 1) := by decide +kernel
theorem dX0_isFull_20 : decode cX0_isFull 20 = .ok (.ireturn, 1) := by decide +kernel
set_option maxRecDepth 20000 in
theorem ggX0_first_X5_at : GoodIn wsX0_first wsX5_at := goodIn_r _ [7, 8, 12] (by decide +kernel) (by decide +kernel)
set_option maxRecDepth 20000 in
theorem gX0_first_X5_at : GoodIn wsX0_first (wsV RX0 30 RX5 yX5_at wsX5_at) := goodIn_app (goodIn_of _ (by decide +kernel)) ggX0_first_X5_at
theorem dX0_first_0 : decode cX0_first 0 = .ok (.aload_n 0, 1) := by decide +kernel
theorem dX0_first_1 : decode cX0_first 1 = .ok (.getfield 20, 3) := by decide +kernel
theorem dX0_first_4 : decode cX0_first 4 = .ok (.iload_n 1, 1) := by decide +kernel
theorem dX0_first_5 : decode cX0_first 5 = .ok (.invokevirtual 30, 3) := by decide +kernel
theorem dX0_first_8 : decode cX0_first 8 = .ok (.ifCond .le 16, 3) := by decide +kernel
theorem dX0_first_11 : decode cX0_first 11 = .ok (.aload_n 0, 1) := by decide +kernel
theorem dX0_first_12 : decode cX0_first 12 = .ok (.getfield 14, 3) := by decide +kernel
theorem dX0_first_15 : decode cX0_first 15 = .ok (.iload_n 1, 1) := by decide +kernel
theorem dX0_first_16 : decode cX0_first 16 = .ok (.iconst 3, 1) := by decide +kernel
theorem dX0_first_17 : decode cX0_first 17 = .ok (.imul, 1) := by decide +kernel
theorem dX0_first_18 : decode cX0_first 18 = .ok (.invokevirtual 30, 3) := by decide +kernel
theorem dX0_first_21 : decode cX0_first 21 = .ok (.goto 4, 3) := by decide +kernel
theorem dX0_first_24 : decode cX0_first 24 = .ok (.iconst (-1), 1) := by decide +kernel
theorem dX0_first_25 : decode cX0_first 25 = .ok (.ireturn, 1) := by decide +kernel
set_option maxRecDepth 20000 in
theorem ggX0_append_X0_isFull : GoodIn wsX0_append wsX0_isFull := goodIn_r _ [7, 2, 8, 9, 10, 11, 12, 13, 14, 25, 26, 27, 28] (by decide +kernel) (by decide +kernel)
set_option maxRecDepth 20000 in
theorem gX0_append_X0_isFull : GoodIn wsX0_append (wsV RX0 34 RX0 yX0_isFull wsX0_isFull) := goodIn_app (goodIn_of _ (by decide +kernel)) ggX0_append_X0_isFull
set_option maxRecDepth 20000 in
theorem ggX0_append_X5_at : GoodIn wsX0_append wsX5_at := goodIn_r _ [13, 14, 28] (by decide +kernel) (by decide +kernel)
set_option maxRecDepth 20000 in
theorem gX0_append_X5_at : GoodIn wsX0_append (wsV RX0 30 RX5 yX5_at wsX5_at) := goodIn_app (goodIn_of _ (by decide +kernel)) ggX0_append_X5_at
set_option maxRecDepth 20000 in
theorem ggX0_append_X5_put : GoodIn wsX0_append wsX5_put := goodIn_r _ [18, 14, 28] (by decide +kernel) (by decide +kernel)
set_option maxRecDepth 20000 in
theorem gX0_append_X5_put : GoodIn wsX0_append (wsV RX0 38 RX5 yX5_put wsX5_put) := goodIn_app (goodIn_of _ (by decide +kernel)) ggX0_append_X5_put
set_option maxRecDepth 20000 in
theorem ggX0_append_X5_add : GoodIn wsX0_append wsX5_add := goodIn_r _ [22, 23, 10, 11, 12, 13, 14, 24, 16, 17, 18, 28] (by decide +kernel) (by decide +kernel)
set_option maxRecDepth 20000 in
theorem gX0_append_X5_add : GoodIn wsX0_append (wsV RX0 42 RX5 yX5_add wsX5_add) := goodIn_app (goodIn_of _ (by decide +kernel)) ggX0_append_X5_add
theorem dX0_append_0 : decode cX0_append 0 = .ok (.aload_n 0, 1) := by decide +kernel
theorem dX0_append_1 : decode cX0_append 1 = .ok (.iload_n 1, 1) := by decide +kernel
theorem dX0_append_2 : decode cX0_append 2 = .ok (.invokevirtual 34, 3) := by decide +kernel
theorem dX0_append_5 : decode cX0_append 5 = .ok (.ifCond .ne 32, 3) := by decide +kernel
theorem dX0_append_8 : decode cX0_append 8 = .ok (.aload_n 0, 1) := by decide +kernel
theorem dX0_append_9 : decode cX0_append 9 = .ok (.getfield 14, 3) := by decide +kernel
theorem dX0_append_12 : decode cX0_append 12 = .ok (.iload_n 1, 1) := by decide +kernel
theorem dX0_append_13 : decode cX0_append 13 = .ok (.iconst 3, 1) := by decide +kernel
theorem dX0_append_14 : decode cX0_append 14 = .ok (.imul, 1) := by decide +kernel
theorem dX0_append_15 : decode cX0_append 15 = .ok (.aload_n 0, 1) := by decide +kernel
theorem dX0_append_16 : decode cX0_append 16 = .ok (.getfield 20, 3) := by decide +kernel
theorem dX0_append_19 : decode cX0_append 19 = .ok (.iload_n 1, 1) := by decide +kernel
theorem dX0_append_20 : decode cX0_append 20 = .ok (.invokevirtual 30, 3) := by decide +kernel
theorem dX0_append_23 : decode cX0_append 23 = .ok (.iadd, 1) := by decide +kernel
theorem dX0_append_24 : decode cX0_append 24 = .ok (.iload_n 2, 1) := by decide +kernel
theorem dX0_append_25 : decode cX0_append 25 = .ok (.invokevirtual 38, 3) := by decide +kernel
theorem dX0_append_28 : decode cX0_append 28 = .ok (.aload_n 0, 1) := by decide +kernel
theorem dX0_append_29 : decode cX0_append 29 = .ok (.getfield 20, 3) := by decide +kernel
theorem dX0_append_32 : decode cX0_append 32 = .ok (.iload_n 1, 1) := by decide +kernel
theorem dX0_append_33 : decode cX0_append 33 = .ok (.iconst 1, 1) := by decide +kernel
theorem dX0_append_34 : decode cX0_append 34 = .ok (.invokevirtual 42, 3) := by decide +kernel
theorem dX0_append_37 : decode cX0_append 37 = .ok (.return_, 1) := by decide +kernel
set_option maxRecDepth 20000 in
theorem ggX0_removeFirst_X5_at : GoodIn wsX0_removeFirst wsX5_at := goodIn_r _ [7, 8, 22] (by decide +kernel) (by decide +kernel)
set_option maxRecDepth 20000 in
theorem gX0_removeFirst_X5_at : GoodIn wsX0_removeFirst (wsV RX0 30 RX5 yX5_at wsX5_at) := goodIn_app (goodIn_of _ (by decide +kernel)) ggX0_removeFirst_X5_at
set_option maxRecDepth 20000 in
theorem ggX0_removeFirst_X5_put : GoodIn wsX0_removeFirst wsX5_put := goodIn_r _ [12, 8, 22] (by decide +kernel) (by decide +kernel)
set_option maxRecDepth 20000 in
theorem gX0_removeFirst_X5_put : GoodIn wsX0_removeFirst (wsV RX0 38 RX5 yX5_put wsX5_put) := goodIn_app (goodIn_of _ (by decide +kernel)) ggX0_removeFirst_X5_put
set_option maxRecDepth 20000 in
theorem ggX0_removeFirst_X5_add : GoodIn wsX0_removeFirst wsX5_add := goodIn_r _ [16, 17, 4, 5, 6, 7, 8, 18, 10, 11, 12, 22] (by decide +kernel) (by decide +kernel)
set_option maxRecDepth 20000 in
theorem gX0_removeFirst_X5_add : GoodIn wsX0_removeFirst (wsV RX0 42 RX5 yX5_add wsX5_add) := goodIn_app (goodIn_of _ (by decide +kernel)) ggX0_removeFirst_X5_add
theorem dX0_removeFirst_0 : decode cX0_removeFirst 0 = .ok (.aload_n 0, 1) := by decide +kernel
theorem dX0_removeFirst_1 : decode cX0_removeFirst 1 = .ok (.getfield 20, 3) := by decide +kernel
theorem dX0_removeFirst_4 : decode cX0_removeFirst 4 = .ok (.iload_n 1, 1) := by decide +kernel
theorem dX0_removeFirst_5 : decode cX0_removeFirst 5 = .ok (.invokevirtual 30, 3) := by decide +kernel
theorem dX0_removeFirst_8 : decode cX0_removeFirst 8 = .ok (.ifCond .le 58, 3) := by decide +kernel
theorem dX0_removeFirst_11 : decode cX0_removeFirst 11 = .ok (.iload_n 1, 1) := by decide +kernel
theorem dX0_removeFirst_12 : decode cX0_removeFirst 12 = .ok (.iconst 3, 1) := by decide +kernel
theorem dX0_removeFirst_13 : decode cX0_removeFirst 13 = .ok (.imul, 1) := by decide +kernel
theorem dX0_removeFirst_14 : decode cX0_removeFirst 14 = .ok (.istore_n 2, 1) := by decide +kernel
theorem dX0_removeFirst_15 : decode cX0_removeFirst 15 = .ok (.iload_n 2, 1) := by decide +kernel
theorem dX0_removeFirst_16 : decode cX0_removeFirst 16 = .ok (.iconst 1, 1) := by decide +kernel
theorem dX0_removeFirst_17 : decode cX0_removeFirst 17 = .ok (.iadd, 1) := by decide +kernel
theorem dX0_removeFirst_18 : decode cX0_removeFirst 18 = .ok (.istore_n 3, 1) := by decide +kernel
theorem dX0_removeFirst_19 : decode cX0_removeFirst 19 = .ok (.iload_n 3, 1) := by decide +kernel
theorem dX0_removeFirst_20 : decode cX0_removeFirst 20 = .ok (.iload_n 2, 1) := by decide +kernel
theorem dX0_removeFirst_21 : decode cX0_removeFirst 21 = .ok (.aload_n 0, 1) := by decide +kernel
theorem dX0_removeFirst_22 : decode cX0_removeFirst 22 = .ok (.getfield 20, 3) := by decide +kernel
theorem dX0_removeFirst_25 : decode cX0_removeFirst 25 = .ok (.iload_n 1, 1) := by decide +kernel
theorem dX0_removeFirst_26 : decode cX0_removeFirst 26 = .ok (.invokevirtual 30, 3) := by decide +kernel
theorem dX0_removeFirst_29 : decode cX0_removeFirst 29 = .ok (.iadd, 1) := by decide +kernel
theorem dX0_removeFirst_30 : decode cX0_removeFirst 30 = .ok (.if_icmp .ge 27, 3) := by decide +kernel
theorem dX0_removeFirst_33 : decode cX0_removeFirst 33 = .ok (.aload_n 0, 1) := by decide +kernel
theorem dX0_removeFirst_34 : decode cX0_removeFirst 34 = .ok (.getfield 14, 3) := by decide +kernel
theorem dX0_removeFirst_37 : decode cX0_removeFirst 37 = .ok (.iload_n 3, 1) := by decide +kernel
theorem dX0_removeFirst_38 : decode cX0_removeFirst 38 = .ok (.iconst 1, 1) := by decide +kernel
theorem dX0_removeFirst_39 : decode cX0_removeFirst 39 = .ok (.isub, 1) := by decide +kernel
theorem dX0_removeFirst_40 : decode cX0_removeFirst 40 = .ok (.aload_n 0, 1) := by decide +kernel
theorem dX0_removeFirst_41 : decode cX0_removeFirst 41 = .ok (.getfield 14, 3) := by decide +kernel
theorem dX0_removeFirst_44 : decode cX0_removeFirst 44 = .ok (.iload_n 3, 1) := by decide +kernel
theorem dX0_removeFirst_45 : decode cX0_removeFirst 45 = .ok (.invokevirtual 30, 3) := by decide +kernel
theorem dX0_removeFirst_48 : decode cX0_removeFirst 48 = .ok (.invokevirtual 38, 3) := by decide +kernel
theorem dX0_removeFirst_51 : decode cX0_removeFirst 51 = .ok (.iinc 3 1, 3) := by decide +kernel
theorem dX0_removeFirst_54 : decode cX0_removeFirst 54 = .ok (.goto (-35), 3) := by decide +kernel
theorem dX0_removeFirst_57 : decode cX0_removeFirst 57 = .ok (.aload_n 0, 1) := by decide +kernel
theorem dX0_removeFirst_58 : decode cX0_removeFirst 58 = .ok (.getfield 20, 3) := by decide +kernel
theorem dX0_removeFirst_61 : decode cX0_removeFirst 61 = .ok (.iload_n 1, 1) := by decide +kernel
theorem dX0_removeFirst_62 : decode cX0_removeFirst 62 = .ok (.iconst (-1), 1) := by decide +kernel
theorem dX0_removeFirst_63 : decode cX0_removeFirst 63 = .ok (.invokevirtual 42, 3) := by decide +kernel
theorem dX0_removeFirst_66 : decode cX0_removeFirst 66 = .ok (.return_, 1) := by decide +kernel
set_option maxRecDepth 20000 in
theorem ggX0_load_X5_at : GoodIn wsX0_load wsX5_at := goodIn_r _ [6, 7, 11] (by decide +kernel) (by decide +kernel)
set_option maxRecDepth 20000 in
theorem gX0_load_X5_at : GoodIn wsX0_load (wsV RX0 30 RX5 yX5_at wsX5_at) := goodIn_app (goodIn_of _ (by decide +kernel)) ggX0_load_X5_at
theorem dX0_load_0 : decode cX0_load 0 = .ok (.iconst 0, 1) := by decide +kernel
theorem dX0_load_1 : decode cX0_load 1 = .ok (.istore_n 2, 1) := by decide +kernel
theorem dX0_load_2 : decode cX0_load 2 = .ok (.iconst 0, 1) := by decide +kernel
theorem dX0_load_3 : decode cX0_load 3 = .ok (.istore_n 3, 1) := by decide +kernel
theorem dX0_load_4 : decode cX0_load 4 = .ok (.iload_n 3, 1) := by decide +kernel
theorem dX0_load_5 : decode cX0_load 5 = .ok (.bipush 10, 2) := by decide +kernel
theorem dX0_load_7 : decode cX0_load 7 = .ok (.if_icmp .ge 25, 3) := by decide +kernel
theorem dX0_load_10 : decode cX0_load 10 = .ok (.iload_n 2, 1) := by decide +kernel
theorem dX0_load_11 : decode cX0_load 11 = .ok (.aload_n 0, 1) := by decide +kernel
theorem dX0_load_12 : decode cX0_load 12 = .ok (.getfield 20, 3) := by decide +kernel
theorem dX0_load_15 : decode cX0_load 15 = .ok (.iload_n 1, 1) := by decide +kernel
theorem dX0_load_16 : decode cX0_load 16 = .ok (.bipush 10, 2) := by decide +kernel
theorem dX0_load_18 : decode cX0_load 18 = .ok (.imul, 1) := by decide +kernel
theorem dX0_load_19 : decode cX0_load 19 = .ok (.iload_n 3, 1) := by decide +kernel
theorem dX0_load_20 : decode cX0_load 20 = .ok (.iadd, 1) := by decide +kernel
theorem dX0_load_21 : decode cX0_load 21 = .ok (.invokevirtual 30, 3) := by decide +kernel
theorem dX0_load_24 : decode cX0_load 24 = .ok (.iadd, 1) := by decide +kernel
theorem dX0_load_25 : decode cX0_load 25 = .ok (.istore_n 2, 1) := by decide +kernel
theorem dX0_load_26 : decode cX0_load 26 = .ok (.iinc 3 1, 3) := by decide +kernel
theorem dX0_load_29 : decode cX0_load 29 = .ok (.goto (-25), 3) := by decide +kernel
theorem dX0_load_32 : decode cX0_load 32 = .ok (.iload_n 2, 1) := by decide +kernel
theorem dX0_load_33 : decode cX0_load 33 = .ok (.ireturn, 1) := by decide +kernel
set_option maxRecDepth 20000 in
theorem ggX1_init_X5_init : GoodIn wsX1_init wsX5_init := goodIn_r _ [14, 15, 2, 3, 16, 17, 18] (by decide +kernel) (by decide +kernel)
set_option maxRecDepth 20000 in
theorem gX1_init_X5_init : GoodIn wsX1_init (wsX5_init) := ggX1_init_X5_init
theorem dX1_init_0 : decode cX1_init 0 = .ok (.aload_n 0, 1) := by decide +kernel
theorem dX1_init_1 : decode cX1_init 1 = .ok (.invokespecial 3, 3) := by decide +kernel
theorem dX1_init_4 : decode cX1_init 4 = .ok (.aload_n 0, 1) := by decide +kernel
theorem dX1_init_5 : decode cX1_init 5 = .ok (.new 9, 3) := by decide +kernel
theorem dX1_init_8 : decode cX1_init 8 = .ok (.dup, 1) := by decide +kernel
theorem dX1_init_9 : decode cX1_init 9 = .ok (.sipush 160, 3) := by decide +kernel
theorem dX1_init_12 : decode cX1_init 12 = .ok (.invokespecial 11, 3) := by decide +kernel
theorem dX1_init_15 : decode cX1_init 15 = .ok (.putfield 14, 3) := by decide +kernel
theorem dX1_init_18 : decode cX1_init 18 = .ok (.aload_n 0, 1) := by decide +kernel
theorem dX1_init_19 : decode cX1_init 19 = .ok (.new 9, 3) := by decide +kernel
theorem dX1_init_22 : decode cX1_init 22 = .ok (.dup, 1) := by decide +kernel
theorem dX1_init_23 : decode cX1_init 23 = .ok (.sipush 160, 3) := by decide +kernel
theorem dX1_init_26 : decode cX1_init 26 = .ok (.invokespecial 11, 3) := by decide +kernel
theorem dX1_init_29 : decode cX1_init 29 = .ok (.putfield 20, 3) := by decide +kernel
theorem dX1_init_32 : decode cX1_init 32 = .ok (.aload_n 0, 1) := by decide +kernel
theorem dX1_init_33 : decode cX1_init 33 = .ok (.aload_n 1, 1) := by decide +kernel
theorem dX1_init_34 : decode cX1_init 34 = .ok (.putfield 23, 3) := by decide +kernel
theorem dX1_init_37 : decode cX1_init 37 = .ok (.aload_n 0, 1) := by decide +kernel
theorem dX1_init_38 : decode cX1_init 38 = .ok (.aload_n 2, 1) := by decide +kernel
theorem dX1_init_39 : decode cX1_init 39 = .ok (.putfield 27, 3) := by decide +kernel
theorem dX1_init_42 : decode cX1_init 42 = .ok (.aload_n 0, 1) := by decide +kernel
theorem dX1_init_43 : decode cX1_init 43 = .ok (.aload_n 3, 1) := by decide +kernel
theorem dX1_init_44 : decode cX1_init 44 = .ok (.putfield 31, 3) := by decide +kernel
theorem dX1_init_47 : decode cX1_init 47 = .ok (.return_, 1) := by decide +kernel
set_option maxRecDepth 20000 in
theorem ggX1_countWaiting_X3_size : GoodIn wsX1_countWaiting wsX3_size := goodIn_r _ [7, 8, 9, 80, 81, 82, 83] (by decide +kernel) (by decide +kernel)
set_option maxRecDepth 20000 in
theorem gX1_countWaiting_X3_size : GoodIn wsX1_countWaiting (wsV RX1 35 RX3 yX3_size wsX3_size) := goodIn_app (goodIn_of _ (by decide +kernel)) ggX1_countWaiting_X3_size
set_option maxRecDepth 20000 in
theorem ggX1_countWaiting_X1_awaitedBy : GoodIn wsX1_countWaiting wsX1_awaitedBy := goodIn_r _ [14, 15, 16, 17, 18, 19, 20, 21, 22, 23, 24, 25, 26, 27, 28, 29, 30, 31, 32, 33, 34, 35, 36, 37, 38, 39, 40, 41, 42, 43, 6, 44, 45, 46, 47, 48, 49, 50, 51, 52, 53, 13, 54, 1, 55, 56, 57, 58, 8, 9, 59, 60, 61, 62, 63, 64, 65, 66, 75, 76, 77, 78, 79, 84, 85, 86, 87, 88, 89, 90, 91, 92, 93, 94, 95, 96, 97, 98, 80, 81, 82, 83] (by decide +kernel) (by decide +kernel)
set_option maxRecDepth 20000 in
theorem gX1_countWaiting_X1_awaitedBy : GoodIn wsX1_countWaiting (wsV RX1 41 RX1 yX1_awaitedBy wsX1_awaitedBy) := goodIn_app (goodIn_of _ (by decide +kernel)) ggX1_countWaiting_X1_awaitedBy
set_option maxRecDepth 20000 in
theorem ggX1_countWaiting_X5_put : GoodIn wsX1_countWaiting wsX5_put := goodIn_r _ [70, 29, 98] (by decide +kernel) (by decide +kernel)
set_option maxRecDepth 20000 in
theorem gX1_countWaiting_X5_put : GoodIn wsX1_countWaiting (wsV RX1 45 RX5 yX5_put wsX5_put) := goodIn_app (goodIn_of _ (by decide +kernel)) ggX1_countWaiting_X5_put
set_option maxRecDepth 20000 in
theorem ggX1_countWaiting_X1_comesBack : GoodIn wsX1_countWaiting wsX1_comesBack := goodIn_r _ [74, 2, 30, 25, 26, 27, 28, 29, 75, 76, 77, 78, 79, 98] (by decide +kernel) (by decide +kernel)
set_option maxRecDepth 20000 in
theorem gX1_countWaiting_X1_comesBack : GoodIn wsX1_countWaiting (wsV RX1 49 RX1 yX1_comesBack wsX1_comesBack) := goodIn_app (goodIn_of _ (by decide +kernel)) ggX1_countWaiting_X1_comesBack
theorem dX1_countWaiting_0 : decode cX1_countWaiting 0 = .ok (.aload_n 0, 1) := by decide +kernel
theorem dX1_countWaiting_1 : decode cX1_countWaiting 1 = .ok (.getfield 23, 3) := by decide +kernel
theorem dX1_countWaiting_4 : decode cX1_countWaiting 4 = .ok (.invokevirtual 35, 3) := by decide +kernel
theorem dX1_countWaiting_7 : decode cX1_countWaiting 7 = .ok (.bipush 10, 2) := by decide +kernel
theorem dX1_countWaiting_9 : decode cX1_countWaiting 9 = .ok (.imul, 1) := by decide +kernel
theorem dX1_countWaiting_10 : decode cX1_countWaiting 10 = .ok (.istore_n 1, 1) := by decide +kernel
theorem dX1_countWaiting_11 : decode cX1_countWaiting 11 = .ok (.iconst 0, 1) := by decide +kernel
theorem dX1_countWaiting_12 : decode cX1_countWaiting 12 = .ok (.istore_n 2, 1) := by decide +kernel
theorem dX1_countWaiting_13 : decode cX1_countWaiting 13 = .ok (.iload_n 2, 1) := by decide +kernel
theorem dX1_countWaiting_14 : decode cX1_countWaiting 14 = .ok (.iload_n 1, 1) := by decide +kernel
theorem dX1_countWaiting_15 : decode cX1_countWaiting 15 = .ok (.if_icmp .ge 22, 3) := by decide +kernel
theorem dX1_countWaiting_18 : decode cX1_countWaiting 18 = .ok (.aload_n 0, 1) := by decide +kernel
theorem dX1_countWaiting_19 : decode cX1_countWaiting 19 = .ok (.getfield 14, 3) := by decide +kernel
theorem dX1_countWaiting_22 : decode cX1_countWaiting 22 = .ok (.iload_n 2, 1) := by decide +kernel
theorem dX1_countWaiting_23 : decode cX1_countWaiting 23 = .ok (.aload_n 0, 1) := by decide +kernel
theorem dX1_countWaiting_24 : decode cX1_countWaiting 24 = .ok (.iload_n 2, 1) := by decide +kernel
theorem dX1_countWaiting_25 : decode cX1_countWaiting 25 = .ok (.invokevirtual 41, 3) := by decide +kernel
theorem dX1_countWaiting_28 : decode cX1_countWaiting 28 = .ok (.invokevirtual 45, 3) := by decide +kernel
theorem dX1_countWaiting_31 : decode cX1_countWaiting 31 = .ok (.iinc 2 1, 3) := by decide +kernel
theorem dX1_countWaiting_34 : decode cX1_countWaiting 34 = .ok (.goto (-21), 3) := by decide +kernel
theorem dX1_countWaiting_37 : decode cX1_countWaiting 37 = .ok (.iconst 0, 1) := by decide +kernel
theorem dX1_countWaiting_38 : decode cX1_countWaiting 38 = .ok (.istore_n 2, 1) := by decide +kernel
theorem dX1_countWaiting_39 : decode cX1_countWaiting 39 = .ok (.iconst 0, 1) := by decide +kernel
theorem dX1_countWaiting_40 : decode cX1_countWaiting 40 = .ok (.istore_n 3, 1) := by decide +kernel
theorem dX1_countWaiting_41 : decode cX1_countWaiting 41 = .ok (.iload_n 3, 1) := by decide +kernel
theorem dX1_countWaiting_42 : decode cX1_countWaiting 42 = .ok (.iload_n 1, 1) := by decide +kernel
theorem dX1_countWaiting_43 : decode cX1_countWaiting 43 = .ok (.if_icmp .ge 20, 3) := by decide +kernel
theorem dX1_countWaiting_46 : decode cX1_countWaiting 46 = .ok (.aload_n 0, 1) := by decide +kernel
theorem dX1_countWaiting_47 : decode cX1_countWaiting 47 = .ok (.iload_n 3, 1) := by decide +kernel
theorem dX1_countWaiting_48 : decode cX1_countWaiting 48 = .ok (.invokevirtual 49, 3) := by decide +kernel
theorem dX1_countWaiting_51 : decode cX1_countWaiting 51 = .ok (.ifCond .eq 6, 3) := by decide +kernel
theorem dX1_countWaiting_54 : decode cX1_countWaiting 54 = .ok (.iinc 2 1, 3) := by decide +kernel
theorem dX1_countWaiting_57 : decode cX1_countWaiting 57 = .ok (.iinc 3 1, 3) := by decide +kernel
theorem dX1_countWaiting_60 : decode cX1_countWaiting 60 = .ok (.goto (-19), 3) := by decide +kernel
theorem dX1_countWaiting_63 : decode cX1_countWaiting 63 = .ok (.iload_n 2, 1) := by decide +kernel
theorem dX1_countWaiting_64 : decode cX1_countWaiting 64 = .ok (.ireturn, 1) := by decide +kernel
set_option maxRecDepth 20000 in
theorem ggX1_awaitedBy_X0_first : GoodIn wsX1_awaitedBy wsX0_first := goodIn_r _ [7, 8, 9, 10, 11, 12, 13, 14, 15, 74, 75, 76, 77] (by decide +kernel) (by decide +kernel)
set_option maxRecDepth 20000 in
theorem gX1_awaitedBy_X0_first : GoodIn wsX1_awaitedBy (wsV RX1 53 RX0 yX0_first wsX0_first) := goodIn_app (goodIn_of _ (by decide +kernel)) ggX1_awaitedBy_X0_first
set_option maxRecDepth 20000 in
theorem ggX1_awaitedBy_X5_at : GoodIn wsX1_awaitedBy wsX5_at := goodIn_r _ [14, 15, 77] (by decide +kernel) (by decide +kernel)
set_option maxRecDepth 20000 in
theorem gX1_awaitedBy_X5_at : GoodIn wsX1_awaitedBy (wsV RX1 63 RX5 yX5_at wsX5_at) := goodIn_app (goodIn_of _ (by decide +kernel)) ggX1_awaitedBy_X5_at
set_option maxRecDepth 20000 in
theorem ggX1_awaitedBy_X4_outputOf : GoodIn wsX1_awaitedBy wsX4_outputOf := goodIn_r _ [21, 22, 23, 24, 25, 26, 11, 12, 13, 14, 15, 27, 28, 29, 30, 31, 32, 33, 34, 35, 36, 37, 63, 64, 65, 66, 67, 68, 69, 70, 71, 72, 73, 77, 78, 79, 80, 81] (by decide +kernel) (by decide +kernel)
set_option maxRecDepth 20000 in
theorem gX1_awaitedBy_X4_outputOf : GoodIn wsX1_awaitedBy (wsV RX1 66 RX4 yX4_outputOf wsX4_outputOf) := goodIn_app (goodIn_of _ (by decide +kernel)) ggX1_awaitedBy_X4_outputOf
set_option maxRecDepth 20000 in
theorem ggX1_awaitedBy_X1_nextBuffer : GoodIn wsX1_awaitedBy wsX1_nextBuffer := goodIn_r _ [42, 43, 44, 45, 46, 30, 47, 32, 48, 33, 49, 34, 11, 12, 13, 14, 15, 50, 51, 52, 58, 59, 60, 61, 62, 78, 79, 80, 81, 77] (by decide +kernel) (by decide +kernel)
set_option maxRecDepth 20000 in
theorem gX1_awaitedBy_X1_nextBuffer : GoodIn wsX1_awaitedBy (wsV RX1 72 RX1 yX1_nextBuffer wsX1_nextBuffer) := goodIn_app (goodIn_of _ (by decide +kernel)) ggX1_awaitedBy_X1_nextBuffer
set_option maxRecDepth 20000 in
theorem ggX1_awaitedBy_X0_isFull : GoodIn wsX1_awaitedBy wsX0_isFull := goodIn_r _ [56, 8, 57, 10, 11, 12, 13, 14, 15, 74, 75, 76, 77] (by decide +kernel) (by decide +kernel)
set_option maxRecDepth 20000 in
theorem gX1_awaitedBy_X0_isFull : GoodIn wsX1_awaitedBy (wsV RX1 76 RX0 yX0_isFull wsX0_isFull) := goodIn_app (goodIn_of _ (by decide +kernel)) ggX1_awaitedBy_X0_isFull
theorem dX1_awaitedBy_0 : decode cX1_awaitedBy 0 = .ok (.aload_n 0, 1) := by decide +kernel
theorem dX1_awaitedBy_1 : decode cX1_awaitedBy 1 = .ok (.getfield 31, 3) := by decide +kernel
theorem dX1_awaitedBy_4 : decode cX1_awaitedBy 4 = .ok (.iload_n 1, 1) := by decide +kernel
theorem dX1_awaitedBy_5 : decode cX1_awaitedBy 5 = .ok (.invokevirtual 53, 3) := by decide +kernel
theorem dX1_awaitedBy_8 : decode cX1_awaitedBy 8 = .ok (.istore_n 2, 1) := by decide +kernel
theorem dX1_awaitedBy_9 : decode cX1_awaitedBy 9 = .ok (.iload_n 2, 1) := by decide +kernel
theorem dX1_awaitedBy_10 : decode cX1_awaitedBy 10 = .ok (.iconst (-1), 1) := by decide +kernel
theorem dX1_awaitedBy_11 : decode cX1_awaitedBy 11 = .ok (.if_icmp .ne 5, 3) := by decide +kernel
theorem dX1_awaitedBy_14 : decode cX1_awaitedBy 14 = .ok (.iconst (-1), 1) := by decide +kernel
theorem dX1_awaitedBy_15 : decode cX1_awaitedBy 15 = .ok (.ireturn, 1) := by decide +kernel
theorem dX1_awaitedBy_16 : decode cX1_awaitedBy 16 = .ok (.aload_n 0, 1) := by decide +kernel
theorem dX1_awaitedBy_17 : decode cX1_awaitedBy 17 = .ok (.aload_n 0, 1) := by decide +kernel
theorem dX1_awaitedBy_18 : decode cX1_awaitedBy 18 = .ok (.getfield 27, 3) := by decide +kernel
theorem dX1_awaitedBy_21 : decode cX1_awaitedBy 21 = .ok (.getfield 58, 3) := by decide +kernel
theorem dX1_awaitedBy_24 : decode cX1_awaitedBy 24 = .ok (.iload_n 2, 1) := by decide +kernel
theorem dX1_awaitedBy_25 : decode cX1_awaitedBy 25 = .ok (.invokevirtual 63, 3) := by decide +kernel
theorem dX1_awaitedBy_28 : decode cX1_awaitedBy 28 = .ok (.aload_n 0, 1) := by decide +kernel
theorem dX1_awaitedBy_29 : decode cX1_awaitedBy 29 = .ok (.getfield 27, 3) := by decide +kernel
theorem dX1_awaitedBy_32 : decode cX1_awaitedBy 32 = .ok (.iload_n 2, 1) := by decide +kernel
theorem dX1_awaitedBy_33 : decode cX1_awaitedBy 33 = .ok (.invokevirtual 66, 3) := by decide +kernel
theorem dX1_awaitedBy_36 : decode cX1_awaitedBy 36 = .ok (.aload_n 0, 1) := by decide +kernel
theorem dX1_awaitedBy_37 : decode cX1_awaitedBy 37 = .ok (.getfield 27, 3) := by decide +kernel
theorem dX1_awaitedBy_40 : decode cX1_awaitedBy 40 = .ok (.getfield 69, 3) := by decide +kernel
theorem dX1_awaitedBy_43 : decode cX1_awaitedBy 43 = .ok (.iload_n 2, 1) := by decide +kernel
theorem dX1_awaitedBy_44 : decode cX1_awaitedBy 44 = .ok (.invokevirtual 63, 3) := by decide +kernel
theorem dX1_awaitedBy_47 : decode cX1_awaitedBy 47 = .ok (.invokevirtual 72, 3) := by decide +kernel
theorem dX1_awaitedBy_50 : decode cX1_awaitedBy 50 = .ok (.istore_n 3, 1) := by decide +kernel
theorem dX1_awaitedBy_51 : decode cX1_awaitedBy 51 = .ok (.iload_n 3, 1) := by decide +kernel
theorem dX1_awaitedBy_52 : decode cX1_awaitedBy 52 = .ok (.iconst (-1), 1) := by decide +kernel
theorem dX1_awaitedBy_53 : decode cX1_awaitedBy 53 = .ok (.if_icmp .eq 18, 3) := by decide +kernel
theorem dX1_awaitedBy_56 : decode cX1_awaitedBy 56 = .ok (.aload_n 0, 1) := by decide +kernel
theorem dX1_awaitedBy_57 : decode cX1_awaitedBy 57 = .ok (.getfield 31, 3) := by decide +kernel
theorem dX1_awaitedBy_60 : decode cX1_awaitedBy 60 = .ok (.iload_n 3, 1) := by decide +kernel
theorem dX1_awaitedBy_61 : decode cX1_awaitedBy 61 = .ok (.invokevirtual 76, 3) := by decide +kernel
theorem dX1_awaitedBy_64 : decode cX1_awaitedBy 64 = .ok (.ifCond .eq 7, 3) := by decide +kernel
theorem dX1_awaitedBy_67 : decode cX1_awaitedBy 67 = .ok (.iload_n 3, 1) := by decide +kernel
theorem dX1_awaitedBy_68 : decode cX1_awaitedBy 68 = .ok (.goto 4, 3) := by decide +kernel
theorem dX1_awaitedBy_71 : decode cX1_awaitedBy 71 = .ok (.iconst (-1), 1) := by decide +kernel
theorem dX1_awaitedBy_72 : decode cX1_awaitedBy 72 = .ok (.ireturn, 1) := by decide +kernel
set_option maxRecDepth 20000 in
theorem ggX1_comesBack_X5_at : GoodIn wsX1_comesBack wsX5_at := goodIn_r _ [6, 7, 13] (by decide +kernel) (by decide +kernel)
set_option maxRecDepth 20000 in
theorem gX1_comesBack_X5_at : GoodIn wsX1_comesBack (wsV RX1 63 RX5 yX5_at wsX5_at) := goodIn_app (goodIn_of _ (by decide +kernel)) ggX1_comesBack_X5_at
theorem dX1_comesBack_0 : decode cX1_comesBack 0 = .ok (.aload_n 0, 1) := by decide +kernel
theorem dX1_comesBack_1 : decode cX1_comesBack 1 = .ok (.getfield 14, 3) := by decide +kernel
theorem dX1_comesBack_4 : decode cX1_comesBack 4 = .ok (.iload_n 1, 1) := by decide +kernel
theorem dX1_comesBack_5 : decode cX1_comesBack 5 = .ok (.invokevirtual 63, 3) := by decide +kernel
theorem dX1_comesBack_8 : decode cX1_comesBack 8 = .ok (.istore_n 2, 1) := by decide +kernel
theorem dX1_comesBack_9 : decode cX1_comesBack 9 = .ok (.iconst 0, 1) := by decide +kernel
theorem dX1_comesBack_10 : decode cX1_comesBack 10 = .ok (.istore_n 3, 1) := by decide +kernel
theorem dX1_comesBack_11 : decode cX1_comesBack 11 = .ok (.iload_n 3, 1) := by decide +kernel
theorem dX1_comesBack_12 : decode cX1_comesBack 12 = .ok (.sipush 160, 3) := by decide +kernel
theorem dX1_comesBack_15 : decode cX1_comesBack 15 = .ok (.if_icmp .ge 30, 3) := by decide +kernel
theorem dX1_comesBack_18 : decode cX1_comesBack 18 = .ok (.iload_n 2, 1) := by decide +kernel
theorem dX1_comesBack_19 : decode cX1_comesBack 19 = .ok (.iconst (-1), 1) := by decide +kernel
theorem dX1_comesBack_20 : decode cX1_comesBack 20 = .ok (.if_icmp .eq 25, 3) := by decide +kernel
theorem dX1_comesBack_23 : decode cX1_comesBack 23 = .ok (.iload_n 2, 1) := by decide +kernel
theorem dX1_comesBack_24 : decode cX1_comesBack 24 = .ok (.iload_n 1, 1) := by decide +kernel
theorem dX1_comesBack_25 : decode cX1_comesBack 25 = .ok (.if_icmp .ne 5, 3) := by decide +kernel
theorem dX1_comesBack_28 : decode cX1_comesBack 28 = .ok (.iconst 1, 1) := by decide +kernel
theorem dX1_comesBack_29 : decode cX1_comesBack 29 = .ok (.ireturn, 1) := by decide +kernel
theorem dX1_comesBack_30 : decode cX1_comesBack 30 = .ok (.aload_n 0, 1) := by decide +kernel
theorem dX1_comesBack_31 : decode cX1_comesBack 31 = .ok (.getfield 14, 3) := by decide +kernel
theorem dX1_comesBack_34 : decode cX1_comesBack 34 = .ok (.iload_n 2, 1) := by decide +kernel
theorem dX1_comesBack_35 : decode cX1_comesBack 35 = .ok (.invokevirtual 63, 3) := by decide +kernel
theorem dX1_comesBack_38 : decode cX1_comesBack 38 = .ok (.istore_n 2, 1) := by decide +kernel
theorem dX1_comesBack_39 : decode cX1_comesBack 39 = .ok (.iinc 3 1, 3) := by decide +kernel
theorem dX1_comesBack_42 : decode cX1_comesBack 42 = .ok (.goto (-31), 3) := by decide +kernel
theorem dX1_comesBack_45 : decode cX1_comesBack 45 = .ok (.iconst 0, 1) := by decide +kernel
theorem dX1_comesBack_46 : decode cX1_comesBack 46 = .ok (.ireturn, 1) := by decide +kernel
set_option maxRecDepth 20000 in
theorem ggX1_hangsTogether_X5_fill : GoodIn wsX1_hangsTogether wsX5_fill := goodIn_r _ [7, 8, 75] (by decide +kernel) (by decide +kernel)
set_option maxRecDepth 20000 in
theorem gX1_hangsTogether_X5_fill : GoodIn wsX1_hangsTogether (wsV RX1 79 RX5 yX5_fill wsX5_fill) := goodIn_app (goodIn_of _ (by decide +kernel)) ggX1_hangsTogether_X5_fill
set_option maxRecDepth 20000 in
theorem ggX1_hangsTogether_X5_at : GoodIn wsX1_hangsTogether wsX5_at := goodIn_r _ [12, 8, 75] (by decide +kernel) (by decide +kernel)
set_option maxRecDepth 20000 in
theorem gX1_hangsTogether_X5_at : GoodIn wsX1_hangsTogether (wsV RX1 63 RX5 yX5_at wsX5_at) := goodIn_app (goodIn_of _ (by decide +kernel)) ggX1_hangsTogether_X5_at
set_option maxRecDepth 20000 in
theorem ggX1_hangsTogether_X1_hangAlong : GoodIn wsX1_hangsTogether wsX1_hangAlong := goodIn_r _ [17, 2, 18, 1, 9, 10, 11, 6, 12, 8, 19, 20, 21, 22, 23, 24, 25, 26, 27, 28, 29, 30, 31, 32, 33, 34, 35, 16, 36, 37, 38, 39, 40, 41, 42, 43, 44, 45, 46, 59, 60, 61, 62, 63, 64, 65, 66, 67, 68, 69, 70, 71, 72, 73, 74, 75, 76, 77, 78, 79] (by decide +kernel) (by decide +kernel)
set_option maxRecDepth 20000 in
theorem gX1_hangsTogether_X1_hangAlong : GoodIn wsX1_hangsTogether (wsV RX1 86 RX1 yX1_hangAlong wsX1_hangAlong) := goodIn_app (goodIn_of _ (by decide +kernel)) ggX1_hangsTogether_X1_hangAlong
set_option maxRecDepth 20000 in
theorem ggX1_hangsTogether_X1_cutEnds : GoodIn wsX1_hangsTogether wsX1_cutEnds := goodIn_r _ [50, 18, 1, 51, 52, 53, 25, 54, 41, 42, 9, 10, 11, 6, 12, 8, 55, 56, 57, 16, 58, 33, 34, 35, 36, 37, 38, 39, 40, 27, 28, 29, 19, 20, 21, 43, 44, 45, 46, 59, 60, 61, 62, 63, 76, 77, 78, 79, 75] (by decide +kernel) (by decide +kernel)
set_option maxRecDepth 20000 in
theorem gX1_hangsTogether_X1_cutEnds : GoodIn wsX1_hangsTogether (wsV RX1 89 RX1 yX1_cutEnds wsX1_cutEnds) := goodIn_app (goodIn_of _ (by decide +kernel)) ggX1_hangsTogether_X1_cutEnds
theorem dX1_hangsTogether_0 : decode cX1_hangsTogether 0 = .ok (.aload_n 0, 1) := by decide +kernel
theorem dX1_hangsTogether_1 : decode cX1_hangsTogether 1 = .ok (.getfield 20, 3) := by decide +kernel
theorem dX1_hangsTogether_4 : decode cX1_hangsTogether 4 = .ok (.iconst 0, 1) := by decide +kernel
theorem dX1_hangsTogether_5 : decode cX1_hangsTogether 5 = .ok (.invokevirtual 79, 3) := by decide +kernel
theorem dX1_hangsTogether_8 : decode cX1_hangsTogether 8 = .ok (.iconst 0, 1) := by decide +kernel
theorem dX1_hangsTogether_9 : decode cX1_hangsTogether 9 = .ok (.istore_n 1, 1) := by decide +kernel
theorem dX1_hangsTogether_10 : decode cX1_hangsTogether 10 = .ok (.iload_n 1, 1) := by decide +kernel
theorem dX1_hangsTogether_11 : decode cX1_hangsTogether 11 = .ok (.aload_n 0, 1) := by decide +kernel
theorem dX1_hangsTogether_12 : decode cX1_hangsTogether 12 = .ok (.getfield 27, 3) := by decide +kernel
theorem dX1_hangsTogether_15 : decode cX1_hangsTogether 15 = .ok (.getfield 82, 3) := by decide +kernel
theorem dX1_hangsTogether_18 : decode cX1_hangsTogether 18 = .ok (.if_icmp .ge 29, 3) := by decide +kernel
theorem dX1_hangsTogether_21 : decode cX1_hangsTogether 21 = .ok (.aload_n 0, 1) := by decide +kernel
theorem dX1_hangsTogether_22 : decode cX1_hangsTogether 22 = .ok (.getfield 27, 3) := by decide +kernel
theorem dX1_hangsTogether_25 : decode cX1_hangsTogether 25 = .ok (.getfield 58, 3) := by decide +kernel
theorem dX1_hangsTogether_28 : decode cX1_hangsTogether 28 = .ok (.iload_n 1, 1) := by decide +kernel
theorem dX1_hangsTogether_29 : decode cX1_hangsTogether 29 = .ok (.invokevirtual 63, 3) := by decide +kernel
theorem dX1_hangsTogether_32 : decode cX1_hangsTogether 32 = .ok (.iconst (-1), 1) := by decide +kernel
theorem dX1_hangsTogether_33 : decode cX1_hangsTogether 33 = .ok (.if_icmp .eq 8, 3) := by decide +kernel
theorem dX1_hangsTogether_36 : decode cX1_hangsTogether 36 = .ok (.aload_n 0, 1) := by decide +kernel
theorem dX1_hangsTogether_37 : decode cX1_hangsTogether 37 = .ok (.iload_n 1, 1) := by decide +kernel
theorem dX1_hangsTogether_38 : decode cX1_hangsTogether 38 = .ok (.invokevirtual 86, 3) := by decide +kernel
theorem dX1_hangsTogether_41 : decode cX1_hangsTogether 41 = .ok (.iinc 1 1, 3) := by decide +kernel
theorem dX1_hangsTogether_44 : decode cX1_hangsTogether 44 = .ok (.goto (-34), 3) := by decide +kernel
theorem dX1_hangsTogether_47 : decode cX1_hangsTogether 47 = .ok (.iconst 1, 1) := by decide +kernel
theorem dX1_hangsTogether_48 : decode cX1_hangsTogether 48 = .ok (.istore_n 1, 1) := by decide +kernel
theorem dX1_hangsTogether_49 : decode cX1_hangsTogether 49 = .ok (.iconst 0, 1) := by decide +kernel
theorem dX1_hangsTogether_50 : decode cX1_hangsTogether 50 = .ok (.istore_n 2, 1) := by decide +kernel
theorem dX1_hangsTogether_51 : decode cX1_hangsTogether 51 = .ok (.iload_n 2, 1) := by decide +kernel
theorem dX1_hangsTogether_52 : decode cX1_hangsTogether 52 = .ok (.sipush 160, 3) := by decide +kernel
theorem dX1_hangsTogether_55 : decode cX1_hangsTogether 55 = .ok (.if_icmp .ge 18, 3) := by decide +kernel
theorem dX1_hangsTogether_58 : decode cX1_hangsTogether 58 = .ok (.iload_n 1, 1) := by decide +kernel
theorem dX1_hangsTogether_59 : decode cX1_hangsTogether 59 = .ok (.ifCond .eq 14, 3) := by decide +kernel
theorem dX1_hangsTogether_62 : decode cX1_hangsTogether 62 = .ok (.aload_n 0, 1) := by decide +kernel
theorem dX1_hangsTogether_63 : decode cX1_hangsTogether 63 = .ok (.invokevirtual 89, 3) := by decide +kernel
theorem dX1_hangsTogether_66 : decode cX1_hangsTogether 66 = .ok (.istore_n 1, 1) := by decide +kernel
theorem dX1_hangsTogether_67 : decode cX1_hangsTogether 67 = .ok (.iinc 2 1, 3) := by decide +kernel
theorem dX1_hangsTogether_70 : decode cX1_hangsTogether 70 = .ok (.goto (-19), 3) := by decide +kernel
theorem dX1_hangsTogether_73 : decode cX1_hangsTogether 73 = .ok (.iconst 0, 1) := by decide +kernel
theorem dX1_hangsTogether_74 : decode cX1_hangsTogether 74 = .ok (.istore_n 2, 1) := by decide +kernel
theorem dX1_hangsTogether_75 : decode cX1_hangsTogether 75 = .ok (.iload_n 2, 1) := by decide +kernel
theorem dX1_hangsTogether_76 : decode cX1_hangsTogether 76 = .ok (.sipush 160, 3) := by decide +kernel
theorem dX1_hangsTogether_79 : decode cX1_hangsTogether 79 = .ok (.if_icmp .ge 22, 3) := by decide +kernel
theorem dX1_hangsTogether_82 : decode cX1_hangsTogether 82 = .ok (.aload_n 0, 1) := by decide +kernel
theorem dX1_hangsTogether_83 : decode cX1_hangsTogether 83 = .ok (.getfield 20, 3) := by decide +kernel
theorem dX1_hangsTogether_86 : decode cX1_hangsTogether 86 = .ok (.iload_n 2, 1) := by decide +kernel
theorem dX1_hangsTogether_87 : decode cX1_hangsTogether 87 = .ok (.invokevirtual 63, 3) := by decide +kernel
theorem dX1_hangsTogether_90 : decode cX1_hangsTogether 90 = .ok (.ifCond .eq 5, 3) := by decide +kernel
theorem dX1_hangsTogether_93 : decode cX1_hangsTogether 93 = .ok (.iconst 1, 1) := by decide +kernel
theorem dX1_hangsTogether_94 : decode cX1_hangsTogether 94 = .ok (.ireturn, 1) := by decide +kernel
theorem dX1_hangsTogether_95 : decode cX1_hangsTogether 95 = .ok (.iinc 2 1, 3) := by decide +kernel
theorem dX1_hangsTogether_98 : decode cX1_hangsTogether 98 = .ok (.goto (-23), 3) := by decide +kernel
theorem dX1_hangsTogether_101 : decode cX1_hangsTogether 101 = .ok (.iconst 0, 1) := by decide +kernel
theorem dX1_hangsTogether_102 : decode cX1_hangsTogether 102 = .ok (.ireturn, 1) := by decide +kernel
set_option maxRecDepth 20000 in
theorem ggX1_hangAlong_X5_at : GoodIn wsX1_hangAlong wsX5_at := goodIn_r _ [8, 9, 55] (by decide +kernel) (by decide +kernel)
set_option maxRecDepth 20000 in
theorem gX1_hangAlong_X5_at : GoodIn wsX1_hangAlong (wsV RX1 63 RX5 yX5_at wsX5_at) := goodIn_app (goodIn_of _ (by decide +kernel)) ggX1_hangAlong_X5_at
set_option maxRecDepth 20000 in
theorem ggX1_hangAlong_X7_bufferOf : GoodIn wsX1_hangAlong wsX7_bufferOf := goodIn_r _ [12] (by decide +kernel) (by decide +kernel)
set_option maxRecDepth 20000 in
theorem gX1_hangAlong_X7_bufferOf_n96 : GoodIn wsX1_hangAlong (wsX7_bufferOf) := ggX1_hangAlong_X7_bufferOf
set_option maxRecDepth 20000 in
theorem ggX1_hangAlong_X3_outputTowards : GoodIn wsX1_hangAlong wsX3_outputTowards := goodIn_r _ [17, 18, 19, 20, 5, 6, 7, 8, 9, 21, 22, 16, 23, 56, 57, 58, 59, 55] (by decide +kernel) (by decide +kernel)
set_option maxRecDepth 20000 in
theorem gX1_hangAlong_X3_outputTowards : GoodIn wsX1_hangAlong (wsV RX1 105 RX3 yX3_outputTowards wsX3_outputTowards) := goodIn_app (goodIn_of _ (by decide +kernel)) ggX1_hangAlong_X3_outputTowards
set_option maxRecDepth 20000 in
theorem ggX1_hangAlong_X1_nextBuffer : GoodIn wsX1_hangAlong wsX1_nextBuffer := goodIn_r _ [28, 2, 29, 30, 31, 16, 32, 18, 33, 19, 34, 20, 5, 6, 7, 8, 9, 10, 11, 12, 39, 40, 41, 42, 43, 56, 57, 58, 59, 55] (by decide +kernel) (by decide +kernel)
set_option maxRecDepth 20000 in
theorem gX1_hangAlong_X1_nextBuffer : GoodIn wsX1_hangAlong (wsV RX1 72 RX1 yX1_nextBuffer wsX1_nextBuffer) := goodIn_app (goodIn_of _ (by decide +kernel)) ggX1_hangAlong_X1_nextBuffer
set_option maxRecDepth 20000 in
theorem ggX1_hangAlong_X5_put : GoodIn wsX1_hangAlong wsX5_put := goodIn_r _ [38, 9, 55] (by decide +kernel) (by decide +kernel)
set_option maxRecDepth 20000 in
theorem gX1_hangAlong_X5_put : GoodIn wsX1_hangAlong (wsV RX1 45 RX5 yX5_put wsX5_put) := goodIn_app (goodIn_of _ (by decide +kernel)) ggX1_hangAlong_X5_put
set_option maxRecDepth 20000 in
theorem ggX1_hangAlong_X3_behind : GoodIn wsX1_hangAlong wsX3_behind := goodIn_r _ [32, 18, 33, 19, 34, 20, 5, 6, 7, 8, 9, 56, 57, 58, 59, 55] (by decide +kernel) (by decide +kernel)
set_option maxRecDepth 20000 in
theorem gX1_hangAlong_X3_behind : GoodIn wsX1_hangAlong (wsV RX1 108 RX3 yX3_behind wsX3_behind) := goodIn_app (goodIn_of _ (by decide +kernel)) ggX1_hangAlong_X3_behind
theorem dX1_hangAlong_0 : decode cX1_hangAlong 0 = .ok (.aload_n 0, 1) := by decide +kernel
theorem dX1_hangAlong_1 : decode cX1_hangAlong 1 = .ok (.getfield 27, 3) := by decide +kernel
theorem dX1_hangAlong_4 : decode cX1_hangAlong 4 = .ok (.getfield 58, 3) := by decide +kernel
theorem dX1_hangAlong_7 : decode cX1_hangAlong 7 = .ok (.iload_n 1, 1) := by decide +kernel
theorem dX1_hangAlong_8 : decode cX1_hangAlong 8 = .ok (.invokevirtual 63, 3) := by decide +kernel
theorem dX1_hangAlong_11 : decode cX1_hangAlong 11 = .ok (.istore_n 2, 1) := by decide +kernel
theorem dX1_hangAlong_12 : decode cX1_hangAlong 12 = .ok (.aload_n 0, 1) := by decide +kernel
theorem dX1_hangAlong_13 : decode cX1_hangAlong 13 = .ok (.getfield 27, 3) := by decide +kernel
theorem dX1_hangAlong_16 : decode cX1_hangAlong 16 = .ok (.getfield 69, 3) := by decide +kernel
theorem dX1_hangAlong_19 : decode cX1_hangAlong 19 = .ok (.iload_n 1, 1) := by decide +kernel
theorem dX1_hangAlong_20 : decode cX1_hangAlong 20 = .ok (.invokevirtual 63, 3) := by decide +kernel
theorem dX1_hangAlong_23 : decode cX1_hangAlong 23 = .ok (.istore_n 3, 1) := by decide +kernel
theorem dX1_hangAlong_24 : decode cX1_hangAlong 24 = .ok (.iload_n 2, 1) := by decide +kernel
theorem dX1_hangAlong_25 : decode cX1_hangAlong 25 = .ok (.aload_n 0, 1) := by decide +kernel
theorem dX1_hangAlong_26 : decode cX1_hangAlong 26 = .ok (.getfield 27, 3) := by decide +kernel
theorem dX1_hangAlong_29 : decode cX1_hangAlong 29 = .ok (.getfield 93, 3) := by decide +kernel
theorem dX1_hangAlong_32 : decode cX1_hangAlong 32 = .ok (.iload_n 1, 1) := by decide +kernel
theorem dX1_hangAlong_33 : decode cX1_hangAlong 33 = .ok (.invokevirtual 63, 3) := by decide +kernel
theorem dX1_hangAlong_36 : decode cX1_hangAlong 36 = .ok (.iload_n 3, 1) := by decide +kernel
theorem dX1_hangAlong_37 : decode cX1_hangAlong 37 = .ok (.invokestatic 96, 3) := by decide +kernel
theorem dX1_hangAlong_40 : decode cX1_hangAlong 40 = .ok (.istore 4, 2) := by decide +kernel
theorem dX1_hangAlong_42 : decode cX1_hangAlong 42 = .ok (.iconst 0, 1) := by decide +kernel
theorem dX1_hangAlong_43 : decode cX1_hangAlong 43 = .ok (.istore 5, 2) := by decide +kernel
theorem dX1_hangAlong_45 : decode cX1_hangAlong 45 = .ok (.iload 5, 2) := by decide +kernel
theorem dX1_hangAlong_47 : decode cX1_hangAlong 47 = .ok (.bipush 16, 2) := by decide +kernel
theorem dX1_hangAlong_49 : decode cX1_hangAlong 49 = .ok (.if_icmp .ge 96, 3) := by decide +kernel
theorem dX1_hangAlong_52 : decode cX1_hangAlong 52 = .ok (.aload_n 0, 1) := by decide +kernel
theorem dX1_hangAlong_53 : decode cX1_hangAlong 53 = .ok (.getfield 23, 3) := by decide +kernel
theorem dX1_hangAlong_56 : decode cX1_hangAlong 56 = .ok (.iload_n 2, 1) := by decide +kernel
theorem dX1_hangAlong_57 : decode cX1_hangAlong 57 = .ok (.aload_n 0, 1) := by decide +kernel
theorem dX1_hangAlong_58 : decode cX1_hangAlong 58 = .ok (.getfield 27, 3) := by decide +kernel
theorem dX1_hangAlong_61 : decode cX1_hangAlong 61 = .ok (.getfield 99, 3) := by decide +kernel
theorem dX1_hangAlong_64 : decode cX1_hangAlong 64 = .ok (.iload_n 1, 1) := by decide +kernel
theorem dX1_hangAlong_65 : decode cX1_hangAlong 65 = .ok (.invokevirtual 63, 3) := by decide +kernel
theorem dX1_hangAlong_68 : decode cX1_hangAlong 68 = .ok (.aload_n 0, 1) := by decide +kernel
theorem dX1_hangAlong_69 : decode cX1_hangAlong 69 = .ok (.getfield 27, 3) := by decide +kernel
theorem dX1_hangAlong_72 : decode cX1_hangAlong 72 = .ok (.getfield 102, 3) := by decide +kernel
theorem dX1_hangAlong_75 : decode cX1_hangAlong 75 = .ok (.iload_n 1, 1) := by decide +kernel
theorem dX1_hangAlong_76 : decode cX1_hangAlong 76 = .ok (.invokevirtual 63, 3) := by decide +kernel
theorem dX1_hangAlong_79 : decode cX1_hangAlong 79 = .ok (.invokevirtual 105, 3) := by decide +kernel
theorem dX1_hangAlong_82 : decode cX1_hangAlong 82 = .ok (.istore 6, 2) := by decide +kernel
theorem dX1_hangAlong_84 : decode cX1_hangAlong 84 = .ok (.aload_n 0, 1) := by decide +kernel
theorem dX1_hangAlong_85 : decode cX1_hangAlong 85 = .ok (.iload_n 2, 1) := by decide +kernel
theorem dX1_hangAlong_86 : decode cX1_hangAlong 86 = .ok (.iload 6, 2) := by decide +kernel
theorem dX1_hangAlong_88 : decode cX1_hangAlong 88 = .ok (.iload_n 3, 1) := by decide +kernel
theorem dX1_hangAlong_89 : decode cX1_hangAlong 89 = .ok (.invokevirtual 72, 3) := by decide +kernel
theorem dX1_hangAlong_92 : decode cX1_hangAlong 92 = .ok (.istore 7, 2) := by decide +kernel
theorem dX1_hangAlong_94 : decode cX1_hangAlong 94 = .ok (.iload 7, 2) := by decide +kernel
theorem dX1_hangAlong_96 : decode cX1_hangAlong 96 = .ok (.iconst (-1), 1) := by decide +kernel
theorem dX1_hangAlong_97 : decode cX1_hangAlong 97 = .ok (.if_icmp .ne 4, 3) := by decide +kernel
theorem dX1_hangAlong_100 : decode cX1_hangAlong 100 = .ok (.return_, 1) := by decide +kernel
theorem dX1_hangAlong_101 : decode cX1_hangAlong 101 = .ok (.aload_n 0, 1) := by decide +kernel
theorem dX1_hangAlong_102 : decode cX1_hangAlong 102 = .ok (.getfield 20, 3) := by decide +kernel
theorem dX1_hangAlong_105 : decode cX1_hangAlong 105 = .ok (.iload 4, 2) := by decide +kernel
theorem dX1_hangAlong_107 : decode cX1_hangAlong 107 = .ok (.aload_n 0, 1) := by decide +kernel
theorem dX1_hangAlong_108 : decode cX1_hangAlong 108 = .ok (.getfield 20, 3) := by decide +kernel
theorem dX1_hangAlong_111 : decode cX1_hangAlong 111 = .ok (.iload 4, 2) := by decide +kernel
theorem dX1_hangAlong_113 : decode cX1_hangAlong 113 = .ok (.invokevirtual 63, 3) := by decide +kernel
theorem dX1_hangAlong_116 : decode cX1_hangAlong 116 = .ok (.iconst 1, 1) := by decide +kernel
theorem dX1_hangAlong_117 : decode cX1_hangAlong 117 = .ok (.iload 6, 2) := by decide +kernel
theorem dX1_hangAlong_119 : decode cX1_hangAlong 119 = .ok (.ishl, 1) := by decide +kernel
theorem dX1_hangAlong_120 : decode cX1_hangAlong 120 = .ok (.ior, 1) := by decide +kernel
theorem dX1_hangAlong_121 : decode cX1_hangAlong 121 = .ok (.invokevirtual 45, 3) := by decide +kernel
theorem dX1_hangAlong_124 : decode cX1_hangAlong 124 = .ok (.aload_n 0, 1) := by decide +kernel
theorem dX1_hangAlong_125 : decode cX1_hangAlong 125 = .ok (.getfield 23, 3) := by decide +kernel
theorem dX1_hangAlong_128 : decode cX1_hangAlong 128 = .ok (.iload_n 2, 1) := by decide +kernel
theorem dX1_hangAlong_129 : decode cX1_hangAlong 129 = .ok (.iload 6, 2) := by decide +kernel
theorem dX1_hangAlong_131 : decode cX1_hangAlong 131 = .ok (.invokevirtual 108, 3) := by decide +kernel
theorem dX1_hangAlong_134 : decode cX1_hangAlong 134 = .ok (.istore_n 2, 1) := by decide +kernel
theorem dX1_hangAlong_135 : decode cX1_hangAlong 135 = .ok (.iload 7, 2) := by decide +kernel
theorem dX1_hangAlong_137 : decode cX1_hangAlong 137 = .ok (.istore 4, 2) := by decide +kernel
theorem dX1_hangAlong_139 : decode cX1_hangAlong 139 = .ok (.iinc 5 1, 3) := by decide +kernel
theorem dX1_hangAlong_142 : decode cX1_hangAlong 142 = .ok (.goto (-97), 3) := by decide +kernel
theorem dX1_hangAlong_145 : decode cX1_hangAlong 145 = .ok (.return_, 1) := by decide +kernel
set_option maxRecDepth 20000 in
theorem ggX1_cutEnds_X3_size : GoodIn wsX1_cutEnds wsX3_size := goodIn_r _ [7, 8, 9, 44, 45, 46, 47] (by decide +kernel) (by decide +kernel)
set_option maxRecDepth 20000 in
theorem gX1_cutEnds_X3_size : GoodIn wsX1_cutEnds (wsV RX1 35 RX3 yX3_size wsX3_size) := goodIn_app (goodIn_of _ (by decide +kernel)) ggX1_cutEnds_X3_size
set_option maxRecDepth 20000 in
theorem ggX1_cutEnds_X5_at : GoodIn wsX1_cutEnds wsX5_at := goodIn_r _ [14, 15, 48] (by decide +kernel) (by decide +kernel)
set_option maxRecDepth 20000 in
theorem gX1_cutEnds_X5_at : GoodIn wsX1_cutEnds (wsV RX1 63 RX5 yX5_at wsX5_at) := goodIn_app (goodIn_of _ (by decide +kernel)) ggX1_cutEnds_X5_at
set_option maxRecDepth 20000 in
theorem ggX1_cutEnds_X1_isEnd : GoodIn wsX1_cutEnds wsX1_isEnd := goodIn_r _ [20, 2, 21, 22, 23, 19, 24, 1, 25, 26, 27, 6, 28, 29, 8, 30, 9, 31, 11, 12, 13, 14, 15, 32, 33, 34, 10, 39, 40, 41, 42, 43, 44, 45, 46, 47, 48] (by decide +kernel) (by decide +kernel)
set_option maxRecDepth 20000 in
theorem gX1_cutEnds_X1_isEnd : GoodIn wsX1_cutEnds (wsV RX1 112 RX1 yX1_isEnd wsX1_isEnd) := goodIn_app (goodIn_of _ (by decide +kernel)) ggX1_cutEnds_X1_isEnd
set_option maxRecDepth 20000 in
theorem ggX1_cutEnds_X5_put : GoodIn wsX1_cutEnds wsX5_put := goodIn_r _ [38, 15, 48] (by decide +kernel) (by decide +kernel)
set_option maxRecDepth 20000 in
theorem gX1_cutEnds_X5_put : GoodIn wsX1_cutEnds (wsV RX1 45 RX5 yX5_put wsX5_put) := goodIn_app (goodIn_of _ (by decide +kernel)) ggX1_cutEnds_X5_put
theorem dX1_cutEnds_0 : decode cX1_cutEnds 0 = .ok (.iconst 0, 1) := by decide +kernel
theorem dX1_cutEnds_1 : decode cX1_cutEnds 1 = .ok (.istore_n 1, 1) := by decide +kernel
theorem dX1_cutEnds_2 : decode cX1_cutEnds 2 = .ok (.iconst 0, 1) := by decide +kernel
theorem dX1_cutEnds_3 : decode cX1_cutEnds 3 = .ok (.istore_n 2, 1) := by decide +kernel
theorem dX1_cutEnds_4 : decode cX1_cutEnds 4 = .ok (.iload_n 2, 1) := by decide +kernel
theorem dX1_cutEnds_5 : decode cX1_cutEnds 5 = .ok (.aload_n 0, 1) := by decide +kernel
theorem dX1_cutEnds_6 : decode cX1_cutEnds 6 = .ok (.getfield 23, 3) := by decide +kernel
theorem dX1_cutEnds_9 : decode cX1_cutEnds 9 = .ok (.invokevirtual 35, 3) := by decide +kernel
theorem dX1_cutEnds_12 : decode cX1_cutEnds 12 = .ok (.if_icmp .ge 75, 3) := by decide +kernel
theorem dX1_cutEnds_15 : decode cX1_cutEnds 15 = .ok (.iconst 0, 1) := by decide +kernel
theorem dX1_cutEnds_16 : decode cX1_cutEnds 16 = .ok (.istore_n 3, 1) := by decide +kernel
theorem dX1_cutEnds_17 : decode cX1_cutEnds 17 = .ok (.iload_n 3, 1) := by decide +kernel
theorem dX1_cutEnds_18 : decode cX1_cutEnds 18 = .ok (.bipush 10, 2) := by decide +kernel
theorem dX1_cutEnds_20 : decode cX1_cutEnds 20 = .ok (.if_icmp .ge 61, 3) := by decide +kernel
theorem dX1_cutEnds_23 : decode cX1_cutEnds 23 = .ok (.iload_n 2, 1) := by decide +kernel
theorem dX1_cutEnds_24 : decode cX1_cutEnds 24 = .ok (.bipush 10, 2) := by decide +kernel
theorem dX1_cutEnds_26 : decode cX1_cutEnds 26 = .ok (.imul, 1) := by decide +kernel
theorem dX1_cutEnds_27 : decode cX1_cutEnds 27 = .ok (.iload_n 3, 1) := by decide +kernel
theorem dX1_cutEnds_28 : decode cX1_cutEnds 28 = .ok (.iadd, 1) := by decide +kernel
theorem dX1_cutEnds_29 : decode cX1_cutEnds 29 = .ok (.istore 4, 2) := by decide +kernel
theorem dX1_cutEnds_31 : decode cX1_cutEnds 31 = .ok (.aload_n 0, 1) := by decide +kernel
theorem dX1_cutEnds_32 : decode cX1_cutEnds 32 = .ok (.getfield 20, 3) := by decide +kernel
theorem dX1_cutEnds_35 : decode cX1_cutEnds 35 = .ok (.iload 4, 2) := by decide +kernel
theorem dX1_cutEnds_37 : decode cX1_cutEnds 37 = .ok (.invokevirtual 63, 3) := by decide +kernel
theorem dX1_cutEnds_40 : decode cX1_cutEnds 40 = .ok (.ifCond .eq 35, 3) := by decide +kernel
theorem dX1_cutEnds_43 : decode cX1_cutEnds 43 = .ok (.aload_n 0, 1) := by decide +kernel
theorem dX1_cutEnds_44 : decode cX1_cutEnds 44 = .ok (.iload_n 2, 1) := by decide +kernel
theorem dX1_cutEnds_45 : decode cX1_cutEnds 45 = .ok (.iload_n 3, 1) := by decide +kernel
theorem dX1_cutEnds_46 : decode cX1_cutEnds 46 = .ok (.iconst 1, 1) := by decide +kernel
theorem dX1_cutEnds_47 : decode cX1_cutEnds 47 = .ok (.iand, 1) := by decide +kernel
theorem dX1_cutEnds_48 : decode cX1_cutEnds 48 = .ok (.aload_n 0, 1) := by decide +kernel
theorem dX1_cutEnds_49 : decode cX1_cutEnds 49 = .ok (.getfield 20, 3) := by decide +kernel
theorem dX1_cutEnds_52 : decode cX1_cutEnds 52 = .ok (.iload 4, 2) := by decide +kernel
theorem dX1_cutEnds_54 : decode cX1_cutEnds 54 = .ok (.invokevirtual 63, 3) := by decide +kernel
theorem dX1_cutEnds_57 : decode cX1_cutEnds 57 = .ok (.invokevirtual 112, 3) := by decide +kernel
theorem dX1_cutEnds_60 : decode cX1_cutEnds 60 = .ok (.ifCond .eq 15, 3) := by decide +kernel
theorem dX1_cutEnds_63 : decode cX1_cutEnds 63 = .ok (.aload_n 0, 1) := by decide +kernel
theorem dX1_cutEnds_64 : decode cX1_cutEnds 64 = .ok (.getfield 20, 3) := by decide +kernel
theorem dX1_cutEnds_67 : decode cX1_cutEnds 67 = .ok (.iload 4, 2) := by decide +kernel
theorem dX1_cutEnds_69 : decode cX1_cutEnds 69 = .ok (.iconst 0, 1) := by decide +kernel
theorem dX1_cutEnds_70 : decode cX1_cutEnds 70 = .ok (.invokevirtual 45, 3) := by decide +kernel
theorem dX1_cutEnds_73 : decode cX1_cutEnds 73 = .ok (.iconst 1, 1) := by decide +kernel
theorem dX1_cutEnds_74 : decode cX1_cutEnds 74 = .ok (.istore_n 1, 1) := by decide +kernel
theorem dX1_cutEnds_75 : decode cX1_cutEnds 75 = .ok (.iinc 3 1, 3) := by decide +kernel
theorem dX1_cutEnds_78 : decode cX1_cutEnds 78 = .ok (.goto (-61), 3) := by decide +kernel
theorem dX1_cutEnds_81 : decode cX1_cutEnds 81 = .ok (.iinc 2 1, 3) := by decide +kernel
theorem dX1_cutEnds_84 : decode cX1_cutEnds 84 = .ok (.goto (-80), 3) := by decide +kernel
theorem dX1_cutEnds_87 : decode cX1_cutEnds 87 = .ok (.iload_n 1, 1) := by decide +kernel
theorem dX1_cutEnds_88 : decode cX1_cutEnds 88 = .ok (.ireturn, 1) := by decide +kernel
set_option maxRecDepth 20000 in
theorem ggX1_isEnd_X1_nextBuffer : GoodIn wsX1_isEnd wsX1_nextBuffer := goodIn_r _ [6, 7, 8, 9, 10, 11, 12, 13, 14, 15, 16, 17, 18, 19, 20, 21, 22, 23, 24, 25, 27, 28, 29, 30, 31, 32, 33, 34, 35, 36] (by decide +kernel) (by decide +kernel)
set_option maxRecDepth 20000 in
theorem gX1_isEnd_X1_nextBuffer : GoodIn wsX1_isEnd (wsV RX1 72 RX1 yX1_nextBuffer wsX1_nextBuffer) := goodIn_app (goodIn_of _ (by decide +kernel)) ggX1_isEnd_X1_nextBuffer
set_option maxRecDepth 20000 in
theorem ggX1_isEnd_X5_at : GoodIn wsX1_isEnd wsX5_at := goodIn_r _ [21, 22, 36] (by decide +kernel) (by decide +kernel)
set_option maxRecDepth 20000 in
theorem gX1_isEnd_X5_at : GoodIn wsX1_isEnd (wsV RX1 63 RX5 yX5_at wsX5_at) := goodIn_app (goodIn_of _ (by decide +kernel)) ggX1_isEnd_X5_at
theorem dX1_isEnd_0 : decode cX1_isEnd 0 = .ok (.iconst 0, 1) := by decide +kernel
theorem dX1_isEnd_1 : decode cX1_isEnd 1 = .ok (.istore 4, 2) := by decide +kernel
theorem dX1_isEnd_3 : decode cX1_isEnd 3 = .ok (.iload 4, 2) := by decide +kernel
theorem dX1_isEnd_5 : decode cX1_isEnd 5 = .ok (.iconst 4, 1) := by decide +kernel
theorem dX1_isEnd_6 : decode cX1_isEnd 6 = .ok (.if_icmp .ge 48, 3) := by decide +kernel
theorem dX1_isEnd_9 : decode cX1_isEnd 9 = .ok (.iload_n 3, 1) := by decide +kernel
theorem dX1_isEnd_10 : decode cX1_isEnd 10 = .ok (.iload 4, 2) := by decide +kernel
theorem dX1_isEnd_12 : decode cX1_isEnd 12 = .ok (.ishr, 1) := by decide +kernel
theorem dX1_isEnd_13 : decode cX1_isEnd 13 = .ok (.iconst 1, 1) := by decide +kernel
theorem dX1_isEnd_14 : decode cX1_isEnd 14 = .ok (.iand, 1) := by decide +kernel
theorem dX1_isEnd_15 : decode cX1_isEnd 15 = .ok (.ifCond .eq 33, 3) := by decide +kernel
theorem dX1_isEnd_18 : decode cX1_isEnd 18 = .ok (.aload_n 0, 1) := by decide +kernel
theorem dX1_isEnd_19 : decode cX1_isEnd 19 = .ok (.iload_n 1, 1) := by decide +kernel
theorem dX1_isEnd_20 : decode cX1_isEnd 20 = .ok (.iload 4, 2) := by decide +kernel
theorem dX1_isEnd_22 : decode cX1_isEnd 22 = .ok (.iload_n 2, 1) := by decide +kernel
theorem dX1_isEnd_23 : decode cX1_isEnd 23 = .ok (.invokevirtual 72, 3) := by decide +kernel
theorem dX1_isEnd_26 : decode cX1_isEnd 26 = .ok (.istore 5, 2) := by decide +kernel
theorem dX1_isEnd_28 : decode cX1_isEnd 28 = .ok (.iload 5, 2) := by decide +kernel
theorem dX1_isEnd_30 : decode cX1_isEnd 30 = .ok (.iconst (-1), 1) := by decide +kernel
theorem dX1_isEnd_31 : decode cX1_isEnd 31 = .ok (.if_icmp .eq 17, 3) := by decide +kernel
theorem dX1_isEnd_34 : decode cX1_isEnd 34 = .ok (.aload_n 0, 1) := by decide +kernel
theorem dX1_isEnd_35 : decode cX1_isEnd 35 = .ok (.getfield 20, 3) := by decide +kernel
theorem dX1_isEnd_38 : decode cX1_isEnd 38 = .ok (.iload 5, 2) := by decide +kernel
theorem dX1_isEnd_40 : decode cX1_isEnd 40 = .ok (.invokevirtual 63, 3) := by decide +kernel
theorem dX1_isEnd_43 : decode cX1_isEnd 43 = .ok (.ifCond .eq 5, 3) := by decide +kernel
theorem dX1_isEnd_46 : decode cX1_isEnd 46 = .ok (.iconst 0, 1) := by decide +kernel
theorem dX1_isEnd_47 : decode cX1_isEnd 47 = .ok (.ireturn, 1) := by decide +kernel
theorem dX1_isEnd_48 : decode cX1_isEnd 48 = .ok (.iinc 4 1, 3) := by decide +kernel
theorem dX1_isEnd_51 : decode cX1_isEnd 51 = .ok (.goto (-48), 3) := by decide +kernel
theorem dX1_isEnd_54 : decode cX1_isEnd 54 = .ok (.iconst 1, 1) := by decide +kernel
theorem dX1_isEnd_55 : decode cX1_isEnd 55 = .ok (.ireturn, 1) := by decide +kernel
set_option maxRecDepth 20000 in
theorem ggX1_nextBuffer_X3_behind : GoodIn wsX1_nextBuffer wsX3_behind := goodIn_r _ [6, 7, 8, 9, 10, 11, 12, 13, 14, 15, 16, 25, 26, 27, 28, 29] (by decide +kernel) (by decide +kernel)
set_option maxRecDepth 20000 in
theorem gX1_nextBuffer_X3_behind : GoodIn wsX1_nextBuffer (wsV RX1 108 RX3 yX3_behind wsX3_behind) := goodIn_app (goodIn_of _ (by decide +kernel)) ggX1_nextBuffer_X3_behind
set_option maxRecDepth 20000 in
theorem ggX1_nextBuffer_X7_bufferOf : GoodIn wsX1_nextBuffer wsX7_bufferOf := goodIn_r _ [19] (by decide +kernel) (by decide +kernel)
set_option maxRecDepth 20000 in
theorem gX1_nextBuffer_X7_bufferOf_n96 : GoodIn wsX1_nextBuffer (wsX7_bufferOf) := ggX1_nextBuffer_X7_bufferOf
theorem dX1_nextBuffer_0 : decode cX1_nextBuffer 0 = .ok (.aload_n 0, 1) := by decide +kernel
theorem dX1_nextBuffer_1 : decode cX1_nextBuffer 1 = .ok (.getfield 23, 3) := by decide +kernel
theorem dX1_nextBuffer_4 : decode cX1_nextBuffer 4 = .ok (.iload_n 1, 1) := by decide +kernel
theorem dX1_nextBuffer_5 : decode cX1_nextBuffer 5 = .ok (.iload_n 2, 1) := by decide +kernel
theorem dX1_nextBuffer_6 : decode cX1_nextBuffer 6 = .ok (.invokevirtual 108, 3) := by decide +kernel
theorem dX1_nextBuffer_9 : decode cX1_nextBuffer 9 = .ok (.istore 4, 2) := by decide +kernel
theorem dX1_nextBuffer_11 : decode cX1_nextBuffer 11 = .ok (.iload 4, 2) := by decide +kernel
theorem dX1_nextBuffer_13 : decode cX1_nextBuffer 13 = .ok (.iconst (-1), 1) := by decide +kernel
theorem dX1_nextBuffer_14 : decode cX1_nextBuffer 14 = .ok (.if_icmp .ne 7, 3) := by decide +kernel
theorem dX1_nextBuffer_17 : decode cX1_nextBuffer 17 = .ok (.iconst (-1), 1) := by decide +kernel
theorem dX1_nextBuffer_18 : decode cX1_nextBuffer 18 = .ok (.goto 10, 3) := by decide +kernel
theorem dX1_nextBuffer_21 : decode cX1_nextBuffer 21 = .ok (.iload 4, 2) := by decide +kernel
theorem dX1_nextBuffer_23 : decode cX1_nextBuffer 23 = .ok (.iload_n 2, 1) := by decide +kernel
theorem dX1_nextBuffer_24 : decode cX1_nextBuffer 24 = .ok (.iload_n 3, 1) := by decide +kernel
theorem dX1_nextBuffer_25 : decode cX1_nextBuffer 25 = .ok (.invokestatic 96, 3) := by decide +kernel
theorem dX1_nextBuffer_28 : decode cX1_nextBuffer 28 = .ok (.ireturn, 1) := by decide +kernel
set_option maxRecDepth 20000 in
theorem ggX2_init_X5_init : GoodIn wsX2_init wsX5_init := goodIn_r _ [11, 12, 2, 3, 13, 14, 15] (by decide +kernel) (by decide +kernel)
set_option maxRecDepth 20000 in
theorem gX2_init_X5_init : GoodIn wsX2_init (wsX5_init) := ggX2_init_X5_init
theorem dX2_init_0 : decode cX2_init 0 = .ok (.aload_n 0, 1) := by decide +kernel
theorem dX2_init_1 : decode cX2_init 1 = .ok (.invokespecial 3, 3) := by decide +kernel
theorem dX2_init_4 : decode cX2_init 4 = .ok (.aload_n 0, 1) := by decide +kernel
theorem dX2_init_5 : decode cX2_init 5 = .ok (.new 9, 3) := by decide +kernel
theorem dX2_init_8 : decode cX2_init 8 = .ok (.dup, 1) := by decide +kernel
theorem dX2_init_9 : decode cX2_init 9 = .ok (.sipush 160, 3) := by decide +kernel
theorem dX2_init_12 : decode cX2_init 12 = .ok (.invokespecial 11, 3) := by decide +kernel
theorem dX2_init_15 : decode cX2_init 15 = .ok (.putfield 14, 3) := by decide +kernel
theorem dX2_init_18 : decode cX2_init 18 = .ok (.aload_n 0, 1) := by decide +kernel
theorem dX2_init_19 : decode cX2_init 19 = .ok (.new 9, 3) := by decide +kernel
theorem dX2_init_22 : decode cX2_init 22 = .ok (.dup, 1) := by decide +kernel
theorem dX2_init_23 : decode cX2_init 23 = .ok (.sipush 640, 3) := by decide +kernel
theorem dX2_init_26 : decode cX2_init 26 = .ok (.invokespecial 11, 3) := by decide +kernel
theorem dX2_init_29 : decode cX2_init 29 = .ok (.putfield 20, 3) := by decide +kernel
theorem dX2_init_32 : decode cX2_init 32 = .ok (.return_, 1) := by decide +kernel
set_option maxRecDepth 20000 in
theorem ggX2_fill_X5_fill : GoodIn wsX2_fill wsX5_fill := goodIn_r _ [9, 10, 15] (by decide +kernel) (by decide +kernel)
set_option maxRecDepth 20000 in
theorem gX2_fill_X5_fill : GoodIn wsX2_fill (wsV RX2 27 RX5 yX5_fill wsX5_fill) := goodIn_app (goodIn_of _ (by decide +kernel)) ggX2_fill_X5_fill
theorem dX2_fill_0 : decode cX2_fill 0 = .ok (.aload_n 0, 1) := by decide +kernel
theorem dX2_fill_1 : decode cX2_fill 1 = .ok (.iload_n 2, 1) := by decide +kernel
theorem dX2_fill_2 : decode cX2_fill 2 = .ok (.putfield 23, 3) := by decide +kernel
theorem dX2_fill_5 : decode cX2_fill 5 = .ok (.aload_n 0, 1) := by decide +kernel
theorem dX2_fill_6 : decode cX2_fill 6 = .ok (.getfield 14, 3) := by decide +kernel
theorem dX2_fill_9 : decode cX2_fill 9 = .ok (.iload_n 1, 1) := by decide +kernel
theorem dX2_fill_10 : decode cX2_fill 10 = .ok (.invokevirtual 27, 3) := by decide +kernel
theorem dX2_fill_13 : decode cX2_fill 13 = .ok (.aload_n 0, 1) := by decide +kernel
theorem dX2_fill_14 : decode cX2_fill 14 = .ok (.getfield 20, 3) := by decide +kernel
theorem dX2_fill_17 : decode cX2_fill 17 = .ok (.iconst 0, 1) := by decide +kernel
theorem dX2_fill_18 : decode cX2_fill 18 = .ok (.invokevirtual 27, 3) := by decide +kernel
theorem dX2_fill_21 : decode cX2_fill 21 = .ok (.aload_n 0, 1) := by decide +kernel
theorem dX2_fill_22 : decode cX2_fill 22 = .ok (.iconst 0, 1) := by decide +kernel
theorem dX2_fill_23 : decode cX2_fill 23 = .ok (.putfield 30, 3) := by decide +kernel
theorem dX2_fill_26 : decode cX2_fill 26 = .ok (.return_, 1) := by decide +kernel
set_option maxRecDepth 20000 in
theorem ggX2_there_X5_at : GoodIn wsX2_there wsX5_at := goodIn_r _ [6, 7, 12] (by decide +kernel) (by decide +kernel)
set_option maxRecDepth 20000 in
theorem gX2_there_X5_at : GoodIn wsX2_there (wsV RX2 33 RX5 yX5_at wsX5_at) := goodIn_app (goodIn_of _ (by decide +kernel)) ggX2_there_X5_at
theorem dX2_there_0 : decode cX2_there 0 = .ok (.aload_n 0, 1) := by decide +kernel
theorem dX2_there_1 : decode cX2_there 1 = .ok (.getfield 14, 3) := by decide +kernel
theorem dX2_there_4 : decode cX2_there 4 = .ok (.iload_n 1, 1) := by decide +kernel
theorem dX2_there_5 : decode cX2_there 5 = .ok (.invokevirtual 33, 3) := by decide +kernel
theorem dX2_there_8 : decode cX2_there 8 = .ok (.ireturn, 1) := by decide +kernel
set_option maxRecDepth 20000 in
theorem ggX2_take_X5_add : GoodIn wsX2_take wsX5_add := goodIn_r _ [6, 7, 8, 9, 5, 10, 11, 12, 13, 14, 15, 20] (by decide +kernel) (by decide +kernel)
set_option maxRecDepth 20000 in
theorem gX2_take_X5_add : GoodIn wsX2_take (wsV RX2 37 RX5 yX5_add wsX5_add) := goodIn_app (goodIn_of _ (by decide +kernel)) ggX2_take_X5_add
theorem dX2_take_0 : decode cX2_take 0 = .ok (.aload_n 0, 1) := by decide +kernel
theorem dX2_take_1 : decode cX2_take 1 = .ok (.getfield 14, 3) := by decide +kernel
theorem dX2_take_4 : decode cX2_take 4 = .ok (.iload_n 1, 1) := by decide +kernel
theorem dX2_take_5 : decode cX2_take 5 = .ok (.iconst (-1), 1) := by decide +kernel
theorem dX2_take_6 : decode cX2_take 6 = .ok (.invokevirtual 37, 3) := by decide +kernel
theorem dX2_take_9 : decode cX2_take 9 = .ok (.return_, 1) := by decide +kernel
set_option maxRecDepth 20000 in
theorem ggX2_giveBack_X2_slotOf : GoodIn wsX2_giveBack wsX2_slotOf := goodIn_r _ [7] (by decide +kernel) (by decide +kernel)
set_option maxRecDepth 20000 in
theorem gX2_giveBack_X2_slotOf : GoodIn wsX2_giveBack (va_wsS RX2 41 yX2_slotOf wsX2_slotOf) := goodIn_app (goodIn_of _ (by decide +kernel)) ggX2_giveBack_X2_slotOf
set_option maxRecDepth 20000 in
theorem ggX2_giveBack_X5_add : GoodIn wsX2_giveBack wsX5_add := goodIn_r _ [12, 13, 14, 15, 11, 16, 17, 18, 19, 20, 21, 26] (by decide +kernel) (by decide +kernel)
set_option maxRecDepth 20000 in
theorem gX2_giveBack_X5_add : GoodIn wsX2_giveBack (wsV RX2 37 RX5 yX5_add wsX5_add) := goodIn_app (goodIn_of _ (by decide +kernel)) ggX2_giveBack_X5_add
theorem dX2_giveBack_0 : decode cX2_giveBack 0 = .ok (.aload_n 0, 1) := by decide +kernel
theorem dX2_giveBack_1 : decode cX2_giveBack 1 = .ok (.getfield 20, 3) := by decide +kernel
theorem dX2_giveBack_4 : decode cX2_giveBack 4 = .ok (.iload_n 1, 1) := by decide +kernel
theorem dX2_giveBack_5 : decode cX2_giveBack 5 = .ok (.iload_n 2, 1) := by decide +kernel
theorem dX2_giveBack_6 : decode cX2_giveBack 6 = .ok (.iconst 1, 1) := by decide +kernel
theorem dX2_giveBack_7 : decode cX2_giveBack 7 = .ok (.iadd, 1) := by decide +kernel
theorem dX2_giveBack_8 : decode cX2_giveBack 8 = .ok (.aload_n 0, 1) := by decide +kernel
theorem dX2_giveBack_9 : decode cX2_giveBack 9 = .ok (.getfield 23, 3) := by decide +kernel
theorem dX2_giveBack_12 : decode cX2_giveBack 12 = .ok (.iadd, 1) := by decide +kernel
theorem dX2_giveBack_13 : decode cX2_giveBack 13 = .ok (.invokestatic 41, 3) := by decide +kernel
theorem dX2_giveBack_16 : decode cX2_giveBack 16 = .ok (.iconst 1, 1) := by decide +kernel
theorem dX2_giveBack_17 : decode cX2_giveBack 17 = .ok (.invokevirtual 37, 3) := by decide +kernel
theorem dX2_giveBack_20 : decode cX2_giveBack 20 = .ok (.aload_n 0, 1) := by decide +kernel
theorem dX2_giveBack_21 : decode cX2_giveBack 21 = .ok (.dup, 1) := by decide +kernel
theorem dX2_giveBack_22 : decode cX2_giveBack 22 = .ok (.getfield 30, 3) := by decide +kernel
theorem dX2_giveBack_25 : decode cX2_giveBack 25 = .ok (.iconst 1, 1) := by decide +kernel
theorem dX2_giveBack_26 : decode cX2_giveBack 26 = .ok (.iadd, 1) := by decide +kernel
theorem dX2_giveBack_27 : decode cX2_giveBack 27 = .ok (.putfield 30, 3) := by decide +kernel
theorem dX2_giveBack_30 : decode cX2_giveBack 30 = .ok (.return_, 1) := by decide +kernel
set_option maxRecDepth 20000 in
theorem ggX2_comeBack_X2_slotOf : GoodIn wsX2_comeBack wsX2_slotOf := goodIn_r _ [7] (by decide +kernel) (by decide +kernel)
set_option maxRecDepth 20000 in
theorem gX2_comeBack_X2_slotOf : GoodIn wsX2_comeBack (va_wsS RX2 41 yX2_slotOf wsX2_slotOf) := goodIn_app (goodIn_of _ (by decide +kernel)) ggX2_comeBack_X2_slotOf
set_option maxRecDepth 20000 in
theorem ggX2_comeBack_X5_at : GoodIn wsX2_comeBack wsX5_at := goodIn_r _ [12, 13, 28] (by decide +kernel) (by decide +kernel)
set_option maxRecDepth 20000 in
theorem gX2_comeBack_X5_at : GoodIn wsX2_comeBack (wsV RX2 33 RX5 yX5_at wsX5_at) := goodIn_app (goodIn_of _ (by decide +kernel)) ggX2_comeBack_X5_at
set_option maxRecDepth 20000 in
theorem ggX2_comeBack_X5_add : GoodIn wsX2_comeBack wsX5_add := goodIn_r _ [17, 18, 9, 10, 11, 12, 13, 19, 20, 21, 22, 28] (by decide +kernel) (by decide +kernel)
set_option maxRecDepth 20000 in
theorem gX2_comeBack_X5_add : GoodIn wsX2_comeBack (wsV RX2 37 RX5 yX5_add wsX5_add) := goodIn_app (goodIn_of _ (by decide +kernel)) ggX2_comeBack_X5_add
set_option maxRecDepth 20000 in
theorem ggX2_comeBack_X5_put : GoodIn wsX2_comeBack wsX5_put := goodIn_r _ [22, 13, 28] (by decide +kernel) (by decide +kernel)
set_option maxRecDepth 20000 in
theorem gX2_comeBack_X5_put : GoodIn wsX2_comeBack (wsV RX2 45 RX5 yX5_put wsX5_put) := goodIn_app (goodIn_of _ (by decide +kernel)) ggX2_comeBack_X5_put
theorem dX2_comeBack_0 : decode cX2_comeBack 0 = .ok (.aload_n 0, 1) := by decide +kernel
theorem dX2_comeBack_1 : decode cX2_comeBack 1 = .ok (.getfield 30, 3) := by decide +kernel
theorem dX2_comeBack_4 : decode cX2_comeBack 4 = .ok (.ifCond .ne 4, 3) := by decide +kernel
theorem dX2_comeBack_7 : decode cX2_comeBack 7 = .ok (.return_, 1) := by decide +kernel
theorem dX2_comeBack_8 : decode cX2_comeBack 8 = .ok (.iconst 0, 1) := by decide +kernel
theorem dX2_comeBack_9 : decode cX2_comeBack 9 = .ok (.istore_n 2, 1) := by decide +kernel
theorem dX2_comeBack_10 : decode cX2_comeBack 10 = .ok (.iload_n 2, 1) := by decide +kernel
theorem dX2_comeBack_11 : decode cX2_comeBack 11 = .ok (.sipush 160, 3) := by decide +kernel
theorem dX2_comeBack_14 : decode cX2_comeBack 14 = .ok (.if_icmp .ge 55, 3) := by decide +kernel
theorem dX2_comeBack_17 : decode cX2_comeBack 17 = .ok (.iload_n 2, 1) := by decide +kernel
theorem dX2_comeBack_18 : decode cX2_comeBack 18 = .ok (.iload_n 1, 1) := by decide +kernel
theorem dX2_comeBack_19 : decode cX2_comeBack 19 = .ok (.invokestatic 41, 3) := by decide +kernel
theorem dX2_comeBack_22 : decode cX2_comeBack 22 = .ok (.istore_n 3, 1) := by decide +kernel
theorem dX2_comeBack_23 : decode cX2_comeBack 23 = .ok (.aload_n 0, 1) := by decide +kernel
theorem dX2_comeBack_24 : decode cX2_comeBack 24 = .ok (.getfield 20, 3) := by decide +kernel
theorem dX2_comeBack_27 : decode cX2_comeBack 27 = .ok (.iload_n 3, 1) := by decide +kernel
theorem dX2_comeBack_28 : decode cX2_comeBack 28 = .ok (.invokevirtual 33, 3) := by decide +kernel
theorem dX2_comeBack_31 : decode cX2_comeBack 31 = .ok (.istore 4, 2) := by decide +kernel
theorem dX2_comeBack_33 : decode cX2_comeBack 33 = .ok (.aload_n 0, 1) := by decide +kernel
theorem dX2_comeBack_34 : decode cX2_comeBack 34 = .ok (.getfield 14, 3) := by decide +kernel
theorem dX2_comeBack_37 : decode cX2_comeBack 37 = .ok (.iload_n 2, 1) := by decide +kernel
theorem dX2_comeBack_38 : decode cX2_comeBack 38 = .ok (.iload 4, 2) := by decide +kernel
theorem dX2_comeBack_40 : decode cX2_comeBack 40 = .ok (.invokevirtual 37, 3) := by decide +kernel
theorem dX2_comeBack_43 : decode cX2_comeBack 43 = .ok (.aload_n 0, 1) := by decide +kernel
theorem dX2_comeBack_44 : decode cX2_comeBack 44 = .ok (.getfield 20, 3) := by decide +kernel
theorem dX2_comeBack_47 : decode cX2_comeBack 47 = .ok (.iload_n 3, 1) := by decide +kernel
theorem dX2_comeBack_48 : decode cX2_comeBack 48 = .ok (.iconst 0, 1) := by decide +kernel
theorem dX2_comeBack_49 : decode cX2_comeBack 49 = .ok (.invokevirtual 45, 3) := by decide +kernel
theorem dX2_comeBack_52 : decode cX2_comeBack 52 = .ok (.aload_n 0, 1) := by decide +kernel
theorem dX2_comeBack_53 : decode cX2_comeBack 53 = .ok (.dup, 1) := by decide +kernel
theorem dX2_comeBack_54 : decode cX2_comeBack 54 = .ok (.getfield 30, 3) := by decide +kernel
theorem dX2_comeBack_57 : decode cX2_comeBack 57 = .ok (.iload 4, 2) := by decide +kernel
theorem dX2_comeBack_59 : decode cX2_comeBack 59 = .ok (.isub, 1) := by decide +kernel
theorem dX2_comeBack_60 : decode cX2_comeBack 60 = .ok (.putfield 30, 3) := by decide +kernel
theorem dX2_comeBack_63 : decode cX2_comeBack 63 = .ok (.iinc 2 1, 3) := by decide +kernel
theorem dX2_comeBack_66 : decode cX2_comeBack 66 = .ok (.goto (-56), 3) := by decide +kernel
theorem dX2_comeBack_69 : decode cX2_comeBack 69 = .ok (.return_, 1) := by decide +kernel
set_option maxRecDepth 20000 in
theorem ggX2_settle_X2_slotOf : GoodIn wsX2_settle wsX2_slotOf := goodIn_r _ [6] (by decide +kernel) (by decide +kernel)
set_option maxRecDepth 20000 in
theorem gX2_settle_X2_slotOf : GoodIn wsX2_settle (va_wsS RX2 41 yX2_slotOf wsX2_slotOf) := goodIn_app (goodIn_of _ (by decide +kernel)) ggX2_settle_X2_slotOf
set_option maxRecDepth 20000 in
theorem ggX2_settle_X5_at : GoodIn wsX2_settle wsX5_at := goodIn_r _ [11, 12, 21] (by decide +kernel) (by decide +kernel)
set_option maxRecDepth 20000 in
theorem gX2_settle_X5_at : GoodIn wsX2_settle (wsV RX2 33 RX5 yX5_at wsX5_at) := goodIn_app (goodIn_of _ (by decide +kernel)) ggX2_settle_X5_at
set_option maxRecDepth 20000 in
theorem ggX2_settle_X5_put : GoodIn wsX2_settle wsX5_put := goodIn_r _ [16, 12, 21] (by decide +kernel) (by decide +kernel)
set_option maxRecDepth 20000 in
theorem gX2_settle_X5_put : GoodIn wsX2_settle (wsV RX2 45 RX5 yX5_put wsX5_put) := goodIn_app (goodIn_of _ (by decide +kernel)) ggX2_settle_X5_put
theorem dX2_settle_0 : decode cX2_settle 0 = .ok (.iload_n 2, 1) := by decide +kernel
theorem dX2_settle_1 : decode cX2_settle 1 = .ok (.istore_n 3, 1) := by decide +kernel
theorem dX2_settle_2 : decode cX2_settle 2 = .ok (.iconst 0, 1) := by decide +kernel
theorem dX2_settle_3 : decode cX2_settle 3 = .ok (.istore 4, 2) := by decide +kernel
theorem dX2_settle_5 : decode cX2_settle 5 = .ok (.iload 4, 2) := by decide +kernel
theorem dX2_settle_7 : decode cX2_settle 7 = .ok (.iconst 4, 1) := by decide +kernel
theorem dX2_settle_8 : decode cX2_settle 8 = .ok (.if_icmp .ge 25, 3) := by decide +kernel
theorem dX2_settle_11 : decode cX2_settle 11 = .ok (.iload_n 3, 1) := by decide +kernel
theorem dX2_settle_12 : decode cX2_settle 12 = .ok (.aload_n 0, 1) := by decide +kernel
theorem dX2_settle_13 : decode cX2_settle 13 = .ok (.getfield 20, 3) := by decide +kernel
theorem dX2_settle_16 : decode cX2_settle 16 = .ok (.iload_n 1, 1) := by decide +kernel
theorem dX2_settle_17 : decode cX2_settle 17 = .ok (.iload 4, 2) := by decide +kernel
theorem dX2_settle_19 : decode cX2_settle 19 = .ok (.invokestatic 41, 3) := by decide +kernel
theorem dX2_settle_22 : decode cX2_settle 22 = .ok (.invokevirtual 33, 3) := by decide +kernel
theorem dX2_settle_25 : decode cX2_settle 25 = .ok (.isub, 1) := by decide +kernel
theorem dX2_settle_26 : decode cX2_settle 26 = .ok (.istore_n 3, 1) := by decide +kernel
theorem dX2_settle_27 : decode cX2_settle 27 = .ok (.iinc 4 1, 3) := by decide +kernel
theorem dX2_settle_30 : decode cX2_settle 30 = .ok (.goto (-25), 3) := by decide +kernel
theorem dX2_settle_33 : decode cX2_settle 33 = .ok (.iload_n 3, 1) := by decide +kernel
theorem dX2_settle_34 : decode cX2_settle 34 = .ok (.aload_n 0, 1) := by decide +kernel
theorem dX2_settle_35 : decode cX2_settle 35 = .ok (.getfield 14, 3) := by decide +kernel
theorem dX2_settle_38 : decode cX2_settle 38 = .ok (.iload_n 1, 1) := by decide +kernel
theorem dX2_settle_39 : decode cX2_settle 39 = .ok (.invokevirtual 33, 3) := by decide +kernel
theorem dX2_settle_42 : decode cX2_settle 42 = .ok (.isub, 1) := by decide +kernel
theorem dX2_settle_43 : decode cX2_settle 43 = .ok (.istore 4, 2) := by decide +kernel
theorem dX2_settle_45 : decode cX2_settle 45 = .ok (.aload_n 0, 1) := by decide +kernel
theorem dX2_settle_46 : decode cX2_settle 46 = .ok (.getfield 14, 3) := by decide +kernel
theorem dX2_settle_49 : decode cX2_settle 49 = .ok (.iload_n 1, 1) := by decide +kernel
theorem dX2_settle_50 : decode cX2_settle 50 = .ok (.iload_n 3, 1) := by decide +kernel
theorem dX2_settle_51 : decode cX2_settle 51 = .ok (.invokevirtual 45, 3) := by decide +kernel
theorem dX2_settle_54 : decode cX2_settle 54 = .ok (.iload 4, 2) := by decide +kernel
theorem dX2_settle_56 : decode cX2_settle 56 = .ok (.ireturn, 1) := by decide +kernel
theorem dX2_slotOf_0 : decode cX2_slotOf 0 = .ok (.iload_n 0, 1) := by decide +kernel
theorem dX2_slotOf_1 : decode cX2_slotOf 1 = .ok (.iconst 4, 1) := by decide +kernel
theorem dX2_slotOf_2 : decode cX2_slotOf 2 = .ok (.imul, 1) := by decide +kernel
theorem dX2_slotOf_3 : decode cX2_slotOf 3 = .ok (.iload_n 1, 1) := by decide +kernel
theorem dX2_slotOf_4 : decode cX2_slotOf 4 = .ok (.iconst 3, 1) := by decide +kernel
theorem dX2_slotOf_5 : decode cX2_slotOf 5 = .ok (.iand, 1) := by decide +kernel
theorem dX2_slotOf_6 : decode cX2_slotOf 6 = .ok (.iadd, 1) := by decide +kernel
theorem dX2_slotOf_7 : decode cX2_slotOf 7 = .ok (.ireturn, 1) := by decide +kernel
set_option maxRecDepth 20000 in
theorem ggX3_init_X5_init : GoodIn wsX3_init wsX5_init := goodIn_r _ [11, 12, 2, 3, 13, 14, 15] (by decide +kernel) (by decide +kernel)
set_option maxRecDepth 20000 in
theorem gX3_init_X5_init : GoodIn wsX3_init (wsX5_init) := ggX3_init_X5_init
theorem dX3_init_0 : decode cX3_init 0 = .ok (.aload_n 0, 1) := by decide +kernel
theorem dX3_init_1 : decode cX3_init 1 = .ok (.invokespecial 3, 3) := by decide +kernel
theorem dX3_init_4 : decode cX3_init 4 = .ok (.aload_n 0, 1) := by decide +kernel
theorem dX3_init_5 : decode cX3_init 5 = .ok (.new 9, 3) := by decide +kernel
theorem dX3_init_8 : decode cX3_init 8 = .ok (.dup, 1) := by decide +kernel
theorem dX3_init_9 : decode cX3_init 9 = .ok (.bipush 16, 2) := by decide +kernel
theorem dX3_init_11 : decode cX3_init 11 = .ok (.invokespecial 11, 3) := by decide +kernel
theorem dX3_init_14 : decode cX3_init 14 = .ok (.putfield 14, 3) := by decide +kernel
theorem dX3_init_17 : decode cX3_init 17 = .ok (.aload_n 0, 1) := by decide +kernel
theorem dX3_init_18 : decode cX3_init 18 = .ok (.new 9, 3) := by decide +kernel
theorem dX3_init_21 : decode cX3_init 21 = .ok (.dup, 1) := by decide +kernel
theorem dX3_init_22 : decode cX3_init 22 = .ok (.bipush 16, 2) := by decide +kernel
theorem dX3_init_24 : decode cX3_init 24 = .ok (.invokespecial 11, 3) := by decide +kernel
theorem dX3_init_27 : decode cX3_init 27 = .ok (.putfield 20, 3) := by decide +kernel
theorem dX3_init_30 : decode cX3_init 30 = .ok (.return_, 1) := by decide +kernel
set_option maxRecDepth 20000 in
theorem ggX3_lay_X5_put : GoodIn wsX3_lay wsX5_put := goodIn_r _ [9, 10, 15] (by decide +kernel) (by decide +kernel)
set_option maxRecDepth 20000 in
theorem gX3_lay_X5_put : GoodIn wsX3_lay (wsV RX3 30 RX5 yX5_put wsX5_put) := goodIn_app (goodIn_of _ (by decide +kernel)) ggX3_lay_X5_put
theorem dX3_lay_0 : decode cX3_lay 0 = .ok (.aload_n 0, 1) := by decide +kernel
theorem dX3_lay_1 : decode cX3_lay 1 = .ok (.iload_n 1, 1) := by decide +kernel
theorem dX3_lay_2 : decode cX3_lay 2 = .ok (.putfield 23, 3) := by decide +kernel
theorem dX3_lay_5 : decode cX3_lay 5 = .ok (.aload_n 0, 1) := by decide +kernel
theorem dX3_lay_6 : decode cX3_lay 6 = .ok (.iload_n 2, 1) := by decide +kernel
theorem dX3_lay_7 : decode cX3_lay 7 = .ok (.putfield 27, 3) := by decide +kernel
theorem dX3_lay_10 : decode cX3_lay 10 = .ok (.iconst 0, 1) := by decide +kernel
theorem dX3_lay_11 : decode cX3_lay 11 = .ok (.istore_n 3, 1) := by decide +kernel
theorem dX3_lay_12 : decode cX3_lay 12 = .ok (.iload_n 3, 1) := by decide +kernel
theorem dX3_lay_13 : decode cX3_lay 13 = .ok (.aload_n 0, 1) := by decide +kernel
theorem dX3_lay_14 : decode cX3_lay 14 = .ok (.getfield 27, 3) := by decide +kernel
theorem dX3_lay_17 : decode cX3_lay 17 = .ok (.if_icmp .ge 62, 3) := by decide +kernel
theorem dX3_lay_20 : decode cX3_lay 20 = .ok (.iconst 0, 1) := by decide +kernel
theorem dX3_lay_21 : decode cX3_lay 21 = .ok (.istore 4, 2) := by decide +kernel
theorem dX3_lay_23 : decode cX3_lay 23 = .ok (.iload 4, 2) := by decide +kernel
theorem dX3_lay_25 : decode cX3_lay 25 = .ok (.aload_n 0, 1) := by decide +kernel
theorem dX3_lay_26 : decode cX3_lay 26 = .ok (.getfield 23, 3) := by decide +kernel
theorem dX3_lay_29 : decode cX3_lay 29 = .ok (.if_icmp .ge 44, 3) := by decide +kernel
theorem dX3_lay_32 : decode cX3_lay 32 = .ok (.aload_n 0, 1) := by decide +kernel
theorem dX3_lay_33 : decode cX3_lay 33 = .ok (.getfield 14, 3) := by decide +kernel
theorem dX3_lay_36 : decode cX3_lay 36 = .ok (.iload_n 3, 1) := by decide +kernel
theorem dX3_lay_37 : decode cX3_lay 37 = .ok (.aload_n 0, 1) := by decide +kernel
theorem dX3_lay_38 : decode cX3_lay 38 = .ok (.getfield 23, 3) := by decide +kernel
theorem dX3_lay_41 : decode cX3_lay 41 = .ok (.imul, 1) := by decide +kernel
theorem dX3_lay_42 : decode cX3_lay 42 = .ok (.iload 4, 2) := by decide +kernel
theorem dX3_lay_44 : decode cX3_lay 44 = .ok (.iadd, 1) := by decide +kernel
theorem dX3_lay_45 : decode cX3_lay 45 = .ok (.iload 4, 2) := by decide +kernel
theorem dX3_lay_47 : decode cX3_lay 47 = .ok (.invokevirtual 30, 3) := by decide +kernel
theorem dX3_lay_50 : decode cX3_lay 50 = .ok (.aload_n 0, 1) := by decide +kernel
theorem dX3_lay_51 : decode cX3_lay 51 = .ok (.getfield 20, 3) := by decide +kernel
theorem dX3_lay_54 : decode cX3_lay 54 = .ok (.iload_n 3, 1) := by decide +kernel
theorem dX3_lay_55 : decode cX3_lay 55 = .ok (.aload_n 0, 1) := by decide +kernel
theorem dX3_lay_56 : decode cX3_lay 56 = .ok (.getfield 23, 3) := by decide +kernel
theorem dX3_lay_59 : decode cX3_lay 59 = .ok (.imul, 1) := by decide +kernel
theorem dX3_lay_60 : decode cX3_lay 60 = .ok (.iload 4, 2) := by decide +kernel
theorem dX3_lay_62 : decode cX3_lay 62 = .ok (.iadd, 1) := by decide +kernel
theorem dX3_lay_63 : decode cX3_lay 63 = .ok (.iload_n 3, 1) := by decide +kernel
theorem dX3_lay_64 : decode cX3_lay 64 = .ok (.invokevirtual 30, 3) := by decide +kernel
theorem dX3_lay_67 : decode cX3_lay 67 = .ok (.iinc 4 1, 3) := by decide +kernel
theorem dX3_lay_70 : decode cX3_lay 70 = .ok (.goto (-47), 3) := by decide +kernel
theorem dX3_lay_73 : decode cX3_lay 73 = .ok (.iinc 3 1, 3) := by decide +kernel
theorem dX3_lay_76 : decode cX3_lay 76 = .ok (.goto (-64), 3) := by decide +kernel
theorem dX3_lay_79 : decode cX3_lay 79 = .ok (.return_, 1) := by decide +kernel
theorem dX3_size_0 : decode cX3_size 0 = .ok (.aload_n 0, 1) := by decide +kernel
theorem dX3_size_1 : decode cX3_size 1 = .ok (.getfield 23, 3) := by decide +kernel
theorem dX3_size_4 : decode cX3_size 4 = .ok (.aload_n 0, 1) := by decide +kernel
theorem dX3_size_5 : decode cX3_size 5 = .ok (.getfield 27, 3) := by decide +kernel
theorem dX3_size_8 : decode cX3_size 8 = .ok (.imul, 1) := by decide +kernel
theorem dX3_size_9 : decode cX3_size 9 = .ok (.ireturn, 1) := by decide +kernel
set_option maxRecDepth 20000 in
theorem ggX3_has_X3_size : GoodIn wsX3_has wsX3_size := goodIn_r _ [5, 6, 7, 8, 9, 10, 11] (by decide +kernel) (by decide +kernel)
set_option maxRecDepth 20000 in
theorem gX3_has_X3_size : GoodIn wsX3_has (wsV RX3 34 RX3 yX3_size wsX3_size) := goodIn_app (goodIn_of _ (by decide +kernel)) ggX3_has_X3_size
theorem dX3_has_0 : decode cX3_has 0 = .ok (.iload_n 1, 1) := by decide +kernel
theorem dX3_has_1 : decode cX3_has 1 = .ok (.ifCond .lt 15, 3) := by decide +kernel
theorem dX3_has_4 : decode cX3_has 4 = .ok (.iload_n 1, 1) := by decide +kernel
theorem dX3_has_5 : decode cX3_has 5 = .ok (.aload_n 0, 1) := by decide +kernel
theorem dX3_has_6 : decode cX3_has 6 = .ok (.invokevirtual 34, 3) := by decide +kernel
theorem dX3_has_9 : decode cX3_has 9 = .ok (.if_icmp .ge 7, 3) := by decide +kernel
theorem dX3_has_12 : decode cX3_has 12 = .ok (.iconst 1, 1) := by decide +kernel
theorem dX3_has_13 : decode cX3_has 13 = .ok (.goto 4, 3) := by decide +kernel
theorem dX3_has_16 : decode cX3_has 16 = .ok (.iconst 0, 1) := by decide +kernel
theorem dX3_has_17 : decode cX3_has 17 = .ok (.ireturn, 1) := by decide +kernel
set_option maxRecDepth 20000 in
theorem ggX3_behind_X5_at : GoodIn wsX3_behind wsX5_at := goodIn_r _ [9, 10, 15] (by decide +kernel) (by decide +kernel)
set_option maxRecDepth 20000 in
theorem gX3_behind_X5_at : GoodIn wsX3_behind (wsV RX3 38 RX5 yX5_at wsX5_at) := goodIn_app (goodIn_of _ (by decide +kernel)) ggX3_behind_X5_at
theorem dX3_behind_0 : decode cX3_behind 0 = .ok (.iload_n 2, 1) := by decide +kernel
theorem dX3_behind_1 : decode cX3_behind 1 = .ok (.tableswitch 125 0 3 #[31, 56, 84, 103], 31) := by decide +kernel
theorem dX3_behind_32 : decode cX3_behind 32 = .ok (.aload_n 0, 1) := by decide +kernel
theorem dX3_behind_33 : decode cX3_behind 33 = .ok (.getfield 14, 3) := by decide +kernel
theorem dX3_behind_36 : decode cX3_behind 36 = .ok (.iload_n 1, 1) := by decide +kernel
theorem dX3_behind_37 : decode cX3_behind 37 = .ok (.invokevirtual 38, 3) := by decide +kernel
theorem dX3_behind_40 : decode cX3_behind 40 = .ok (.iconst 1, 1) := by decide +kernel
theorem dX3_behind_41 : decode cX3_behind 41 = .ok (.iadd, 1) := by decide +kernel
theorem dX3_behind_42 : decode cX3_behind 42 = .ok (.aload_n 0, 1) := by decide +kernel
theorem dX3_behind_43 : decode cX3_behind 43 = .ok (.getfield 23, 3) := by decide +kernel
theorem dX3_behind_46 : decode cX3_behind 46 = .ok (.if_icmp .ge 9, 3) := by decide +kernel
theorem dX3_behind_49 : decode cX3_behind 49 = .ok (.iload_n 1, 1) := by decide +kernel
theorem dX3_behind_50 : decode cX3_behind 50 = .ok (.iconst 1, 1) := by decide +kernel
theorem dX3_behind_51 : decode cX3_behind 51 = .ok (.iadd, 1) := by decide +kernel
theorem dX3_behind_52 : decode cX3_behind 52 = .ok (.goto 4, 3) := by decide +kernel
theorem dX3_behind_55 : decode cX3_behind 55 = .ok (.iconst (-1), 1) := by decide +kernel
theorem dX3_behind_56 : decode cX3_behind 56 = .ok (.ireturn, 1) := by decide +kernel
theorem dX3_behind_57 : decode cX3_behind 57 = .ok (.aload_n 0, 1) := by decide +kernel
theorem dX3_behind_58 : decode cX3_behind 58 = .ok (.getfield 20, 3) := by decide +kernel
theorem dX3_behind_61 : decode cX3_behind 61 = .ok (.iload_n 1, 1) := by decide +kernel
theorem dX3_behind_62 : decode cX3_behind 62 = .ok (.invokevirtual 38, 3) := by decide +kernel
theorem dX3_behind_65 : decode cX3_behind 65 = .ok (.iconst 1, 1) := by decide +kernel
theorem dX3_behind_66 : decode cX3_behind 66 = .ok (.iadd, 1) := by decide +kernel
theorem dX3_behind_67 : decode cX3_behind 67 = .ok (.aload_n 0, 1) := by decide +kernel
theorem dX3_behind_68 : decode cX3_behind 68 = .ok (.getfield 27, 3) := by decide +kernel
theorem dX3_behind_71 : decode cX3_behind 71 = .ok (.if_icmp .ge 12, 3) := by decide +kernel
theorem dX3_behind_74 : decode cX3_behind 74 = .ok (.iload_n 1, 1) := by decide +kernel
theorem dX3_behind_75 : decode cX3_behind 75 = .ok (.aload_n 0, 1) := by decide +kernel
theorem dX3_behind_76 : decode cX3_behind 76 = .ok (.getfield 23, 3) := by decide +kernel
theorem dX3_behind_79 : decode cX3_behind 79 = .ok (.iadd, 1) := by decide +kernel
theorem dX3_behind_80 : decode cX3_behind 80 = .ok (.goto 4, 3) := by decide +kernel
theorem dX3_behind_83 : decode cX3_behind 83 = .ok (.iconst (-1), 1) := by decide +kernel
theorem dX3_behind_84 : decode cX3_behind 84 = .ok (.ireturn, 1) := by decide +kernel
theorem dX3_behind_85 : decode cX3_behind 85 = .ok (.aload_n 0, 1) := by decide +kernel
theorem dX3_behind_86 : decode cX3_behind 86 = .ok (.getfield 14, 3) := by decide +kernel
theorem dX3_behind_89 : decode cX3_behind 89 = .ok (.iload_n 1, 1) := by decide +kernel
theorem dX3_behind_90 : decode cX3_behind 90 = .ok (.invokevirtual 38, 3) := by decide +kernel
theorem dX3_behind_93 : decode cX3_behind 93 = .ok (.ifCond .le 9, 3) := by decide +kernel
theorem dX3_behind_96 : decode cX3_behind 96 = .ok (.iload_n 1, 1) := by decide +kernel
theorem dX3_behind_97 : decode cX3_behind 97 = .ok (.iconst 1, 1) := by decide +kernel
theorem dX3_behind_98 : decode cX3_behind 98 = .ok (.isub, 1) := by decide +kernel
theorem dX3_behind_99 : decode cX3_behind 99 = .ok (.goto 4, 3) := by decide +kernel
theorem dX3_behind_102 : decode cX3_behind 102 = .ok (.iconst (-1), 1) := by decide +kernel
theorem dX3_behind_103 : decode cX3_behind 103 = .ok (.ireturn, 1) := by decide +kernel
theorem dX3_behind_104 : decode cX3_behind 104 = .ok (.aload_n 0, 1) := by decide +kernel
theorem dX3_behind_105 : decode cX3_behind 105 = .ok (.getfield 20, 3) := by decide +kernel
theorem dX3_behind_108 : decode cX3_behind 108 = .ok (.iload_n 1, 1) := by decide +kernel
theorem dX3_behind_109 : decode cX3_behind 109 = .ok (.invokevirtual 38, 3) := by decide +kernel
theorem dX3_behind_112 : decode cX3_behind 112 = .ok (.ifCond .le 12, 3) := by decide +kernel
theorem dX3_behind_115 : decode cX3_behind 115 = .ok (.iload_n 1, 1) := by decide +kernel
theorem dX3_behind_116 : decode cX3_behind 116 = .ok (.aload_n 0, 1) := by decide +kernel
theorem dX3_behind_117 : decode cX3_behind 117 = .ok (.getfield 23, 3) := by decide +kernel
theorem dX3_behind_120 : decode cX3_behind 120 = .ok (.isub, 1) := by decide +kernel
theorem dX3_behind_121 : decode cX3_behind 121 = .ok (.goto 4, 3) := by decide +kernel
theorem dX3_behind_124 : decode cX3_behind 124 = .ok (.iconst (-1), 1) := by decide +kernel
theorem dX3_behind_125 : decode cX3_behind 125 = .ok (.ireturn, 1) := by decide +kernel
theorem dX3_behind_126 : decode cX3_behind 126 = .ok (.iconst (-1), 1) := by decide +kernel
theorem dX3_behind_127 : decode cX3_behind 127 = .ok (.ireturn, 1) := by decide +kernel
set_option maxRecDepth 20000 in
theorem ggX3_outputTowards_X5_at : GoodIn wsX3_outputTowards wsX5_at := goodIn_r _ [7, 8, 17] (by decide +kernel) (by decide +kernel)
set_option maxRecDepth 20000 in
theorem gX3_outputTowards_X5_at : GoodIn wsX3_outputTowards (wsV RX3 38 RX5 yX5_at wsX5_at) := goodIn_app (goodIn_of _ (by decide +kernel)) ggX3_outputTowards_X5_at
set_option maxRecDepth 20000 in
theorem ggX3_outputTowards_X3_stepTowards : GoodIn wsX3_outputTowards wsX3_stepTowards := goodIn_r _ [12] (by decide +kernel) (by decide +kernel)
set_option maxRecDepth 20000 in
theorem gX3_outputTowards_X3_stepTowards : GoodIn wsX3_outputTowards (va_wsS RX3 42 yX3_stepTowards wsX3_stepTowards) := goodIn_app (goodIn_of _ (by decide +kernel)) ggX3_outputTowards_X3_stepTowards
theorem dX3_outputTowards_0 : decode cX3_outputTowards 0 = .ok (.aload_n 0, 1) := by decide +kernel
theorem dX3_outputTowards_1 : decode cX3_outputTowards 1 = .ok (.getfield 14, 3) := by decide +kernel
theorem dX3_outputTowards_4 : decode cX3_outputTowards 4 = .ok (.iload_n 1, 1) := by decide +kernel
theorem dX3_outputTowards_5 : decode cX3_outputTowards 5 = .ok (.invokevirtual 38, 3) := by decide +kernel
theorem dX3_outputTowards_8 : decode cX3_outputTowards 8 = .ok (.aload_n 0, 1) := by decide +kernel
theorem dX3_outputTowards_9 : decode cX3_outputTowards 9 = .ok (.getfield 14, 3) := by decide +kernel
theorem dX3_outputTowards_12 : decode cX3_outputTowards 12 = .ok (.iload_n 2, 1) := by decide +kernel
theorem dX3_outputTowards_13 : decode cX3_outputTowards 13 = .ok (.invokevirtual 38, 3) := by decide +kernel
theorem dX3_outputTowards_16 : decode cX3_outputTowards 16 = .ok (.iconst 0, 1) := by decide +kernel
theorem dX3_outputTowards_17 : decode cX3_outputTowards 17 = .ok (.iconst 2, 1) := by decide +kernel
theorem dX3_outputTowards_18 : decode cX3_outputTowards 18 = .ok (.invokestatic 42, 3) := by decide +kernel
theorem dX3_outputTowards_21 : decode cX3_outputTowards 21 = .ok (.istore 4, 2) := by decide +kernel
theorem dX3_outputTowards_23 : decode cX3_outputTowards 23 = .ok (.aload_n 0, 1) := by decide +kernel
theorem dX3_outputTowards_24 : decode cX3_outputTowards 24 = .ok (.getfield 20, 3) := by decide +kernel
theorem dX3_outputTowards_27 : decode cX3_outputTowards 27 = .ok (.iload_n 1, 1) := by decide +kernel
theorem dX3_outputTowards_28 : decode cX3_outputTowards 28 = .ok (.invokevirtual 38, 3) := by decide +kernel
theorem dX3_outputTowards_31 : decode cX3_outputTowards 31 = .ok (.aload_n 0, 1) := by decide +kernel
theorem dX3_outputTowards_32 : decode cX3_outputTowards 32 = .ok (.getfield 20, 3) := by decide +kernel
theorem dX3_outputTowards_35 : decode cX3_outputTowards 35 = .ok (.iload_n 2, 1) := by decide +kernel
theorem dX3_outputTowards_36 : decode cX3_outputTowards 36 = .ok (.invokevirtual 38, 3) := by decide +kernel
theorem dX3_outputTowards_39 : decode cX3_outputTowards 39 = .ok (.iconst 1, 1) := by decide +kernel
theorem dX3_outputTowards_40 : decode cX3_outputTowards 40 = .ok (.iconst 3, 1) := by decide +kernel
theorem dX3_outputTowards_41 : decode cX3_outputTowards 41 = .ok (.invokestatic 42, 3) := by decide +kernel
theorem dX3_outputTowards_44 : decode cX3_outputTowards 44 = .ok (.istore 5, 2) := by decide +kernel
theorem dX3_outputTowards_46 : decode cX3_outputTowards 46 = .ok (.iload_n 3, 1) := by decide +kernel
theorem dX3_outputTowards_47 : decode cX3_outputTowards 47 = .ok (.ifCond .ne 17, 3) := by decide +kernel
theorem dX3_outputTowards_50 : decode cX3_outputTowards 50 = .ok (.iload 4, 2) := by decide +kernel
theorem dX3_outputTowards_52 : decode cX3_outputTowards 52 = .ok (.iconst 4, 1) := by decide +kernel
theorem dX3_outputTowards_53 : decode cX3_outputTowards 53 = .ok (.if_icmp .eq 8, 3) := by decide +kernel
theorem dX3_outputTowards_56 : decode cX3_outputTowards 56 = .ok (.iload 4, 2) := by decide +kernel
theorem dX3_outputTowards_58 : decode cX3_outputTowards 58 = .ok (.goto 5, 3) := by decide +kernel
theorem dX3_outputTowards_61 : decode cX3_outputTowards 61 = .ok (.iload 5, 2) := by decide +kernel
theorem dX3_outputTowards_63 : decode cX3_outputTowards 63 = .ok (.ireturn, 1) := by decide +kernel
theorem dX3_outputTowards_64 : decode cX3_outputTowards 64 = .ok (.iload 5, 2) := by decide +kernel
theorem dX3_outputTowards_66 : decode cX3_outputTowards 66 = .ok (.iconst 4, 1) := by decide +kernel
theorem dX3_outputTowards_67 : decode cX3_outputTowards 67 = .ok (.if_icmp .eq 8, 3) := by decide +kernel
theorem dX3_outputTowards_70 : decode cX3_outputTowards 70 = .ok (.iload 5, 2) := by decide +kernel
theorem dX3_outputTowards_72 : decode cX3_outputTowards 72 = .ok (.goto 5, 3) := by decide +kernel
theorem dX3_outputTowards_75 : decode cX3_outputTowards 75 = .ok (.iload 4, 2) := by decide +kernel
theorem dX3_outputTowards_77 : decode cX3_outputTowards 77 = .ok (.ireturn, 1) := by decide +kernel
theorem dX3_stepTowards_0 : decode cX3_stepTowards 0 = .ok (.iload_n 0, 1) := by decide +kernel
theorem dX3_stepTowards_1 : decode cX3_stepTowards 1 = .ok (.iload_n 1, 1) := by decide +kernel
theorem dX3_stepTowards_2 : decode cX3_stepTowards 2 = .ok (.if_icmp .ne 5, 3) := by decide +kernel
theorem dX3_stepTowards_5 : decode cX3_stepTowards 5 = .ok (.iconst 4, 1) := by decide +kernel
theorem dX3_stepTowards_6 : decode cX3_stepTowards 6 = .ok (.ireturn, 1) := by decide +kernel
theorem dX3_stepTowards_7 : decode cX3_stepTowards 7 = .ok (.iload_n 0, 1) := by decide +kernel
theorem dX3_stepTowards_8 : decode cX3_stepTowards 8 = .ok (.iload_n 1, 1) := by decide +kernel
theorem dX3_stepTowards_9 : decode cX3_stepTowards 9 = .ok (.if_icmp .ge 7, 3) := by decide +kernel
theorem dX3_stepTowards_12 : decode cX3_stepTowards 12 = .ok (.iload_n 2, 1) := by decide +kernel
theorem dX3_stepTowards_13 : decode cX3_stepTowards 13 = .ok (.goto 4, 3) := by decide +kernel
theorem dX3_stepTowards_16 : decode cX3_stepTowards 16 = .ok (.iload_n 3, 1) := by decide +kernel
theorem dX3_stepTowards_17 : decode cX3_stepTowards 17 = .ok (.ireturn, 1) := by decide +kernel
set_option maxRecDepth 20000 in
theorem ggX4_init_X5_init : GoodIn wsX4_init wsX5_init := goodIn_r _ [18, 19, 2, 3, 20, 21, 22] (by decide +kernel) (by decide +kernel)
set_option maxRecDepth 20000 in
theorem gX4_init_X5_init : GoodIn wsX4_init (wsX5_init) := ggX4_init_X5_init
theorem dX4_init_0 : decode cX4_init 0 = .ok (.aload_n 0, 1) := by decide +kernel
theorem dX4_init_1 : decode cX4_init 1 = .ok (.invokespecial 3, 3) := by decide +kernel
theorem dX4_init_4 : decode cX4_init 4 = .ok (.aload_n 0, 1) := by decide +kernel
theorem dX4_init_5 : decode cX4_init 5 = .ok (.new 9, 3) := by decide +kernel
theorem dX4_init_8 : decode cX4_init 8 = .ok (.dup, 1) := by decide +kernel
theorem dX4_init_9 : decode cX4_init 9 = .ok (.bipush 80, 2) := by decide +kernel
theorem dX4_init_11 : decode cX4_init 11 = .ok (.invokespecial 11, 3) := by decide +kernel
theorem dX4_init_14 : decode cX4_init 14 = .ok (.putfield 14, 3) := by decide +kernel
theorem dX4_init_17 : decode cX4_init 17 = .ok (.aload_n 0, 1) := by decide +kernel
theorem dX4_init_18 : decode cX4_init 18 = .ok (.new 9, 3) := by decide +kernel
theorem dX4_init_21 : decode cX4_init 21 = .ok (.dup, 1) := by decide +kernel
theorem dX4_init_22 : decode cX4_init 22 = .ok (.bipush 80, 2) := by decide +kernel
theorem dX4_init_24 : decode cX4_init 24 = .ok (.invokespecial 11, 3) := by decide +kernel
theorem dX4_init_27 : decode cX4_init 27 = .ok (.putfield 20, 3) := by decide +kernel
theorem dX4_init_30 : decode cX4_init 30 = .ok (.aload_n 0, 1) := by decide +kernel
theorem dX4_init_31 : decode cX4_init 31 = .ok (.new 9, 3) := by decide +kernel
theorem dX4_init_34 : decode cX4_init 34 = .ok (.dup, 1) := by decide +kernel
theorem dX4_init_35 : decode cX4_init 35 = .ok (.bipush 80, 2) := by decide +kernel
theorem dX4_init_37 : decode cX4_init 37 = .ok (.invokespecial 11, 3) := by decide +kernel
theorem dX4_init_40 : decode cX4_init 40 = .ok (.putfield 23, 3) := by decide +kernel
theorem dX4_init_43 : decode cX4_init 43 = .ok (.aload_n 0, 1) := by decide +kernel
theorem dX4_init_44 : decode cX4_init 44 = .ok (.new 9, 3) := by decide +kernel
theorem dX4_init_47 : decode cX4_init 47 = .ok (.dup, 1) := by decide +kernel
theorem dX4_init_48 : decode cX4_init 48 = .ok (.bipush 80, 2) := by decide +kernel
theorem dX4_init_50 : decode cX4_init 50 = .ok (.invokespecial 11, 3) := by decide +kernel
theorem dX4_init_53 : decode cX4_init 53 = .ok (.putfield 26, 3) := by decide +kernel
theorem dX4_init_56 : decode cX4_init 56 = .ok (.aload_n 0, 1) := by decide +kernel
theorem dX4_init_57 : decode cX4_init 57 = .ok (.new 9, 3) := by decide +kernel
theorem dX4_init_60 : decode cX4_init 60 = .ok (.dup, 1) := by decide +kernel
theorem dX4_init_61 : decode cX4_init 61 = .ok (.bipush 80, 2) := by decide +kernel
theorem dX4_init_63 : decode cX4_init 63 = .ok (.invokespecial 11, 3) := by decide +kernel
theorem dX4_init_66 : decode cX4_init 66 = .ok (.putfield 29, 3) := by decide +kernel
theorem dX4_init_69 : decode cX4_init 69 = .ok (.aload_n 0, 1) := by decide +kernel
theorem dX4_init_70 : decode cX4_init 70 = .ok (.new 9, 3) := by decide +kernel
theorem dX4_init_73 : decode cX4_init 73 = .ok (.dup, 1) := by decide +kernel
theorem dX4_init_74 : decode cX4_init 74 = .ok (.bipush 80, 2) := by decide +kernel
theorem dX4_init_76 : decode cX4_init 76 = .ok (.invokespecial 11, 3) := by decide +kernel
theorem dX4_init_79 : decode cX4_init 79 = .ok (.putfield 32, 3) := by decide +kernel
theorem dX4_init_82 : decode cX4_init 82 = .ok (.aload_n 0, 1) := by decide +kernel
theorem dX4_init_83 : decode cX4_init 83 = .ok (.new 9, 3) := by decide +kernel
theorem dX4_init_86 : decode cX4_init 86 = .ok (.dup, 1) := by decide +kernel
theorem dX4_init_87 : decode cX4_init 87 = .ok (.bipush 80, 2) := by decide +kernel
theorem dX4_init_89 : decode cX4_init 89 = .ok (.invokespecial 11, 3) := by decide +kernel
theorem dX4_init_92 : decode cX4_init 92 = .ok (.putfield 35, 3) := by decide +kernel
theorem dX4_init_95 : decode cX4_init 95 = .ok (.aload_n 0, 1) := by decide +kernel
theorem dX4_init_96 : decode cX4_init 96 = .ok (.new 9, 3) := by decide +kernel
theorem dX4_init_99 : decode cX4_init 99 = .ok (.dup, 1) := by decide +kernel
theorem dX4_init_100 : decode cX4_init 100 = .ok (.bipush 80, 2) := by decide +kernel
theorem dX4_init_102 : decode cX4_init 102 = .ok (.invokespecial 11, 3) := by decide +kernel
theorem dX4_init_105 : decode cX4_init 105 = .ok (.putfield 38, 3) := by decide +kernel
theorem dX4_init_108 : decode cX4_init 108 = .ok (.aload_n 0, 1) := by decide +kernel
theorem dX4_init_109 : decode cX4_init 109 = .ok (.aload_n 1, 1) := by decide +kernel
theorem dX4_init_110 : decode cX4_init 110 = .ok (.putfield 41, 3) := by decide +kernel
theorem dX4_init_113 : decode cX4_init 113 = .ok (.return_, 1) := by decide +kernel
theorem dX4_clear_0 : decode cX4_clear 0 = .ok (.aload_n 0, 1) := by decide +kernel
theorem dX4_clear_1 : decode cX4_clear 1 = .ok (.iconst 0, 1) := by decide +kernel
theorem dX4_clear_2 : decode cX4_clear 2 = .ok (.putfield 45, 3) := by decide +kernel
theorem dX4_clear_5 : decode cX4_clear 5 = .ok (.aload_n 0, 1) := by decide +kernel
theorem dX4_clear_6 : decode cX4_clear 6 = .ok (.iconst 0, 1) := by decide +kernel
theorem dX4_clear_7 : decode cX4_clear 7 = .ok (.putfield 49, 3) := by decide +kernel
theorem dX4_clear_10 : decode cX4_clear 10 = .ok (.return_, 1) := by decide +kernel
set_option maxRecDepth 20000 in
theorem ggX4_add_X5_put : GoodIn wsX4_add wsX5_put := goodIn_r _ [14, 15, 27] (by decide +kernel) (by decide +kernel)
set_option maxRecDepth 20000 in
theorem gX4_add_X5_put : GoodIn wsX4_add (wsV RX4 52 RX5 yX5_put wsX5_put) := goodIn_app (goodIn_of _ (by decide +kernel)) ggX4_add_X5_put
theorem dX4_add_0 : decode cX4_add 0 = .ok (.aload_n 0, 1) := by decide +kernel
theorem dX4_add_1 : decode cX4_add 1 = .ok (.getfield 45, 3) := by decide +kernel
theorem dX4_add_4 : decode cX4_add 4 = .ok (.istore 5, 2) := by decide +kernel
theorem dX4_add_6 : decode cX4_add 6 = .ok (.aload_n 0, 1) := by decide +kernel
theorem dX4_add_7 : decode cX4_add 7 = .ok (.getfield 14, 3) := by decide +kernel
theorem dX4_add_10 : decode cX4_add 10 = .ok (.iload 5, 2) := by decide +kernel
theorem dX4_add_12 : decode cX4_add 12 = .ok (.iload_n 1, 1) := by decide +kernel
theorem dX4_add_13 : decode cX4_add 13 = .ok (.invokevirtual 52, 3) := by decide +kernel
theorem dX4_add_16 : decode cX4_add 16 = .ok (.aload_n 0, 1) := by decide +kernel
theorem dX4_add_17 : decode cX4_add 17 = .ok (.getfield 20, 3) := by decide +kernel
theorem dX4_add_20 : decode cX4_add 20 = .ok (.iload 5, 2) := by decide +kernel
theorem dX4_add_22 : decode cX4_add 22 = .ok (.iload_n 2, 1) := by decide +kernel
theorem dX4_add_23 : decode cX4_add 23 = .ok (.invokevirtual 52, 3) := by decide +kernel
theorem dX4_add_26 : decode cX4_add 26 = .ok (.aload_n 0, 1) := by decide +kernel
theorem dX4_add_27 : decode cX4_add 27 = .ok (.getfield 23, 3) := by decide +kernel
theorem dX4_add_30 : decode cX4_add 30 = .ok (.iload 5, 2) := by decide +kernel
theorem dX4_add_32 : decode cX4_add 32 = .ok (.iload_n 3, 1) := by decide +kernel
theorem dX4_add_33 : decode cX4_add 33 = .ok (.invokevirtual 52, 3) := by decide +kernel
theorem dX4_add_36 : decode cX4_add 36 = .ok (.aload_n 0, 1) := by decide +kernel
theorem dX4_add_37 : decode cX4_add 37 = .ok (.getfield 26, 3) := by decide +kernel
theorem dX4_add_40 : decode cX4_add 40 = .ok (.iload 5, 2) := by decide +kernel
theorem dX4_add_42 : decode cX4_add 42 = .ok (.iload 4, 2) := by decide +kernel
theorem dX4_add_44 : decode cX4_add 44 = .ok (.invokevirtual 52, 3) := by decide +kernel
theorem dX4_add_47 : decode cX4_add 47 = .ok (.aload_n 0, 1) := by decide +kernel
theorem dX4_add_48 : decode cX4_add 48 = .ok (.getfield 29, 3) := by decide +kernel
theorem dX4_add_51 : decode cX4_add 51 = .ok (.iload 5, 2) := by decide +kernel
theorem dX4_add_53 : decode cX4_add 53 = .ok (.iload_n 1, 1) := by decide +kernel
theorem dX4_add_54 : decode cX4_add 54 = .ok (.invokevirtual 52, 3) := by decide +kernel
theorem dX4_add_57 : decode cX4_add 57 = .ok (.aload_n 0, 1) := by decide +kernel
theorem dX4_add_58 : decode cX4_add 58 = .ok (.getfield 32, 3) := by decide +kernel
theorem dX4_add_61 : decode cX4_add 61 = .ok (.iload 5, 2) := by decide +kernel
theorem dX4_add_63 : decode cX4_add 63 = .ok (.iconst 4, 1) := by decide +kernel
theorem dX4_add_64 : decode cX4_add 64 = .ok (.invokevirtual 52, 3) := by decide +kernel
theorem dX4_add_67 : decode cX4_add 67 = .ok (.aload_n 0, 1) := by decide +kernel
theorem dX4_add_68 : decode cX4_add 68 = .ok (.getfield 35, 3) := by decide +kernel
theorem dX4_add_71 : decode cX4_add 71 = .ok (.iload 5, 2) := by decide +kernel
theorem dX4_add_73 : decode cX4_add 73 = .ok (.iconst 0, 1) := by decide +kernel
theorem dX4_add_74 : decode cX4_add 74 = .ok (.invokevirtual 52, 3) := by decide +kernel
theorem dX4_add_77 : decode cX4_add 77 = .ok (.aload_n 0, 1) := by decide +kernel
theorem dX4_add_78 : decode cX4_add 78 = .ok (.getfield 38, 3) := by decide +kernel
theorem dX4_add_81 : decode cX4_add 81 = .ok (.iload 5, 2) := by decide +kernel
theorem dX4_add_83 : decode cX4_add 83 = .ok (.iconst 0, 1) := by decide +kernel
theorem dX4_add_84 : decode cX4_add 84 = .ok (.invokevirtual 52, 3) := by decide +kernel
theorem dX4_add_87 : decode cX4_add 87 = .ok (.aload_n 0, 1) := by decide +kernel
theorem dX4_add_88 : decode cX4_add 88 = .ok (.dup, 1) := by decide +kernel
theorem dX4_add_89 : decode cX4_add 89 = .ok (.getfield 45, 3) := by decide +kernel
theorem dX4_add_92 : decode cX4_add 92 = .ok (.iconst 1, 1) := by decide +kernel
theorem dX4_add_93 : decode cX4_add 93 = .ok (.iadd, 1) := by decide +kernel
theorem dX4_add_94 : decode cX4_add 94 = .ok (.putfield 45, 3) := by decide +kernel
theorem dX4_add_97 : decode cX4_add 97 = .ok (.iload 5, 2) := by decide +kernel
theorem dX4_add_99 : decode cX4_add 99 = .ok (.ireturn, 1) := by decide +kernel
set_option maxRecDepth 20000 in
theorem ggX4_outputOf_X5_at : GoodIn wsX4_outputOf wsX5_at := goodIn_r _ [9, 10, 33] (by decide +kernel) (by decide +kernel)
set_option maxRecDepth 20000 in
theorem gX4_outputOf_X5_at : GoodIn wsX4_outputOf (wsV RX4 56 RX5 yX5_at wsX5_at) := goodIn_app (goodIn_of _ (by decide +kernel)) ggX4_outputOf_X5_at
set_option maxRecDepth 20000 in
theorem ggX4_outputOf_X3_outputTowards : GoodIn wsX4_outputOf wsX3_outputTowards := goodIn_r _ [15, 16, 17, 18, 6, 7, 8, 9, 10, 19, 20, 14, 21, 34, 35, 36, 37, 33] (by decide +kernel) (by decide +kernel)
set_option maxRecDepth 20000 in
theorem gX4_outputOf_X3_outputTowards : GoodIn wsX4_outputOf (wsV RX4 60 RX3 yX3_outputTowards wsX3_outputTowards) := goodIn_app (goodIn_of _ (by decide +kernel)) ggX4_outputOf_X3_outputTowards
theorem dX4_outputOf_0 : decode cX4_outputOf 0 = .ok (.aload_n 0, 1) := by decide +kernel
theorem dX4_outputOf_1 : decode cX4_outputOf 1 = .ok (.getfield 29, 3) := by decide +kernel
theorem dX4_outputOf_4 : decode cX4_outputOf 4 = .ok (.iload_n 1, 1) := by decide +kernel
theorem dX4_outputOf_5 : decode cX4_outputOf 5 = .ok (.invokevirtual 56, 3) := by decide +kernel
theorem dX4_outputOf_8 : decode cX4_outputOf 8 = .ok (.istore_n 2, 1) := by decide +kernel
theorem dX4_outputOf_9 : decode cX4_outputOf 9 = .ok (.iload_n 2, 1) := by decide +kernel
theorem dX4_outputOf_10 : decode cX4_outputOf 10 = .ok (.iconst (-1), 1) := by decide +kernel
theorem dX4_outputOf_11 : decode cX4_outputOf 11 = .ok (.if_icmp .ne 7, 3) := by decide +kernel
theorem dX4_outputOf_14 : decode cX4_outputOf 14 = .ok (.iconst (-1), 1) := by decide +kernel
theorem dX4_outputOf_15 : decode cX4_outputOf 15 = .ok (.goto 27, 3) := by decide +kernel
theorem dX4_outputOf_18 : decode cX4_outputOf 18 = .ok (.aload_n 0, 1) := by decide +kernel
theorem dX4_outputOf_19 : decode cX4_outputOf 19 = .ok (.getfield 41, 3) := by decide +kernel
theorem dX4_outputOf_22 : decode cX4_outputOf 22 = .ok (.iload_n 2, 1) := by decide +kernel
theorem dX4_outputOf_23 : decode cX4_outputOf 23 = .ok (.aload_n 0, 1) := by decide +kernel
theorem dX4_outputOf_24 : decode cX4_outputOf 24 = .ok (.getfield 20, 3) := by decide +kernel
theorem dX4_outputOf_27 : decode cX4_outputOf 27 = .ok (.iload_n 1, 1) := by decide +kernel
theorem dX4_outputOf_28 : decode cX4_outputOf 28 = .ok (.invokevirtual 56, 3) := by decide +kernel
theorem dX4_outputOf_31 : decode cX4_outputOf 31 = .ok (.aload_n 0, 1) := by decide +kernel
theorem dX4_outputOf_32 : decode cX4_outputOf 32 = .ok (.getfield 26, 3) := by decide +kernel
theorem dX4_outputOf_35 : decode cX4_outputOf 35 = .ok (.iload_n 1, 1) := by decide +kernel
theorem dX4_outputOf_36 : decode cX4_outputOf 36 = .ok (.invokevirtual 56, 3) := by decide +kernel
theorem dX4_outputOf_39 : decode cX4_outputOf 39 = .ok (.invokevirtual 60, 3) := by decide +kernel
theorem dX4_outputOf_42 : decode cX4_outputOf 42 = .ok (.ireturn, 1) := by decide +kernel
set_option maxRecDepth 20000 in
theorem ggX4_goOver_X5_put : GoodIn wsX4_goOver wsX5_put := goodIn_r _ [8, 9, 30] (by decide +kernel) (by decide +kernel)
set_option maxRecDepth 20000 in
theorem gX4_goOver_X5_put : GoodIn wsX4_goOver (wsV RX4 52 RX5 yX5_put wsX5_put) := goodIn_app (goodIn_of _ (by decide +kernel)) ggX4_goOver_X5_put
set_option maxRecDepth 20000 in
theorem ggX4_goOver_X5_add : GoodIn wsX4_goOver wsX5_add := goodIn_r _ [13, 14, 15, 16, 7, 17, 9, 18, 5, 6, 8, 30] (by decide +kernel) (by decide +kernel)
set_option maxRecDepth 20000 in
theorem gX4_goOver_X5_add : GoodIn wsX4_goOver (wsV RX4 66 RX5 yX5_add wsX5_add) := goodIn_app (goodIn_of _ (by decide +kernel)) ggX4_goOver_X5_add
theorem dX4_goOver_0 : decode cX4_goOver 0 = .ok (.aload_n 0, 1) := by decide +kernel
theorem dX4_goOver_1 : decode cX4_goOver 1 = .ok (.getfield 29, 3) := by decide +kernel
theorem dX4_goOver_4 : decode cX4_goOver 4 = .ok (.iload_n 1, 1) := by decide +kernel
theorem dX4_goOver_5 : decode cX4_goOver 5 = .ok (.iload_n 2, 1) := by decide +kernel
theorem dX4_goOver_6 : decode cX4_goOver 6 = .ok (.invokevirtual 52, 3) := by decide +kernel
theorem dX4_goOver_9 : decode cX4_goOver 9 = .ok (.aload_n 0, 1) := by decide +kernel
theorem dX4_goOver_10 : decode cX4_goOver 10 = .ok (.getfield 32, 3) := by decide +kernel
theorem dX4_goOver_13 : decode cX4_goOver 13 = .ok (.iload_n 1, 1) := by decide +kernel
theorem dX4_goOver_14 : decode cX4_goOver 14 = .ok (.iload_n 3, 1) := by decide +kernel
theorem dX4_goOver_15 : decode cX4_goOver 15 = .ok (.invokevirtual 52, 3) := by decide +kernel
theorem dX4_goOver_18 : decode cX4_goOver 18 = .ok (.aload_n 0, 1) := by decide +kernel
theorem dX4_goOver_19 : decode cX4_goOver 19 = .ok (.getfield 35, 3) := by decide +kernel
theorem dX4_goOver_22 : decode cX4_goOver 22 = .ok (.iload_n 1, 1) := by decide +kernel
theorem dX4_goOver_23 : decode cX4_goOver 23 = .ok (.iconst 1, 1) := by decide +kernel
theorem dX4_goOver_24 : decode cX4_goOver 24 = .ok (.invokevirtual 66, 3) := by decide +kernel
theorem dX4_goOver_27 : decode cX4_goOver 27 = .ok (.return_, 1) := by decide +kernel
set_option maxRecDepth 20000 in
theorem ggX4_goOut_X5_put : GoodIn wsX4_goOut wsX5_put := goodIn_r _ [7, 8, 20] (by decide +kernel) (by decide +kernel)
set_option maxRecDepth 20000 in
theorem gX4_goOut_X5_put : GoodIn wsX4_goOut (wsV RX4 52 RX5 yX5_put wsX5_put) := goodIn_app (goodIn_of _ (by decide +kernel)) ggX4_goOut_X5_put
theorem dX4_goOut_0 : decode cX4_goOut 0 = .ok (.aload_n 0, 1) := by decide +kernel
theorem dX4_goOut_1 : decode cX4_goOut 1 = .ok (.getfield 29, 3) := by decide +kernel
theorem dX4_goOut_4 : decode cX4_goOut 4 = .ok (.iload_n 1, 1) := by decide +kernel
theorem dX4_goOut_5 : decode cX4_goOut 5 = .ok (.iconst (-1), 1) := by decide +kernel
theorem dX4_goOut_6 : decode cX4_goOut 6 = .ok (.invokevirtual 52, 3) := by decide +kernel
theorem dX4_goOut_9 : decode cX4_goOut 9 = .ok (.aload_n 0, 1) := by decide +kernel
theorem dX4_goOut_10 : decode cX4_goOut 10 = .ok (.dup, 1) := by decide +kernel
theorem dX4_goOut_11 : decode cX4_goOut 11 = .ok (.getfield 49, 3) := by decide +kernel
theorem dX4_goOut_14 : decode cX4_goOut 14 = .ok (.iconst 1, 1) := by decide +kernel
theorem dX4_goOut_15 : decode cX4_goOut 15 = .ok (.iadd, 1) := by decide +kernel
theorem dX4_goOut_16 : decode cX4_goOut 16 = .ok (.putfield 49, 3) := by decide +kernel
theorem dX4_goOut_19 : decode cX4_goOut 19 = .ok (.return_, 1) := by decide +kernel
theorem dX5_init_0 : decode cX5_init 0 = .ok (.aload_n 0, 1) := by decide +kernel
theorem dX5_init_1 : decode cX5_init 1 = .ok (.invokespecial 1, 3) := by decide +kernel
theorem dX5_init_4 : decode cX5_init 4 = .ok (.aload_n 0, 1) := by decide +kernel
theorem dX5_init_5 : decode cX5_init 5 = .ok (.iload_n 1, 1) := by decide +kernel
theorem dX5_init_6 : decode cX5_init 6 = .ok (.ifCond .le 7, 3) := by decide +kernel
theorem dX5_init_9 : decode cX5_init 9 = .ok (.iload_n 1, 1) := by decide +kernel
theorem dX5_init_10 : decode cX5_init 10 = .ok (.goto 4, 3) := by decide +kernel
theorem dX5_init_13 : decode cX5_init 13 = .ok (.iconst 0, 1) := by decide +kernel
theorem dX5_init_14 : decode cX5_init 14 = .ok (.newarray .int, 2) := by decide +kernel
theorem dX5_init_16 : decode cX5_init 16 = .ok (.putfield 7, 3) := by decide +kernel
theorem dX5_init_19 : decode cX5_init 19 = .ok (.return_, 1) := by decide +kernel
theorem dX5_at_0 : decode cX5_at 0 = .ok (.iload_n 1, 1) := by decide +kernel
theorem dX5_at_1 : decode cX5_at 1 = .ok (.ifCond .lt 21, 3) := by decide +kernel
theorem dX5_at_4 : decode cX5_at 4 = .ok (.iload_n 1, 1) := by decide +kernel
theorem dX5_at_5 : decode cX5_at 5 = .ok (.aload_n 0, 1) := by decide +kernel
theorem dX5_at_6 : decode cX5_at 6 = .ok (.getfield 7, 3) := by decide +kernel
theorem dX5_at_9 : decode cX5_at 9 = .ok (.arraylength, 1) := by decide +kernel
theorem dX5_at_10 : decode cX5_at 10 = .ok (.if_icmp .ge 12, 3) := by decide +kernel
theorem dX5_at_13 : decode cX5_at 13 = .ok (.aload_n 0, 1) := by decide +kernel
theorem dX5_at_14 : decode cX5_at 14 = .ok (.getfield 7, 3) := by decide +kernel
theorem dX5_at_17 : decode cX5_at 17 = .ok (.iload_n 1, 1) := by decide +kernel
theorem dX5_at_18 : decode cX5_at 18 = .ok (.iaload, 1) := by decide +kernel
theorem dX5_at_19 : decode cX5_at 19 = .ok (.goto 4, 3) := by decide +kernel
theorem dX5_at_22 : decode cX5_at 22 = .ok (.iconst 0, 1) := by decide +kernel
theorem dX5_at_23 : decode cX5_at 23 = .ok (.ireturn, 1) := by decide +kernel
theorem dX5_put_0 : decode cX5_put 0 = .ok (.iload_n 1, 1) := by decide +kernel
theorem dX5_put_1 : decode cX5_put 1 = .ok (.ifCond .lt 19, 3) := by decide +kernel
theorem dX5_put_4 : decode cX5_put 4 = .ok (.iload_n 1, 1) := by decide +kernel
theorem dX5_put_5 : decode cX5_put 5 = .ok (.aload_n 0, 1) := by decide +kernel
theorem dX5_put_6 : decode cX5_put 6 = .ok (.getfield 7, 3) := by decide +kernel
theorem dX5_put_9 : decode cX5_put 9 = .ok (.arraylength, 1) := by decide +kernel
theorem dX5_put_10 : decode cX5_put 10 = .ok (.if_icmp .ge 10, 3) := by decide +kernel
theorem dX5_put_13 : decode cX5_put 13 = .ok (.aload_n 0, 1) := by decide +kernel
theorem dX5_put_14 : decode cX5_put 14 = .ok (.getfield 7, 3) := by decide +kernel
theorem dX5_put_17 : decode cX5_put 17 = .ok (.iload_n 1, 1) := by decide +kernel
theorem dX5_put_18 : decode cX5_put 18 = .ok (.iload_n 2, 1) := by decide +kernel
theorem dX5_put_19 : decode cX5_put 19 = .ok (.iastore, 1) := by decide +kernel
theorem dX5_put_20 : decode cX5_put 20 = .ok (.return_, 1) := by decide +kernel
set_option maxRecDepth 20000 in
theorem ggX5_add_X5_at : GoodIn wsX5_add wsX5_at := goodIn_r _ [5, 6, 11] (by decide +kernel) (by decide +kernel)
set_option maxRecDepth 20000 in
theorem gX5_add_X5_at : GoodIn wsX5_add (wsV RX5 13 RX5 yX5_at wsX5_at) := goodIn_app (goodIn_of _ (by decide +kernel)) ggX5_add_X5_at
set_option maxRecDepth 20000 in
theorem ggX5_add_X5_put : GoodIn wsX5_add wsX5_put := goodIn_r _ [10, 6, 11] (by decide +kernel) (by decide +kernel)
set_option maxRecDepth 20000 in
theorem gX5_add_X5_put : GoodIn wsX5_add (wsV RX5 17 RX5 yX5_put wsX5_put) := goodIn_app (goodIn_of _ (by decide +kernel)) ggX5_add_X5_put
theorem dX5_add_0 : decode cX5_add 0 = .ok (.aload_n 0, 1) := by decide +kernel
theorem dX5_add_1 : decode cX5_add 1 = .ok (.iload_n 1, 1) := by decide +kernel
theorem dX5_add_2 : decode cX5_add 2 = .ok (.aload_n 0, 1) := by decide +kernel
theorem dX5_add_3 : decode cX5_add 3 = .ok (.iload_n 1, 1) := by decide +kernel
theorem dX5_add_4 : decode cX5_add 4 = .ok (.invokevirtual 13, 3) := by decide +kernel
theorem dX5_add_7 : decode cX5_add 7 = .ok (.iload_n 2, 1) := by decide +kernel
theorem dX5_add_8 : decode cX5_add 8 = .ok (.iadd, 1) := by decide +kernel
theorem dX5_add_9 : decode cX5_add 9 = .ok (.invokevirtual 17, 3) := by decide +kernel
theorem dX5_add_12 : decode cX5_add 12 = .ok (.return_, 1) := by decide +kernel
theorem dX5_fill_0 : decode cX5_fill 0 = .ok (.iconst 0, 1) := by decide +kernel
theorem dX5_fill_1 : decode cX5_fill 1 = .ok (.istore_n 2, 1) := by decide +kernel
theorem dX5_fill_2 : decode cX5_fill 2 = .ok (.iload_n 2, 1) := by decide +kernel
theorem dX5_fill_3 : decode cX5_fill 3 = .ok (.aload_n 0, 1) := by decide +kernel
theorem dX5_fill_4 : decode cX5_fill 4 = .ok (.getfield 7, 3) := by decide +kernel
theorem dX5_fill_7 : decode cX5_fill 7 = .ok (.arraylength, 1) := by decide +kernel
theorem dX5_fill_8 : decode cX5_fill 8 = .ok (.if_icmp .ge 16, 3) := by decide +kernel
theorem dX5_fill_11 : decode cX5_fill 11 = .ok (.aload_n 0, 1) := by decide +kernel
theorem dX5_fill_12 : decode cX5_fill 12 = .ok (.getfield 7, 3) := by decide +kernel
theorem dX5_fill_15 : decode cX5_fill 15 = .ok (.iload_n 2, 1) := by decide +kernel
theorem dX5_fill_16 : decode cX5_fill 16 = .ok (.iload_n 1, 1) := by decide +kernel
theorem dX5_fill_17 : decode cX5_fill 17 = .ok (.iastore, 1) := by decide +kernel
theorem dX5_fill_18 : decode cX5_fill 18 = .ok (.iinc 2 1, 3) := by decide +kernel
theorem dX5_fill_21 : decode cX5_fill 21 = .ok (.goto (-19), 3) := by decide +kernel
theorem dX5_fill_24 : decode cX5_fill 24 = .ok (.return_, 1) := by decide +kernel
set_option maxRecDepth 20000 in
theorem ggX6_init_X5_init : GoodIn wsX6_init wsX5_init := goodIn_r _ [11, 12, 2, 3, 13, 14, 15] (by decide +kernel) (by decide +kernel)
set_option maxRecDepth 20000 in
theorem gX6_init_X5_init : GoodIn wsX6_init (wsX5_init) := ggX6_init_X5_init
theorem dX6_init_0 : decode cX6_init 0 = .ok (.aload_n 0, 1) := by decide +kernel
theorem dX6_init_1 : decode cX6_init 1 = .ok (.invokespecial 3, 3) := by decide +kernel
theorem dX6_init_4 : decode cX6_init 4 = .ok (.aload_n 0, 1) := by decide +kernel
theorem dX6_init_5 : decode cX6_init 5 = .ok (.new 9, 3) := by decide +kernel
theorem dX6_init_8 : decode cX6_init 8 = .ok (.dup, 1) := by decide +kernel
theorem dX6_init_9 : decode cX6_init 9 = .ok (.bipush 16, 2) := by decide +kernel
theorem dX6_init_11 : decode cX6_init 11 = .ok (.invokespecial 11, 3) := by decide +kernel
theorem dX6_init_14 : decode cX6_init 14 = .ok (.putfield 14, 3) := by decide +kernel
theorem dX6_init_17 : decode cX6_init 17 = .ok (.aload_n 0, 1) := by decide +kernel
theorem dX6_init_18 : decode cX6_init 18 = .ok (.new 9, 3) := by decide +kernel
theorem dX6_init_21 : decode cX6_init 21 = .ok (.dup, 1) := by decide +kernel
theorem dX6_init_22 : decode cX6_init 22 = .ok (.bipush 16, 2) := by decide +kernel
theorem dX6_init_24 : decode cX6_init 24 = .ok (.invokespecial 11, 3) := by decide +kernel
theorem dX6_init_27 : decode cX6_init 27 = .ok (.putfield 20, 3) := by decide +kernel
theorem dX6_init_30 : decode cX6_init 30 = .ok (.return_, 1) := by decide +kernel
set_option maxRecDepth 20000 in
theorem ggX6_clear_X5_fill : GoodIn wsX6_clear wsX5_fill := goodIn_r _ [7, 8, 11] (by decide +kernel) (by decide +kernel)
set_option maxRecDepth 20000 in
theorem gX6_clear_X5_fill : GoodIn wsX6_clear (wsV RX6 23 RX5 yX5_fill wsX5_fill) := goodIn_app (goodIn_of _ (by decide +kernel)) ggX6_clear_X5_fill
theorem dX6_clear_0 : decode cX6_clear 0 = .ok (.aload_n 0, 1) := by decide +kernel
theorem dX6_clear_1 : decode cX6_clear 1 = .ok (.getfield 14, 3) := by decide +kernel
theorem dX6_clear_4 : decode cX6_clear 4 = .ok (.iconst 1, 1) := by decide +kernel
theorem dX6_clear_5 : decode cX6_clear 5 = .ok (.invokevirtual 23, 3) := by decide +kernel
theorem dX6_clear_8 : decode cX6_clear 8 = .ok (.aload_n 0, 1) := by decide +kernel
theorem dX6_clear_9 : decode cX6_clear 9 = .ok (.getfield 20, 3) := by decide +kernel
theorem dX6_clear_12 : decode cX6_clear 12 = .ok (.iconst (-1), 1) := by decide +kernel
theorem dX6_clear_13 : decode cX6_clear 13 = .ok (.invokevirtual 23, 3) := by decide +kernel
theorem dX6_clear_16 : decode cX6_clear 16 = .ok (.return_, 1) := by decide +kernel
set_option maxRecDepth 20000 in
theorem ggX6_gapOf_X5_at : GoodIn wsX6_gapOf wsX5_at := goodIn_r _ [6, 7, 10] (by decide +kernel) (by decide +kernel)
set_option maxRecDepth 20000 in
theorem gX6_gapOf_X5_at : GoodIn wsX6_gapOf (wsV RX6 26 RX5 yX5_at wsX5_at) := goodIn_app (goodIn_of _ (by decide +kernel)) ggX6_gapOf_X5_at
theorem dX6_gapOf_0 : decode cX6_gapOf 0 = .ok (.aload_n 0, 1) := by decide +kernel
theorem dX6_gapOf_1 : decode cX6_gapOf 1 = .ok (.getfield 14, 3) := by decide +kernel
theorem dX6_gapOf_4 : decode cX6_gapOf 4 = .ok (.iload_n 1, 1) := by decide +kernel
theorem dX6_gapOf_5 : decode cX6_gapOf 5 = .ok (.invokevirtual 26, 3) := by decide +kernel
theorem dX6_gapOf_8 : decode cX6_gapOf 8 = .ok (.ireturn, 1) := by decide +kernel
set_option maxRecDepth 20000 in
theorem ggX6_isReady_X5_at : GoodIn wsX6_isReady wsX5_at := goodIn_r _ [7, 8, 11] (by decide +kernel) (by decide +kernel)
set_option maxRecDepth 20000 in
theorem gX6_isReady_X5_at : GoodIn wsX6_isReady (wsV RX6 26 RX5 yX5_at wsX5_at) := goodIn_app (goodIn_of _ (by decide +kernel)) ggX6_isReady_X5_at
theorem dX6_isReady_0 : decode cX6_isReady 0 = .ok (.aload_n 0, 1) := by decide +kernel
theorem dX6_isReady_1 : decode cX6_isReady 1 = .ok (.getfield 20, 3) := by decide +kernel
theorem dX6_isReady_4 : decode cX6_isReady 4 = .ok (.iload_n 1, 1) := by decide +kernel
theorem dX6_isReady_5 : decode cX6_isReady 5 = .ok (.invokevirtual 26, 3) := by decide +kernel
theorem dX6_isReady_8 : decode cX6_isReady 8 = .ok (.istore_n 3, 1) := by decide +kernel
theorem dX6_isReady_9 : decode cX6_isReady 9 = .ok (.iload_n 3, 1) := by decide +kernel
theorem dX6_isReady_10 : decode cX6_isReady 10 = .ok (.iconst (-1), 1) := by decide +kernel
theorem dX6_isReady_11 : decode cX6_isReady 11 = .ok (.if_icmp .eq 17, 3) := by decide +kernel
theorem dX6_isReady_14 : decode cX6_isReady 14 = .ok (.iload_n 2, 1) := by decide +kernel
theorem dX6_isReady_15 : decode cX6_isReady 15 = .ok (.iload_n 3, 1) := by decide +kernel
theorem dX6_isReady_16 : decode cX6_isReady 16 = .ok (.isub, 1) := by decide +kernel
theorem dX6_isReady_17 : decode cX6_isReady 17 = .ok (.aload_n 0, 1) := by decide +kernel
theorem dX6_isReady_18 : decode cX6_isReady 18 = .ok (.getfield 14, 3) := by decide +kernel
theorem dX6_isReady_21 : decode cX6_isReady 21 = .ok (.iload_n 1, 1) := by decide +kernel
theorem dX6_isReady_22 : decode cX6_isReady 22 = .ok (.invokevirtual 26, 3) := by decide +kernel
theorem dX6_isReady_25 : decode cX6_isReady 25 = .ok (.if_icmp .lt 7, 3) := by decide +kernel
theorem dX6_isReady_28 : decode cX6_isReady 28 = .ok (.iconst 1, 1) := by decide +kernel
theorem dX6_isReady_29 : decode cX6_isReady 29 = .ok (.goto 4, 3) := by decide +kernel
theorem dX6_isReady_32 : decode cX6_isReady 32 = .ok (.iconst 0, 1) := by decide +kernel
theorem dX6_isReady_33 : decode cX6_isReady 33 = .ok (.ireturn, 1) := by decide +kernel
set_option maxRecDepth 20000 in
theorem ggX6_note_X5_put : GoodIn wsX6_note wsX5_put := goodIn_r _ [6, 7, 10] (by decide +kernel) (by decide +kernel)
set_option maxRecDepth 20000 in
theorem gX6_note_X5_put : GoodIn wsX6_note (wsV RX6 30 RX5 yX5_put wsX5_put) := goodIn_app (goodIn_of _ (by decide +kernel)) ggX6_note_X5_put
theorem dX6_note_0 : decode cX6_note 0 = .ok (.aload_n 0, 1) := by decide +kernel
theorem dX6_note_1 : decode cX6_note 1 = .ok (.getfield 20, 3) := by decide +kernel
theorem dX6_note_4 : decode cX6_note 4 = .ok (.iload_n 1, 1) := by decide +kernel
theorem dX6_note_5 : decode cX6_note 5 = .ok (.iload_n 2, 1) := by decide +kernel
theorem dX6_note_6 : decode cX6_note 6 = .ok (.invokevirtual 30, 3) := by decide +kernel
theorem dX6_note_9 : decode cX6_note 9 = .ok (.return_, 1) := by decide +kernel
set_option maxRecDepth 20000 in
theorem ggX6_adapt_X5_at : GoodIn wsX6_adapt wsX5_at := goodIn_r _ [13, 14, 21] (by decide +kernel) (by decide +kernel)
set_option maxRecDepth 20000 in
theorem gX6_adapt_X5_at : GoodIn wsX6_adapt (wsV RX6 26 RX5 yX5_at wsX5_at) := goodIn_app (goodIn_of _ (by decide +kernel)) ggX6_adapt_X5_at
set_option maxRecDepth 20000 in
theorem ggX6_adapt_X5_put : GoodIn wsX6_adapt wsX5_put := goodIn_r _ [18, 14, 21] (by decide +kernel) (by decide +kernel)
set_option maxRecDepth 20000 in
theorem gX6_adapt_X5_put : GoodIn wsX6_adapt (wsV RX6 30 RX5 yX5_put wsX5_put) := goodIn_app (goodIn_of _ (by decide +kernel)) ggX6_adapt_X5_put
theorem dX6_adapt_0 : decode cX6_adapt 0 = .ok (.aload_n 0, 1) := by decide +kernel
theorem dX6_adapt_1 : decode cX6_adapt 1 = .ok (.getfield 14, 3) := by decide +kernel
theorem dX6_adapt_4 : decode cX6_adapt 4 = .ok (.iload_n 1, 1) := by decide +kernel
theorem dX6_adapt_5 : decode cX6_adapt 5 = .ok (.invokevirtual 26, 3) := by decide +kernel
theorem dX6_adapt_8 : decode cX6_adapt 8 = .ok (.istore_n 3, 1) := by decide +kernel
theorem dX6_adapt_9 : decode cX6_adapt 9 = .ok (.aload_n 0, 1) := by decide +kernel
theorem dX6_adapt_10 : decode cX6_adapt 10 = .ok (.getfield 14, 3) := by decide +kernel
theorem dX6_adapt_13 : decode cX6_adapt 13 = .ok (.iload_n 1, 1) := by decide +kernel
theorem dX6_adapt_14 : decode cX6_adapt 14 = .ok (.iload_n 2, 1) := by decide +kernel
theorem dX6_adapt_15 : decode cX6_adapt 15 = .ok (.ifCond .eq 14, 3) := by decide +kernel
theorem dX6_adapt_18 : decode cX6_adapt 18 = .ok (.bipush 16, 2) := by decide +kernel
theorem dX6_adapt_20 : decode cX6_adapt 20 = .ok (.iconst 2, 1) := by decide +kernel
theorem dX6_adapt_21 : decode cX6_adapt 21 = .ok (.iload_n 3, 1) := by decide +kernel
theorem dX6_adapt_22 : decode cX6_adapt 22 = .ok (.imul, 1) := by decide +kernel
theorem dX6_adapt_23 : decode cX6_adapt 23 = .ok (.invokestatic 34, 3) := by decide +kernel
theorem dX6_adapt_26 : decode cX6_adapt 26 = .ok (.goto 10, 3) := by decide +kernel
theorem dX6_adapt_29 : decode cX6_adapt 29 = .ok (.iconst 1, 1) := by decide +kernel
theorem dX6_adapt_30 : decode cX6_adapt 30 = .ok (.iload_n 3, 1) := by decide +kernel
theorem dX6_adapt_31 : decode cX6_adapt 31 = .ok (.iconst 1, 1) := by decide +kernel
theorem dX6_adapt_32 : decode cX6_adapt 32 = .ok (.isub, 1) := by decide +kernel
theorem dX6_adapt_33 : decode cX6_adapt 33 = .ok (.invokestatic 40, 3) := by decide +kernel
theorem dX6_adapt_36 : decode cX6_adapt 36 = .ok (.invokevirtual 30, 3) := by decide +kernel
theorem dX6_adapt_39 : decode cX6_adapt 39 = .ok (.return_, 1) := by decide +kernel
set_option maxRecDepth 20000 in
theorem ggX7_init_X3_init : GoodIn wsX7_init wsX3_init := goodIn_r _ [36, 37, 2, 3, 38, 29, 30, 39, 40, 41, 42, 43, 44, 45, 46, 180, 139, 140, 141, 142] (by decide +kernel) (by decide +kernel)
set_option maxRecDepth 20000 in
theorem gX7_init_X3_init_n11 : GoodIn wsX7_init (wsX3_init) := ggX7_init_X3_init
set_option maxRecDepth 20000 in
theorem ggX7_init_X4_init : GoodIn wsX7_init wsX4_init := goodIn_r _ [49, 50, 2, 3, 51, 29, 30, 52, 53, 54, 55, 56, 57, 58, 59, 60, 61, 42, 43, 44, 45, 46, 180, 155, 156, 157, 158, 159, 160, 161, 162, 163, 164, 165] (by decide +kernel) (by decide +kernel)
set_option maxRecDepth 20000 in
theorem gX7_init_X4_init : GoodIn wsX7_init (wsX4_init) := ggX7_init_X4_init
set_option maxRecDepth 20000 in
theorem ggX7_init_X0_init : GoodIn wsX7_init wsX0_init := goodIn_r _ [63, 64, 2, 3, 65, 29, 30, 66, 67, 68, 42, 43, 44, 45, 46, 180, 166, 167, 168] (by decide +kernel) (by decide +kernel)
set_option maxRecDepth 20000 in
theorem gX7_init_X0_init_n27 : GoodIn wsX7_init (wsX0_init) := ggX7_init_X0_init
set_option maxRecDepth 20000 in
theorem ggX7_init_X2_init : GoodIn wsX7_init wsX2_init := goodIn_r _ [70, 71, 2, 3, 72, 29, 30, 73, 74, 75, 42, 43, 44, 45, 46, 180, 169, 170, 171, 172] (by decide +kernel) (by decide +kernel)
set_option maxRecDepth 20000 in
theorem gX7_init_X2_init_n34 : GoodIn wsX7_init (wsX2_init) := ggX7_init_X2_init
set_option maxRecDepth 20000 in
theorem ggX7_init_X6_init : GoodIn wsX7_init wsX6_init := goodIn_r _ [77, 78, 2, 3, 79, 29, 30, 80, 81, 82, 42, 43, 44, 45, 46, 180, 173, 174] (by decide +kernel) (by decide +kernel)
set_option maxRecDepth 20000 in
theorem gX7_init_X6_init_n41 : GoodIn wsX7_init (wsX6_init) := ggX7_init_X6_init
set_option maxRecDepth 20000 in
theorem ggX7_init_X1_init : GoodIn wsX7_init wsX1_init := goodIn_r _ [85, 86, 2, 3, 87, 29, 30, 88, 89, 90, 91, 92, 93, 42, 43, 44, 45, 46, 180, 175, 176, 177, 178, 179] (by decide +kernel) (by decide +kernel)
set_option maxRecDepth 20000 in
theorem gX7_init_X1_init : GoodIn wsX7_init (wsX1_init) := ggX7_init_X1_init
set_option maxRecDepth 20000 in
theorem ggX7_init_X5_init : GoodIn wsX7_init wsX5_init := goodIn_r _ [43, 44, 2, 3, 45, 46, 180] (by decide +kernel) (by decide +kernel)
set_option maxRecDepth 20000 in
theorem gX7_init_X5_init : GoodIn wsX7_init (wsX5_init) := ggX7_init_X5_init
set_option maxRecDepth 20000 in
theorem ggX7_init_X7_layAnew : GoodIn wsX7_init wsX7_layAnew := goodIn_r _ [99, 7, 11, 15, 19, 23, 31, 32, 100, 101, 102, 103, 6, 104, 105, 106, 39, 40, 107, 108, 109, 30, 110, 46, 111, 112, 113, 10, 114, 115, 116, 117, 118, 119, 14, 120, 121, 67, 122, 123, 124, 125, 126, 127, 128, 18, 129, 130, 73, 74, 131, 132, 133, 134, 135, 22, 136, 80, 81, 137, 138, 143, 144, 145, 146, 147, 148, 149, 150, 151, 152, 153, 154, 139, 140, 141, 142, 180, 155, 156, 157, 158, 159, 160, 161, 162, 163, 164, 165, 166, 167, 168, 169, 170, 171, 172, 173, 174] (by decide +kernel) (by decide +kernel)
set_option maxRecDepth 20000 in
theorem gX7_init_X7_layAnew : GoodIn wsX7_init (wsV RX7 73 RX7 yX7_layAnew wsX7_layAnew) := goodIn_app (goodIn_of _ (by decide +kernel)) ggX7_init_X7_layAnew
theorem dX7_init_0 : decode cX7_init 0 = .ok (.aload_n 0, 1) := by decide +kernel
theorem dX7_init_1 : decode cX7_init 1 = .ok (.invokespecial 3, 3) := by decide +kernel
theorem dX7_init_4 : decode cX7_init 4 = .ok (.aload_n 0, 1) := by decide +kernel
theorem dX7_init_5 : decode cX7_init 5 = .ok (.new 9, 3) := by decide +kernel
theorem dX7_init_8 : decode cX7_init 8 = .ok (.dup, 1) := by decide +kernel
theorem dX7_init_9 : decode cX7_init 9 = .ok (.invokespecial 11, 3) := by decide +kernel
theorem dX7_init_12 : decode cX7_init 12 = .ok (.putfield 12, 3) := by decide +kernel
theorem dX7_init_15 : decode cX7_init 15 = .ok (.aload_n 0, 1) := by decide +kernel
theorem dX7_init_16 : decode cX7_init 16 = .ok (.new 16, 3) := by decide +kernel
theorem dX7_init_19 : decode cX7_init 19 = .ok (.dup, 1) := by decide +kernel
theorem dX7_init_20 : decode cX7_init 20 = .ok (.aload_n 0, 1) := by decide +kernel
theorem dX7_init_21 : decode cX7_init 21 = .ok (.getfield 12, 3) := by decide +kernel
theorem dX7_init_24 : decode cX7_init 24 = .ok (.invokespecial 18, 3) := by decide +kernel
theorem dX7_init_27 : decode cX7_init 27 = .ok (.putfield 21, 3) := by decide +kernel
theorem dX7_init_30 : decode cX7_init 30 = .ok (.aload_n 0, 1) := by decide +kernel
theorem dX7_init_31 : decode cX7_init 31 = .ok (.new 25, 3) := by decide +kernel
theorem dX7_init_34 : decode cX7_init 34 = .ok (.dup, 1) := by decide +kernel
theorem dX7_init_35 : decode cX7_init 35 = .ok (.invokespecial 27, 3) := by decide +kernel
theorem dX7_init_38 : decode cX7_init 38 = .ok (.putfield 28, 3) := by decide +kernel
theorem dX7_init_41 : decode cX7_init 41 = .ok (.aload_n 0, 1) := by decide +kernel
theorem dX7_init_42 : decode cX7_init 42 = .ok (.new 32, 3) := by decide +kernel
theorem dX7_init_45 : decode cX7_init 45 = .ok (.dup, 1) := by decide +kernel
theorem dX7_init_46 : decode cX7_init 46 = .ok (.invokespecial 34, 3) := by decide +kernel
theorem dX7_init_49 : decode cX7_init 49 = .ok (.putfield 35, 3) := by decide +kernel
theorem dX7_init_52 : decode cX7_init 52 = .ok (.aload_n 0, 1) := by decide +kernel
theorem dX7_init_53 : decode cX7_init 53 = .ok (.new 39, 3) := by decide +kernel
theorem dX7_init_56 : decode cX7_init 56 = .ok (.dup, 1) := by decide +kernel
theorem dX7_init_57 : decode cX7_init 57 = .ok (.invokespecial 41, 3) := by decide +kernel
theorem dX7_init_60 : decode cX7_init 60 = .ok (.putfield 42, 3) := by decide +kernel
theorem dX7_init_63 : decode cX7_init 63 = .ok (.aload_n 0, 1) := by decide +kernel
theorem dX7_init_64 : decode cX7_init 64 = .ok (.new 46, 3) := by decide +kernel
theorem dX7_init_67 : decode cX7_init 67 = .ok (.dup, 1) := by decide +kernel
theorem dX7_init_68 : decode cX7_init 68 = .ok (.aload_n 0, 1) := by decide +kernel
theorem dX7_init_69 : decode cX7_init 69 = .ok (.getfield 12, 3) := by decide +kernel
theorem dX7_init_72 : decode cX7_init 72 = .ok (.aload_n 0, 1) := by decide +kernel
theorem dX7_init_73 : decode cX7_init 73 = .ok (.getfield 21, 3) := by decide +kernel
theorem dX7_init_76 : decode cX7_init 76 = .ok (.aload_n 0, 1) := by decide +kernel
theorem dX7_init_77 : decode cX7_init 77 = .ok (.getfield 28, 3) := by decide +kernel
theorem dX7_init_80 : decode cX7_init 80 = .ok (.invokespecial 48, 3) := by decide +kernel
theorem dX7_init_83 : decode cX7_init 83 = .ok (.putfield 51, 3) := by decide +kernel
theorem dX7_init_86 : decode cX7_init 86 = .ok (.aload_n 0, 1) := by decide +kernel
theorem dX7_init_87 : decode cX7_init 87 = .ok (.new 55, 3) := by decide +kernel
theorem dX7_init_90 : decode cX7_init 90 = .ok (.dup, 1) := by decide +kernel
theorem dX7_init_91 : decode cX7_init 91 = .ok (.bipush 16, 2) := by decide +kernel
theorem dX7_init_93 : decode cX7_init 93 = .ok (.invokespecial 57, 3) := by decide +kernel
theorem dX7_init_96 : decode cX7_init 96 = .ok (.putfield 60, 3) := by decide +kernel
theorem dX7_init_99 : decode cX7_init 99 = .ok (.aload_n 0, 1) := by decide +kernel
theorem dX7_init_100 : decode cX7_init 100 = .ok (.new 55, 3) := by decide +kernel
theorem dX7_init_103 : decode cX7_init 103 = .ok (.dup, 1) := by decide +kernel
theorem dX7_init_104 : decode cX7_init 104 = .ok (.bipush 80, 2) := by decide +kernel
theorem dX7_init_106 : decode cX7_init 106 = .ok (.invokespecial 57, 3) := by decide +kernel
theorem dX7_init_109 : decode cX7_init 109 = .ok (.putfield 64, 3) := by decide +kernel
theorem dX7_init_112 : decode cX7_init 112 = .ok (.aload_n 0, 1) := by decide +kernel
theorem dX7_init_113 : decode cX7_init 113 = .ok (.new 55, 3) := by decide +kernel
theorem dX7_init_116 : decode cX7_init 116 = .ok (.dup, 1) := by decide +kernel
theorem dX7_init_117 : decode cX7_init 117 = .ok (.iconst 5, 1) := by decide +kernel
theorem dX7_init_118 : decode cX7_init 118 = .ok (.invokespecial 57, 3) := by decide +kernel
theorem dX7_init_121 : decode cX7_init 121 = .ok (.putfield 67, 3) := by decide +kernel
theorem dX7_init_124 : decode cX7_init 124 = .ok (.aload_n 0, 1) := by decide +kernel
theorem dX7_init_125 : decode cX7_init 125 = .ok (.new 55, 3) := by decide +kernel
theorem dX7_init_128 : decode cX7_init 128 = .ok (.dup, 1) := by decide +kernel
theorem dX7_init_129 : decode cX7_init 129 = .ok (.bipush 80, 2) := by decide +kernel
theorem dX7_init_131 : decode cX7_init 131 = .ok (.invokespecial 57, 3) := by decide +kernel
theorem dX7_init_134 : decode cX7_init 134 = .ok (.putfield 70, 3) := by decide +kernel
theorem dX7_init_137 : decode cX7_init 137 = .ok (.aload_n 0, 1) := by decide +kernel
theorem dX7_init_138 : decode cX7_init 138 = .ok (.iconst 2, 1) := by decide +kernel
theorem dX7_init_139 : decode cX7_init 139 = .ok (.iconst 2, 1) := by decide +kernel
theorem dX7_init_140 : decode cX7_init 140 = .ok (.iconst 1, 1) := by decide +kernel
theorem dX7_init_141 : decode cX7_init 141 = .ok (.iconst 0, 1) := by decide +kernel
theorem dX7_init_142 : decode cX7_init 142 = .ok (.invokevirtual 73, 3) := by decide +kernel
theorem dX7_init_145 : decode cX7_init 145 = .ok (.return_, 1) := by decide +kernel
set_option maxRecDepth 20000 in
theorem ggX7_begin_X7_layAnew : GoodIn wsX7_begin wsX7_layAnew := goodIn_r _ [8, 3, 9, 10, 11, 12, 13, 14, 15, 16, 17, 18, 19, 20, 21, 22, 23, 24, 25, 26, 27, 28, 29, 30, 31, 32, 33, 34, 35, 36, 37, 38, 39, 40, 41, 42, 43, 44, 45, 46, 47, 48, 49, 50, 51, 52, 53, 54, 55, 56, 57, 58, 59, 60, 61, 62, 63, 64, 65, 66, 67, 72, 73, 74, 75, 76, 77, 78, 79, 80, 81, 82, 83, 84, 85, 86, 87, 88, 89, 90, 91, 92, 93, 94, 95, 96, 97, 98, 99, 100, 101, 102, 103, 104, 105, 106, 107, 108] (by decide +kernel) (by decide +kernel)
set_option maxRecDepth 20000 in
theorem gX7_begin_X7_layAnew : GoodIn wsX7_begin (wsV RX7 73 RX7 yX7_layAnew wsX7_layAnew) := goodIn_app (goodIn_of _ (by decide +kernel)) ggX7_begin_X7_layAnew
set_option maxRecDepth 20000 in
theorem ggX7_begin_X3_size : GoodIn wsX7_begin wsX3_size := goodIn_r _ [71, 21, 22, 84, 85, 86, 87] (by decide +kernel) (by decide +kernel)
set_option maxRecDepth 20000 in
theorem gX7_begin_X3_size : GoodIn wsX7_begin (wsV RX7 88 RX3 yX3_size wsX3_size) := goodIn_app (goodIn_of _ (by decide +kernel)) ggX7_begin_X3_size
theorem dX7_begin_0 : decode cX7_begin 0 = .ok (.iload_n 1, 1) := by decide +kernel
theorem dX7_begin_1 : decode cX7_begin 1 = .ok (.iconst 2, 1) := by decide +kernel
theorem dX7_begin_2 : decode cX7_begin 2 = .ok (.if_icmp .lt 18, 3) := by decide +kernel
theorem dX7_begin_5 : decode cX7_begin 5 = .ok (.iload_n 1, 1) := by decide +kernel
theorem dX7_begin_6 : decode cX7_begin 6 = .ok (.iconst 4, 1) := by decide +kernel
theorem dX7_begin_7 : decode cX7_begin 7 = .ok (.if_icmp .gt 13, 3) := by decide +kernel
theorem dX7_begin_10 : decode cX7_begin 10 = .ok (.iload_n 2, 1) := by decide +kernel
theorem dX7_begin_11 : decode cX7_begin 11 = .ok (.iconst 2, 1) := by decide +kernel
theorem dX7_begin_12 : decode cX7_begin 12 = .ok (.if_icmp .lt 8, 3) := by decide +kernel
theorem dX7_begin_15 : decode cX7_begin 15 = .ok (.iload_n 2, 1) := by decide +kernel
theorem dX7_begin_16 : decode cX7_begin 16 = .ok (.iconst 4, 1) := by decide +kernel
theorem dX7_begin_17 : decode cX7_begin 17 = .ok (.if_icmp .le 13, 3) := by decide +kernel
theorem dX7_begin_20 : decode cX7_begin 20 = .ok (.new 77, 3) := by decide +kernel
theorem dX7_begin_23 : decode cX7_begin 23 = .ok (.dup, 1) := by decide +kernel
theorem dX7_begin_24 : decode cX7_begin 24 = .ok (.ldc 79, 2) := by decide +kernel
theorem dX7_begin_26 : decode cX7_begin 26 = .ok (.invokespecial 81, 3) := by decide +kernel
theorem dX7_begin_29 : decode cX7_begin 29 = .ok (.athrow, 1) := by decide +kernel
theorem dX7_begin_30 : decode cX7_begin 30 = .ok (.iload_n 3, 1) := by decide +kernel
theorem dX7_begin_31 : decode cX7_begin 31 = .ok (.iconst 1, 1) := by decide +kernel
theorem dX7_begin_32 : decode cX7_begin 32 = .ok (.if_icmp .lt 8, 3) := by decide +kernel
theorem dX7_begin_35 : decode cX7_begin 35 = .ok (.iload_n 3, 1) := by decide +kernel
theorem dX7_begin_36 : decode cX7_begin 36 = .ok (.iconst 3, 1) := by decide +kernel
theorem dX7_begin_37 : decode cX7_begin 37 = .ok (.if_icmp .le 13, 3) := by decide +kernel
theorem dX7_begin_40 : decode cX7_begin 40 = .ok (.new 77, 3) := by decide +kernel
theorem dX7_begin_43 : decode cX7_begin 43 = .ok (.dup, 1) := by decide +kernel
theorem dX7_begin_44 : decode cX7_begin 44 = .ok (.ldc 84, 2) := by decide +kernel
theorem dX7_begin_46 : decode cX7_begin 46 = .ok (.invokespecial 81, 3) := by decide +kernel
theorem dX7_begin_49 : decode cX7_begin 49 = .ok (.athrow, 1) := by decide +kernel
theorem dX7_begin_50 : decode cX7_begin 50 = .ok (.iload 4, 2) := by decide +kernel
theorem dX7_begin_52 : decode cX7_begin 52 = .ok (.ifCond .lt 9, 3) := by decide +kernel
theorem dX7_begin_55 : decode cX7_begin 55 = .ok (.iload 4, 2) := by decide +kernel
theorem dX7_begin_57 : decode cX7_begin 57 = .ok (.iconst 3, 1) := by decide +kernel
theorem dX7_begin_58 : decode cX7_begin 58 = .ok (.if_icmp .le 13, 3) := by decide +kernel
theorem dX7_begin_61 : decode cX7_begin 61 = .ok (.new 77, 3) := by decide +kernel
theorem dX7_begin_64 : decode cX7_begin 64 = .ok (.dup, 1) := by decide +kernel
theorem dX7_begin_65 : decode cX7_begin 65 = .ok (.ldc 86, 2) := by decide +kernel
theorem dX7_begin_67 : decode cX7_begin 67 = .ok (.invokespecial 81, 3) := by decide +kernel
theorem dX7_begin_70 : decode cX7_begin 70 = .ok (.athrow, 1) := by decide +kernel
theorem dX7_begin_71 : decode cX7_begin 71 = .ok (.aload_n 0, 1) := by decide +kernel
theorem dX7_begin_72 : decode cX7_begin 72 = .ok (.iload_n 1, 1) := by decide +kernel
theorem dX7_begin_73 : decode cX7_begin 73 = .ok (.iload_n 2, 1) := by decide +kernel
theorem dX7_begin_74 : decode cX7_begin 74 = .ok (.iload_n 3, 1) := by decide +kernel
theorem dX7_begin_75 : decode cX7_begin 75 = .ok (.iload 4, 2) := by decide +kernel
theorem dX7_begin_77 : decode cX7_begin 77 = .ok (.invokevirtual 73, 3) := by decide +kernel
theorem dX7_begin_80 : decode cX7_begin 80 = .ok (.aload_n 0, 1) := by decide +kernel
theorem dX7_begin_81 : decode cX7_begin 81 = .ok (.getfield 12, 3) := by decide +kernel
theorem dX7_begin_84 : decode cX7_begin 84 = .ok (.invokevirtual 88, 3) := by decide +kernel
theorem dX7_begin_87 : decode cX7_begin 87 = .ok (.ireturn, 1) := by decide +kernel
set_option maxRecDepth 20000 in
theorem ggX7_send_X7_checkSwitch : GoodIn wsX7_send wsX7_checkSwitch := goodIn_ca (goodIn_r _ [13, 14, 15, 16, 17, 18, 19, 20, 21, 22, 23, 24, 25, 26, 27, 91, 92, 93, 94, 95, 96, 97, 98, 99, 100, 101, 102, 114, 115, 116, 117] (by decide +kernel) (by decide +kernel)) (goodIn_sub (fun _ h => List.mem_cons_of_mem _ (List.mem_append_right _ h)) (by decide +kernel))
set_option maxRecDepth 20000 in
theorem gX7_send_X7_checkSwitch : GoodIn wsX7_send (wsV RX7 92 RX7 yX7_checkSwitch wsX7_checkSwitch) := goodIn_app (goodIn_of _ (by decide +kernel)) ggX7_send_X7_checkSwitch
set_option maxRecDepth 20000 in
theorem ggX7_send_X7_checkLane : GoodIn wsX7_send wsX7_checkLane := goodIn_ca (goodIn_r _ [30, 1, 2] (by decide +kernel) (by decide +kernel)) (goodIn_sub (fun _ h => List.mem_cons_of_mem _ (List.mem_append_left _ (List.mem_append_left _ (List.mem_append_right _ h)))) (by decide +kernel))
set_option maxRecDepth 20000 in
theorem gX7_send_X7_checkLane : GoodIn wsX7_send (va_wsS RX7 97 yX7_checkLane wsX7_checkLane) := goodIn_app (goodIn_of _ (by decide +kernel)) ggX7_send_X7_checkLane
set_option maxRecDepth 20000 in
theorem ggX7_send_X7_bufferOf : GoodIn wsX7_send wsX7_bufferOf := goodIn_r _ [33] (by decide +kernel) (by decide +kernel)
set_option maxRecDepth 20000 in
theorem gX7_send_X7_bufferOf : GoodIn wsX7_send (va_wsS RX7 102 yX7_bufferOf wsX7_bufferOf) := goodIn_app (goodIn_of _ (by decide +kernel)) ggX7_send_X7_bufferOf
set_option maxRecDepth 20000 in
theorem ggX7_send_X0_isFull : GoodIn wsX7_send wsX0_isFull := goodIn_r _ [38, 39, 40, 41, 42, 43, 44, 45, 46, 118, 119, 120, 121] (by decide +kernel) (by decide +kernel)
set_option maxRecDepth 20000 in
theorem gX7_send_X0_isFull : GoodIn wsX7_send (wsV RX7 106 RX0 yX0_isFull wsX0_isFull) := goodIn_app (goodIn_of _ (by decide +kernel)) ggX7_send_X0_isFull
set_option maxRecDepth 20000 in
theorem ggX7_send_X6_isReady : GoodIn wsX7_send wsX6_isReady := goodIn_r _ [51, 52, 53, 54, 42, 43, 44, 45, 46, 122, 123, 121] (by decide +kernel) (by decide +kernel)
set_option maxRecDepth 20000 in
theorem gX7_send_X6_isReady : GoodIn wsX7_send (wsV RX7 119 RX6 yX6_isReady wsX6_isReady) := goodIn_app (goodIn_of _ (by decide +kernel)) ggX7_send_X6_isReady
set_option maxRecDepth 20000 in
theorem ggX7_send_X4_add : GoodIn wsX7_send wsX4_add := goodIn_r _ [59, 60, 61, 62, 63, 64, 65, 66, 67, 68, 69, 70, 71, 44, 72, 46, 103, 104, 105, 106, 107, 108, 109, 110, 111, 112, 113, 121] (by decide +kernel) (by decide +kernel)
set_option maxRecDepth 20000 in
theorem gX7_send_X4_add : GoodIn wsX7_send (wsV RX7 130 RX4 yX4_add wsX4_add) := goodIn_app (goodIn_of _ (by decide +kernel)) ggX7_send_X4_add
set_option maxRecDepth 20000 in
theorem ggX7_send_X0_append : GoodIn wsX7_send wsX0_append := goodIn_r _ [76, 77, 39, 78, 35, 36, 37, 38, 40, 41, 42, 43, 44, 45, 46, 79, 70, 71, 72, 80, 81, 82, 83, 84, 85, 118, 119, 120, 121] (by decide +kernel) (by decide +kernel)
set_option maxRecDepth 20000 in
theorem gX7_send_X0_append : GoodIn wsX7_send (wsV RX7 134 RX0 yX0_append wsX0_append) := goodIn_app (goodIn_of _ (by decide +kernel)) ggX7_send_X0_append
set_option maxRecDepth 20000 in
theorem ggX7_send_X6_note : GoodIn wsX7_send wsX6_note := goodIn_r _ [89, 52, 90, 70, 71, 44, 72, 46, 122, 123, 121] (by decide +kernel) (by decide +kernel)
set_option maxRecDepth 20000 in
theorem gX7_send_X6_note : GoodIn wsX7_send (wsV RX7 138 RX6 yX6_note wsX6_note) := goodIn_app (goodIn_of _ (by decide +kernel)) ggX7_send_X6_note
theorem dX7_send_0 : decode cX7_send 0 = .ok (.aload_n 0, 1) := by decide +kernel
theorem dX7_send_1 : decode cX7_send 1 = .ok (.iload_n 1, 1) := by decide +kernel
theorem dX7_send_2 : decode cX7_send 2 = .ok (.invokevirtual 92, 3) := by decide +kernel
theorem dX7_send_5 : decode cX7_send 5 = .ok (.aload_n 0, 1) := by decide +kernel
theorem dX7_send_6 : decode cX7_send 6 = .ok (.iload_n 2, 1) := by decide +kernel
theorem dX7_send_7 : decode cX7_send 7 = .ok (.invokevirtual 92, 3) := by decide +kernel
theorem dX7_send_10 : decode cX7_send 10 = .ok (.iload_n 1, 1) := by decide +kernel
theorem dX7_send_11 : decode cX7_send 11 = .ok (.iload_n 2, 1) := by decide +kernel
theorem dX7_send_12 : decode cX7_send 12 = .ok (.if_icmp .ne 13, 3) := by decide +kernel
theorem dX7_send_15 : decode cX7_send 15 = .ok (.new 77, 3) := by decide +kernel
theorem dX7_send_18 : decode cX7_send 18 = .ok (.dup, 1) := by decide +kernel
theorem dX7_send_19 : decode cX7_send 19 = .ok (.ldc 95, 2) := by decide +kernel
theorem dX7_send_21 : decode cX7_send 21 = .ok (.invokespecial 81, 3) := by decide +kernel
theorem dX7_send_24 : decode cX7_send 24 = .ok (.athrow, 1) := by decide +kernel
theorem dX7_send_25 : decode cX7_send 25 = .ok (.iload_n 3, 1) := by decide +kernel
theorem dX7_send_26 : decode cX7_send 26 = .ok (.invokestatic 97, 3) := by decide +kernel
theorem dX7_send_29 : decode cX7_send 29 = .ok (.iload 4, 2) := by decide +kernel
theorem dX7_send_31 : decode cX7_send 31 = .ok (.ifCond .eq 19, 3) := by decide +kernel
theorem dX7_send_34 : decode cX7_send 34 = .ok (.iload 4, 2) := by decide +kernel
theorem dX7_send_36 : decode cX7_send 36 = .ok (.iconst 1, 1) := by decide +kernel
theorem dX7_send_37 : decode cX7_send 37 = .ok (.if_icmp .eq 13, 3) := by decide +kernel
theorem dX7_send_40 : decode cX7_send 40 = .ok (.new 77, 3) := by decide +kernel
theorem dX7_send_43 : decode cX7_send 43 = .ok (.dup, 1) := by decide +kernel
theorem dX7_send_44 : decode cX7_send 44 = .ok (.ldc 100, 2) := by decide +kernel
theorem dX7_send_46 : decode cX7_send 46 = .ok (.invokespecial 81, 3) := by decide +kernel
theorem dX7_send_49 : decode cX7_send 49 = .ok (.athrow, 1) := by decide +kernel
theorem dX7_send_50 : decode cX7_send 50 = .ok (.iload_n 1, 1) := by decide +kernel
theorem dX7_send_51 : decode cX7_send 51 = .ok (.iconst 4, 1) := by decide +kernel
theorem dX7_send_52 : decode cX7_send 52 = .ok (.iload_n 3, 1) := by decide +kernel
theorem dX7_send_53 : decode cX7_send 53 = .ok (.invokestatic 102, 3) := by decide +kernel
theorem dX7_send_56 : decode cX7_send 56 = .ok (.istore 5, 2) := by decide +kernel
theorem dX7_send_58 : decode cX7_send 58 = .ok (.aload_n 0, 1) := by decide +kernel
theorem dX7_send_59 : decode cX7_send 59 = .ok (.getfield 28, 3) := by decide +kernel
theorem dX7_send_62 : decode cX7_send 62 = .ok (.iload 5, 2) := by decide +kernel
theorem dX7_send_64 : decode cX7_send 64 = .ok (.invokevirtual 106, 3) := by decide +kernel
theorem dX7_send_67 : decode cX7_send 67 = .ok (.ifCond .eq 13, 3) := by decide +kernel
theorem dX7_send_70 : decode cX7_send 70 = .ok (.new 110, 3) := by decide +kernel
theorem dX7_send_73 : decode cX7_send 73 = .ok (.dup, 1) := by decide +kernel
theorem dX7_send_74 : decode cX7_send 74 = .ok (.ldc 112, 2) := by decide +kernel
theorem dX7_send_76 : decode cX7_send 76 = .ok (.invokespecial 114, 3) := by decide +kernel
theorem dX7_send_79 : decode cX7_send 79 = .ok (.athrow, 1) := by decide +kernel
theorem dX7_send_80 : decode cX7_send 80 = .ok (.aload_n 0, 1) := by decide +kernel
theorem dX7_send_81 : decode cX7_send 81 = .ok (.getfield 42, 3) := by decide +kernel
theorem dX7_send_84 : decode cX7_send 84 = .ok (.iload_n 1, 1) := by decide +kernel
theorem dX7_send_85 : decode cX7_send 85 = .ok (.aload_n 0, 1) := by decide +kernel
theorem dX7_send_86 : decode cX7_send 86 = .ok (.getfield 115, 3) := by decide +kernel
theorem dX7_send_89 : decode cX7_send 89 = .ok (.invokevirtual 119, 3) := by decide +kernel
theorem dX7_send_92 : decode cX7_send 92 = .ok (.ifCond .ne 13, 3) := by decide +kernel
theorem dX7_send_95 : decode cX7_send 95 = .ok (.new 110, 3) := by decide +kernel
theorem dX7_send_98 : decode cX7_send 98 = .ok (.dup, 1) := by decide +kernel
theorem dX7_send_99 : decode cX7_send 99 = .ok (.ldc 123, 2) := by decide +kernel
theorem dX7_send_101 : decode cX7_send 101 = .ok (.invokespecial 114, 3) := by decide +kernel
theorem dX7_send_104 : decode cX7_send 104 = .ok (.athrow, 1) := by decide +kernel
theorem dX7_send_105 : decode cX7_send 105 = .ok (.aload_n 0, 1) := by decide +kernel
theorem dX7_send_106 : decode cX7_send 106 = .ok (.getfield 21, 3) := by decide +kernel
theorem dX7_send_109 : decode cX7_send 109 = .ok (.getfield 125, 3) := by decide +kernel
theorem dX7_send_112 : decode cX7_send 112 = .ok (.bipush 80, 2) := by decide +kernel
theorem dX7_send_114 : decode cX7_send 114 = .ok (.if_icmp .lt 13, 3) := by decide +kernel
theorem dX7_send_117 : decode cX7_send 117 = .ok (.new 110, 3) := by decide +kernel
theorem dX7_send_120 : decode cX7_send 120 = .ok (.dup, 1) := by decide +kernel
theorem dX7_send_121 : decode cX7_send 121 = .ok (.ldc 128, 2) := by decide +kernel
theorem dX7_send_123 : decode cX7_send 123 = .ok (.invokespecial 114, 3) := by decide +kernel
theorem dX7_send_126 : decode cX7_send 126 = .ok (.athrow, 1) := by decide +kernel
theorem dX7_send_127 : decode cX7_send 127 = .ok (.aload_n 0, 1) := by decide +kernel
theorem dX7_send_128 : decode cX7_send 128 = .ok (.getfield 21, 3) := by decide +kernel
theorem dX7_send_131 : decode cX7_send 131 = .ok (.iload_n 1, 1) := by decide +kernel
theorem dX7_send_132 : decode cX7_send 132 = .ok (.iload_n 2, 1) := by decide +kernel
theorem dX7_send_133 : decode cX7_send 133 = .ok (.iload_n 3, 1) := by decide +kernel
theorem dX7_send_134 : decode cX7_send 134 = .ok (.iload 4, 2) := by decide +kernel
theorem dX7_send_136 : decode cX7_send 136 = .ok (.invokevirtual 130, 3) := by decide +kernel
theorem dX7_send_139 : decode cX7_send 139 = .ok (.istore 6, 2) := by decide +kernel
theorem dX7_send_141 : decode cX7_send 141 = .ok (.aload_n 0, 1) := by decide +kernel
theorem dX7_send_142 : decode cX7_send 142 = .ok (.getfield 28, 3) := by decide +kernel
theorem dX7_send_145 : decode cX7_send 145 = .ok (.iload 5, 2) := by decide +kernel
theorem dX7_send_147 : decode cX7_send 147 = .ok (.iload 6, 2) := by decide +kernel
theorem dX7_send_149 : decode cX7_send 149 = .ok (.invokevirtual 134, 3) := by decide +kernel
theorem dX7_send_152 : decode cX7_send 152 = .ok (.aload_n 0, 1) := by decide +kernel
theorem dX7_send_153 : decode cX7_send 153 = .ok (.getfield 42, 3) := by decide +kernel
theorem dX7_send_156 : decode cX7_send 156 = .ok (.iload_n 1, 1) := by decide +kernel
theorem dX7_send_157 : decode cX7_send 157 = .ok (.aload_n 0, 1) := by decide +kernel
theorem dX7_send_158 : decode cX7_send 158 = .ok (.getfield 115, 3) := by decide +kernel
theorem dX7_send_161 : decode cX7_send 161 = .ok (.invokevirtual 138, 3) := by decide +kernel
theorem dX7_send_164 : decode cX7_send 164 = .ok (.iload 6, 2) := by decide +kernel
theorem dX7_send_166 : decode cX7_send 166 = .ok (.ireturn, 1) := by decide +kernel
set_option maxRecDepth 20000 in
theorem ggX7_run_X7_runOne : GoodIn wsX7_run wsX7_runOne := goodIn_r _ [8, 9, 10, 11, 12, 13, 14, 15, 16, 17, 18, 19, 20, 21, 22, 23, 24, 25, 26, 27, 28, 29, 30, 31, 32, 33, 34, 35, 36, 37, 38, 39, 40, 41, 42, 43, 44, 45, 46, 47, 48, 49, 50, 7, 51, 52, 53, 3, 54, 55, 56, 57, 58, 59, 60, 61, 62, 63, 64, 65, 66, 67, 68, 69, 70, 71, 72, 73, 74, 75, 76, 77, 78, 79, 80, 81, 82, 83, 84, 85, 86, 87, 88, 89, 90, 91, 92, 93, 94, 95, 96, 97, 98, 99, 100, 101, 102, 103, 104, 105, 106, 107, 108, 109, 110, 111, 112, 113, 114, 115, 116, 117, 118, 119, 120, 121, 122, 123, 124, 125, 126, 127, 128, 129, 130, 131, 132, 133, 134, 135, 136, 137, 138, 139, 140, 141, 142, 143, 144, 145, 146, 147, 148, 149, 150, 151, 152, 153, 154, 155, 156, 157, 158, 159, 160, 161, 162, 163, 164, 165, 166, 167, 168, 169, 170, 171, 172, 173, 174, 175, 176, 177, 178, 179, 180, 181, 182, 183, 184, 185, 197, 198, 199, 200, 201, 202, 203, 204, 205, 186, 187, 188, 189, 190, 191, 192, 193, 194, 195, 196, 206, 207, 208, 209, 210] (by decide +kernel) (by decide +kernel)
set_option maxRecDepth 20000 in
theorem gX7_run_X7_runOne : GoodIn wsX7_run (wsV RX7 146 RX7 yX7_runOne wsX7_runOne) := goodIn_app (goodIn_of _ (by decide +kernel)) ggX7_run_X7_runOne
theorem dX7_run_0 : decode cX7_run 0 = .ok (.iload_n 1, 1) := by decide +kernel
theorem dX7_run_1 : decode cX7_run 1 = .ok (.iconst 1, 1) := by decide +kernel
theorem dX7_run_2 : decode cX7_run 2 = .ok (.if_icmp .lt 9, 3) := by decide +kernel
theorem dX7_run_5 : decode cX7_run 5 = .ok (.iload_n 1, 1) := by decide +kernel
theorem dX7_run_6 : decode cX7_run 6 = .ok (.bipush 50, 2) := by decide +kernel
theorem dX7_run_8 : decode cX7_run 8 = .ok (.if_icmp .le 13, 3) := by decide +kernel
theorem dX7_run_11 : decode cX7_run 11 = .ok (.new 77, 3) := by decide +kernel
theorem dX7_run_14 : decode cX7_run 14 = .ok (.dup, 1) := by decide +kernel
theorem dX7_run_15 : decode cX7_run 15 = .ok (.ldc 141, 2) := by decide +kernel
theorem dX7_run_17 : decode cX7_run 17 = .ok (.invokespecial 81, 3) := by decide +kernel
theorem dX7_run_20 : decode cX7_run 20 = .ok (.athrow, 1) := by decide +kernel
theorem dX7_run_21 : decode cX7_run 21 = .ok (.aload_n 0, 1) := by decide +kernel
theorem dX7_run_22 : decode cX7_run 22 = .ok (.getfield 21, 3) := by decide +kernel
theorem dX7_run_25 : decode cX7_run 25 = .ok (.getfield 143, 3) := by decide +kernel
theorem dX7_run_28 : decode cX7_run 28 = .ok (.istore_n 2, 1) := by decide +kernel
theorem dX7_run_29 : decode cX7_run 29 = .ok (.iconst 0, 1) := by decide +kernel
theorem dX7_run_30 : decode cX7_run 30 = .ok (.istore_n 3, 1) := by decide +kernel
theorem dX7_run_31 : decode cX7_run 31 = .ok (.iload_n 3, 1) := by decide +kernel
theorem dX7_run_32 : decode cX7_run 32 = .ok (.iload_n 1, 1) := by decide +kernel
theorem dX7_run_33 : decode cX7_run 33 = .ok (.if_icmp .ge 13, 3) := by decide +kernel
theorem dX7_run_36 : decode cX7_run 36 = .ok (.aload_n 0, 1) := by decide +kernel
theorem dX7_run_37 : decode cX7_run 37 = .ok (.invokevirtual 146, 3) := by decide +kernel
theorem dX7_run_40 : decode cX7_run 40 = .ok (.iinc 3 1, 3) := by decide +kernel
theorem dX7_run_43 : decode cX7_run 43 = .ok (.goto (-12), 3) := by decide +kernel
theorem dX7_run_46 : decode cX7_run 46 = .ok (.aload_n 0, 1) := by decide +kernel
theorem dX7_run_47 : decode cX7_run 47 = .ok (.getfield 21, 3) := by decide +kernel
theorem dX7_run_50 : decode cX7_run 50 = .ok (.getfield 143, 3) := by decide +kernel
theorem dX7_run_53 : decode cX7_run 53 = .ok (.iload_n 2, 1) := by decide +kernel
theorem dX7_run_54 : decode cX7_run 54 = .ok (.isub, 1) := by decide +kernel
theorem dX7_run_55 : decode cX7_run 55 = .ok (.ireturn, 1) := by decide +kernel
set_option maxRecDepth 20000 in
theorem ggX7_pause_X7_checkSwitch : GoodIn wsX7_pause wsX7_checkSwitch := goodIn_ca (goodIn_r _ [6, 7, 8, 9, 10, 11, 12, 13, 14, 15, 16, 17, 18, 19, 20, 31, 32, 33, 34, 35, 36, 37, 38, 39, 40, 41, 42, 43, 44, 45, 46] (by decide +kernel) (by decide +kernel)) (goodIn_sub (fun _ h => List.mem_cons_of_mem _ (List.mem_append_right _ h)) (by decide +kernel))
set_option maxRecDepth 20000 in
theorem gX7_pause_X7_checkSwitch : GoodIn wsX7_pause (wsV RX7 92 RX7 yX7_checkSwitch wsX7_checkSwitch) := goodIn_app (goodIn_of _ (by decide +kernel)) ggX7_pause_X7_checkSwitch
set_option maxRecDepth 20000 in
theorem ggX7_pause_X5_at : GoodIn wsX7_pause wsX5_at := goodIn_r _ [25, 26, 47] (by decide +kernel) (by decide +kernel)
set_option maxRecDepth 20000 in
theorem gX7_pause_X5_at : GoodIn wsX7_pause (wsV RX7 149 RX5 yX5_at wsX5_at) := goodIn_app (goodIn_of _ (by decide +kernel)) ggX7_pause_X5_at
set_option maxRecDepth 20000 in
theorem ggX7_pause_X5_put : GoodIn wsX7_pause wsX5_put := goodIn_r _ [30, 26, 47] (by decide +kernel) (by decide +kernel)
set_option maxRecDepth 20000 in
theorem gX7_pause_X5_put : GoodIn wsX7_pause (wsV RX7 153 RX5 yX5_put wsX5_put) := goodIn_app (goodIn_of _ (by decide +kernel)) ggX7_pause_X5_put
theorem dX7_pause_0 : decode cX7_pause 0 = .ok (.aload_n 0, 1) := by decide +kernel
theorem dX7_pause_1 : decode cX7_pause 1 = .ok (.iload_n 1, 1) := by decide +kernel
theorem dX7_pause_2 : decode cX7_pause 2 = .ok (.invokevirtual 92, 3) := by decide +kernel
theorem dX7_pause_5 : decode cX7_pause 5 = .ok (.aload_n 0, 1) := by decide +kernel
theorem dX7_pause_6 : decode cX7_pause 6 = .ok (.getfield 60, 3) := by decide +kernel
theorem dX7_pause_9 : decode cX7_pause 9 = .ok (.iload_n 1, 1) := by decide +kernel
theorem dX7_pause_10 : decode cX7_pause 10 = .ok (.invokevirtual 149, 3) := by decide +kernel
theorem dX7_pause_13 : decode cX7_pause 13 = .ok (.ifCond .eq 7, 3) := by decide +kernel
theorem dX7_pause_16 : decode cX7_pause 16 = .ok (.iconst 1, 1) := by decide +kernel
theorem dX7_pause_17 : decode cX7_pause 17 = .ok (.goto 4, 3) := by decide +kernel
theorem dX7_pause_20 : decode cX7_pause 20 = .ok (.iconst 0, 1) := by decide +kernel
theorem dX7_pause_21 : decode cX7_pause 21 = .ok (.istore_n 3, 1) := by decide +kernel
theorem dX7_pause_22 : decode cX7_pause 22 = .ok (.aload_n 0, 1) := by decide +kernel
theorem dX7_pause_23 : decode cX7_pause 23 = .ok (.getfield 60, 3) := by decide +kernel
theorem dX7_pause_26 : decode cX7_pause 26 = .ok (.iload_n 1, 1) := by decide +kernel
theorem dX7_pause_27 : decode cX7_pause 27 = .ok (.iload_n 2, 1) := by decide +kernel
theorem dX7_pause_28 : decode cX7_pause 28 = .ok (.ifCond .eq 7, 3) := by decide +kernel
theorem dX7_pause_31 : decode cX7_pause 31 = .ok (.iconst 1, 1) := by decide +kernel
theorem dX7_pause_32 : decode cX7_pause 32 = .ok (.goto 4, 3) := by decide +kernel
theorem dX7_pause_35 : decode cX7_pause 35 = .ok (.iconst 0, 1) := by decide +kernel
theorem dX7_pause_36 : decode cX7_pause 36 = .ok (.invokevirtual 153, 3) := by decide +kernel
theorem dX7_pause_39 : decode cX7_pause 39 = .ok (.iload_n 3, 1) := by decide +kernel
theorem dX7_pause_40 : decode cX7_pause 40 = .ok (.ireturn, 1) := by decide +kernel
set_option maxRecDepth 20000 in
theorem ggX7_lose_X7_checkLink : GoodIn wsX7_lose wsX7_checkLink := goodIn_ca (goodIn_r _ [8, 9, 10, 11, 12, 13, 14, 7, 15, 16, 17, 18, 19, 20, 21, 22, 23, 24, 25, 26, 27, 28, 29, 30, 31, 32, 33, 34, 35, 36, 37, 38, 71, 72, 73, 74, 75, 76, 77, 78, 79, 80, 81, 82, 83, 84, 85, 86, 87] (by decide +kernel) (by decide +kernel)) (goodIn_sub (fun _ h => List.mem_cons_of_mem _ (List.mem_append_left _ (List.mem_append_right _ h))) (by decide +kernel))
set_option maxRecDepth 20000 in
theorem gX7_lose_X7_checkLink : GoodIn wsX7_lose (wsV RX7 156 RX7 yX7_checkLink wsX7_checkLink) := goodIn_app (goodIn_of _ (by decide +kernel)) ggX7_lose_X7_checkLink
set_option maxRecDepth 20000 in
theorem ggX7_lose_X7_checkLane : GoodIn wsX7_lose wsX7_checkLane := goodIn_ca (goodIn_r _ [41, 42, 43] (by decide +kernel) (by decide +kernel)) (goodIn_sub (fun _ h => List.mem_cons_of_mem _ (List.mem_append_right _ h)) (by decide +kernel))
set_option maxRecDepth 20000 in
theorem gX7_lose_X7_checkLane : GoodIn wsX7_lose (va_wsS RX7 97 yX7_checkLane wsX7_checkLane) := goodIn_app (goodIn_of _ (by decide +kernel)) ggX7_lose_X7_checkLane
set_option maxRecDepth 20000 in
theorem ggX7_lose_X7_bufferBehind : GoodIn wsX7_lose wsX7_bufferBehind := goodIn_r _ [47, 11, 27, 28, 29, 19, 30, 31, 25, 32, 26, 33, 34, 35, 36, 37, 38, 48, 49, 7, 50, 71, 72, 73, 74, 75, 76, 77, 78, 79, 80, 81, 82, 83, 84, 85, 86, 87] (by decide +kernel) (by decide +kernel)
set_option maxRecDepth 20000 in
theorem gX7_lose_X7_bufferBehind : GoodIn wsX7_lose (wsV RX7 159 RX7 yX7_bufferBehind wsX7_bufferBehind) := goodIn_app (goodIn_of _ (by decide +kernel)) ggX7_lose_X7_bufferBehind
set_option maxRecDepth 20000 in
theorem ggX7_lose_X2_there : GoodIn wsX7_lose wsX2_there := goodIn_r _ [55, 56, 57, 34, 35, 36, 37, 38, 88, 89, 90, 91, 87] (by decide +kernel) (by decide +kernel)
set_option maxRecDepth 20000 in
theorem gX7_lose_X2_there : GoodIn wsX7_lose (wsV RX7 162 RX2 yX2_there wsX2_there) := goodIn_app (goodIn_of _ (by decide +kernel)) ggX7_lose_X2_there
set_option maxRecDepth 20000 in
theorem ggX7_lose_X2_take : GoodIn wsX7_lose wsX2_take := goodIn_r _ [61, 56, 62, 63, 64, 36, 65, 66, 34, 35, 37, 38, 67, 68, 69, 70, 88, 89, 90, 91, 87] (by decide +kernel) (by decide +kernel)
set_option maxRecDepth 20000 in
theorem gX7_lose_X2_take : GoodIn wsX7_lose (wsV RX7 167 RX2 yX2_take wsX2_take) := goodIn_app (goodIn_of _ (by decide +kernel)) ggX7_lose_X2_take
theorem dX7_lose_0 : decode cX7_lose 0 = .ok (.aload_n 0, 1) := by decide +kernel
theorem dX7_lose_1 : decode cX7_lose 1 = .ok (.iload_n 1, 1) := by decide +kernel
theorem dX7_lose_2 : decode cX7_lose 2 = .ok (.iload_n 2, 1) := by decide +kernel
theorem dX7_lose_3 : decode cX7_lose 3 = .ok (.invokevirtual 156, 3) := by decide +kernel
theorem dX7_lose_6 : decode cX7_lose 6 = .ok (.iload_n 3, 1) := by decide +kernel
theorem dX7_lose_7 : decode cX7_lose 7 = .ok (.invokestatic 97, 3) := by decide +kernel
theorem dX7_lose_10 : decode cX7_lose 10 = .ok (.aload_n 0, 1) := by decide +kernel
theorem dX7_lose_11 : decode cX7_lose 11 = .ok (.iload_n 1, 1) := by decide +kernel
theorem dX7_lose_12 : decode cX7_lose 12 = .ok (.iload_n 2, 1) := by decide +kernel
theorem dX7_lose_13 : decode cX7_lose 13 = .ok (.iload_n 3, 1) := by decide +kernel
theorem dX7_lose_14 : decode cX7_lose 14 = .ok (.invokevirtual 159, 3) := by decide +kernel
theorem dX7_lose_17 : decode cX7_lose 17 = .ok (.istore 4, 2) := by decide +kernel
theorem dX7_lose_19 : decode cX7_lose 19 = .ok (.aload_n 0, 1) := by decide +kernel
theorem dX7_lose_20 : decode cX7_lose 20 = .ok (.getfield 35, 3) := by decide +kernel
theorem dX7_lose_23 : decode cX7_lose 23 = .ok (.iload 4, 2) := by decide +kernel
theorem dX7_lose_25 : decode cX7_lose 25 = .ok (.invokevirtual 162, 3) := by decide +kernel
theorem dX7_lose_28 : decode cX7_lose 28 = .ok (.ifCond .gt 13, 3) := by decide +kernel
theorem dX7_lose_31 : decode cX7_lose 31 = .ok (.new 110, 3) := by decide +kernel
theorem dX7_lose_34 : decode cX7_lose 34 = .ok (.dup, 1) := by decide +kernel
theorem dX7_lose_35 : decode cX7_lose 35 = .ok (.ldc 165, 2) := by decide +kernel
theorem dX7_lose_37 : decode cX7_lose 37 = .ok (.invokespecial 114, 3) := by decide +kernel
theorem dX7_lose_40 : decode cX7_lose 40 = .ok (.athrow, 1) := by decide +kernel
theorem dX7_lose_41 : decode cX7_lose 41 = .ok (.aload_n 0, 1) := by decide +kernel
theorem dX7_lose_42 : decode cX7_lose 42 = .ok (.getfield 35, 3) := by decide +kernel
theorem dX7_lose_45 : decode cX7_lose 45 = .ok (.iload 4, 2) := by decide +kernel
theorem dX7_lose_47 : decode cX7_lose 47 = .ok (.invokevirtual 167, 3) := by decide +kernel
theorem dX7_lose_50 : decode cX7_lose 50 = .ok (.aload_n 0, 1) := by decide +kernel
theorem dX7_lose_51 : decode cX7_lose 51 = .ok (.getfield 35, 3) := by decide +kernel
theorem dX7_lose_54 : decode cX7_lose 54 = .ok (.iload 4, 2) := by decide +kernel
theorem dX7_lose_56 : decode cX7_lose 56 = .ok (.invokevirtual 162, 3) := by decide +kernel
theorem dX7_lose_59 : decode cX7_lose 59 = .ok (.ireturn, 1) := by decide +kernel
set_option maxRecDepth 20000 in
theorem ggX7_recover_X3_size : GoodIn wsX7_recover wsX3_size := goodIn_r _ [8, 9, 10, 51, 52, 53, 54] (by decide +kernel) (by decide +kernel)
set_option maxRecDepth 20000 in
theorem gX7_recover_X3_size : GoodIn wsX7_recover (wsV RX7 88 RX3 yX3_size wsX3_size) := goodIn_app (goodIn_of _ (by decide +kernel)) ggX7_recover_X3_size
set_option maxRecDepth 20000 in
theorem ggX7_recover_X0_free : GoodIn wsX7_recover wsX0_free := goodIn_r _ [15, 16, 17, 18, 19, 20, 21, 22, 23, 55, 56, 57, 58] (by decide +kernel) (by decide +kernel)
set_option maxRecDepth 20000 in
theorem gX7_recover_X0_free : GoodIn wsX7_recover (wsV RX7 170 RX0 yX0_free wsX0_free) := goodIn_app (goodIn_of _ (by decide +kernel)) ggX7_recover_X0_free
set_option maxRecDepth 20000 in
theorem ggX7_recover_X2_settle : GoodIn wsX7_recover wsX2_settle := goodIn_r _ [28, 29, 30, 31, 32, 27, 33, 34, 19, 20, 21, 22, 23, 35, 36, 37, 38, 59, 60, 61, 62, 58] (by decide +kernel) (by decide +kernel)
set_option maxRecDepth 20000 in
theorem gX7_recover_X2_settle : GoodIn wsX7_recover (wsV RX7 173 RX2 yX2_settle wsX2_settle) := goodIn_app (goodIn_of _ (by decide +kernel)) ggX7_recover_X2_settle
theorem dX7_recover_0 : decode cX7_recover 0 = .ok (.iconst 0, 1) := by decide +kernel
theorem dX7_recover_1 : decode cX7_recover 1 = .ok (.istore_n 1, 1) := by decide +kernel
theorem dX7_recover_2 : decode cX7_recover 2 = .ok (.iconst 0, 1) := by decide +kernel
theorem dX7_recover_3 : decode cX7_recover 3 = .ok (.istore_n 2, 1) := by decide +kernel
theorem dX7_recover_4 : decode cX7_recover 4 = .ok (.iload_n 2, 1) := by decide +kernel
theorem dX7_recover_5 : decode cX7_recover 5 = .ok (.aload_n 0, 1) := by decide +kernel
theorem dX7_recover_6 : decode cX7_recover 6 = .ok (.getfield 12, 3) := by decide +kernel
theorem dX7_recover_9 : decode cX7_recover 9 = .ok (.invokevirtual 88, 3) := by decide +kernel
theorem dX7_recover_12 : decode cX7_recover 12 = .ok (.if_icmp .ge 52, 3) := by decide +kernel
theorem dX7_recover_15 : decode cX7_recover 15 = .ok (.iconst 0, 1) := by decide +kernel
theorem dX7_recover_16 : decode cX7_recover 16 = .ok (.istore_n 3, 1) := by decide +kernel
theorem dX7_recover_17 : decode cX7_recover 17 = .ok (.iload_n 3, 1) := by decide +kernel
theorem dX7_recover_18 : decode cX7_recover 18 = .ok (.bipush 8, 2) := by decide +kernel
theorem dX7_recover_20 : decode cX7_recover 20 = .ok (.if_icmp .ge 38, 3) := by decide +kernel
theorem dX7_recover_23 : decode cX7_recover 23 = .ok (.iload_n 2, 1) := by decide +kernel
theorem dX7_recover_24 : decode cX7_recover 24 = .ok (.bipush 10, 2) := by decide +kernel
theorem dX7_recover_26 : decode cX7_recover 26 = .ok (.imul, 1) := by decide +kernel
theorem dX7_recover_27 : decode cX7_recover 27 = .ok (.iload_n 3, 1) := by decide +kernel
theorem dX7_recover_28 : decode cX7_recover 28 = .ok (.iadd, 1) := by decide +kernel
theorem dX7_recover_29 : decode cX7_recover 29 = .ok (.istore 4, 2) := by decide +kernel
theorem dX7_recover_31 : decode cX7_recover 31 = .ok (.iload_n 1, 1) := by decide +kernel
theorem dX7_recover_32 : decode cX7_recover 32 = .ok (.aload_n 0, 1) := by decide +kernel
theorem dX7_recover_33 : decode cX7_recover 33 = .ok (.getfield 35, 3) := by decide +kernel
theorem dX7_recover_36 : decode cX7_recover 36 = .ok (.iload 4, 2) := by decide +kernel
theorem dX7_recover_38 : decode cX7_recover 38 = .ok (.aload_n 0, 1) := by decide +kernel
theorem dX7_recover_39 : decode cX7_recover 39 = .ok (.getfield 28, 3) := by decide +kernel
theorem dX7_recover_42 : decode cX7_recover 42 = .ok (.iload 4, 2) := by decide +kernel
theorem dX7_recover_44 : decode cX7_recover 44 = .ok (.invokevirtual 170, 3) := by decide +kernel
theorem dX7_recover_47 : decode cX7_recover 47 = .ok (.invokevirtual 173, 3) := by decide +kernel
theorem dX7_recover_50 : decode cX7_recover 50 = .ok (.iadd, 1) := by decide +kernel
theorem dX7_recover_51 : decode cX7_recover 51 = .ok (.istore_n 1, 1) := by decide +kernel
theorem dX7_recover_52 : decode cX7_recover 52 = .ok (.iinc 3 1, 3) := by decide +kernel
theorem dX7_recover_55 : decode cX7_recover 55 = .ok (.goto (-38), 3) := by decide +kernel
theorem dX7_recover_58 : decode cX7_recover 58 = .ok (.iinc 2 1, 3) := by decide +kernel
theorem dX7_recover_61 : decode cX7_recover 61 = .ok (.goto (-57), 3) := by decide +kernel
theorem dX7_recover_64 : decode cX7_recover 64 = .ok (.iload_n 1, 1) := by decide +kernel
theorem dX7_recover_65 : decode cX7_recover 65 = .ok (.ireturn, 1) := by decide +kernel
theorem dX7_tick_0 : decode cX7_tick 0 = .ok (.aload_n 0, 1) := by decide +kernel
theorem dX7_tick_1 : decode cX7_tick 1 = .ok (.getfield 115, 3) := by decide +kernel
theorem dX7_tick_4 : decode cX7_tick 4 = .ok (.ireturn, 1) := by decide +kernel
theorem dX7_packets_0 : decode cX7_packets 0 = .ok (.aload_n 0, 1) := by decide +kernel
theorem dX7_packets_1 : decode cX7_packets 1 = .ok (.getfield 21, 3) := by decide +kernel
theorem dX7_packets_4 : decode cX7_packets 4 = .ok (.getfield 125, 3) := by decide +kernel
theorem dX7_packets_7 : decode cX7_packets 7 = .ok (.ireturn, 1) := by decide +kernel
theorem dX7_arrived_0 : decode cX7_arrived 0 = .ok (.aload_n 0, 1) := by decide +kernel
theorem dX7_arrived_1 : decode cX7_arrived 1 = .ok (.getfield 21, 3) := by decide +kernel
theorem dX7_arrived_4 : decode cX7_arrived 4 = .ok (.getfield 143, 3) := by decide +kernel
theorem dX7_arrived_7 : decode cX7_arrived 7 = .ok (.ireturn, 1) := by decide +kernel
set_option maxRecDepth 20000 in
theorem ggX7_credits_X7_checkLink : GoodIn wsX7_credits wsX7_checkLink := goodIn_ca (goodIn_r _ [6, 7, 8, 9, 10, 11, 12, 5, 13, 14, 15, 16, 17, 18, 19, 20, 21, 22, 23, 24, 25, 26, 27, 28, 29, 30, 31, 32, 33, 34, 35, 36, 56, 57, 58, 59, 60, 61, 62, 63, 64, 65, 66, 67, 68, 69, 70, 71, 72] (by decide +kernel) (by decide +kernel)) (goodIn_sub (fun _ h => List.mem_cons_of_mem _ (List.mem_append_left _ (List.mem_append_right _ h))) (by decide +kernel))
set_option maxRecDepth 20000 in
theorem gX7_credits_X7_checkLink : GoodIn wsX7_credits (wsV RX7 156 RX7 yX7_checkLink wsX7_checkLink) := goodIn_app (goodIn_of _ (by decide +kernel)) ggX7_credits_X7_checkLink
set_option maxRecDepth 20000 in
theorem ggX7_credits_X7_checkLane : GoodIn wsX7_credits wsX7_checkLane := goodIn_ca (goodIn_r _ [39, 40, 41] (by decide +kernel) (by decide +kernel)) (goodIn_sub (fun _ h => List.mem_cons_of_mem _ (List.mem_append_right _ h)) (by decide +kernel))
set_option maxRecDepth 20000 in
theorem gX7_credits_X7_checkLane : GoodIn wsX7_credits (va_wsS RX7 97 yX7_checkLane wsX7_checkLane) := goodIn_app (goodIn_of _ (by decide +kernel)) ggX7_credits_X7_checkLane
set_option maxRecDepth 20000 in
theorem ggX7_credits_X7_bufferBehind : GoodIn wsX7_credits wsX7_bufferBehind := goodIn_r _ [45, 9, 25, 26, 27, 17, 28, 29, 23, 30, 24, 31, 32, 33, 34, 35, 36, 46, 47, 5, 48, 56, 57, 58, 59, 60, 61, 62, 63, 64, 65, 66, 67, 68, 69, 70, 71, 72] (by decide +kernel) (by decide +kernel)
set_option maxRecDepth 20000 in
theorem gX7_credits_X7_bufferBehind : GoodIn wsX7_credits (wsV RX7 159 RX7 yX7_bufferBehind wsX7_bufferBehind) := goodIn_app (goodIn_of _ (by decide +kernel)) ggX7_credits_X7_bufferBehind
set_option maxRecDepth 20000 in
theorem ggX7_credits_X2_there : GoodIn wsX7_credits wsX2_there := goodIn_r _ [53, 54, 55, 32, 33, 34, 35, 36, 73, 74, 75, 76, 72] (by decide +kernel) (by decide +kernel)
set_option maxRecDepth 20000 in
theorem gX7_credits_X2_there : GoodIn wsX7_credits (wsV RX7 162 RX2 yX2_there wsX2_there) := goodIn_app (goodIn_of _ (by decide +kernel)) ggX7_credits_X2_there
theorem dX7_credits_0 : decode cX7_credits 0 = .ok (.aload_n 0, 1) := by decide +kernel
theorem dX7_credits_1 : decode cX7_credits 1 = .ok (.iload_n 1, 1) := by decide +kernel
theorem dX7_credits_2 : decode cX7_credits 2 = .ok (.iload_n 2, 1) := by decide +kernel
theorem dX7_credits_3 : decode cX7_credits 3 = .ok (.invokevirtual 156, 3) := by decide +kernel
theorem dX7_credits_6 : decode cX7_credits 6 = .ok (.iload_n 3, 1) := by decide +kernel
theorem dX7_credits_7 : decode cX7_credits 7 = .ok (.invokestatic 97, 3) := by decide +kernel
theorem dX7_credits_10 : decode cX7_credits 10 = .ok (.aload_n 0, 1) := by decide +kernel
theorem dX7_credits_11 : decode cX7_credits 11 = .ok (.getfield 35, 3) := by decide +kernel
theorem dX7_credits_14 : decode cX7_credits 14 = .ok (.aload_n 0, 1) := by decide +kernel
theorem dX7_credits_15 : decode cX7_credits 15 = .ok (.iload_n 1, 1) := by decide +kernel
theorem dX7_credits_16 : decode cX7_credits 16 = .ok (.iload_n 2, 1) := by decide +kernel
theorem dX7_credits_17 : decode cX7_credits 17 = .ok (.iload_n 3, 1) := by decide +kernel
theorem dX7_credits_18 : decode cX7_credits 18 = .ok (.invokevirtual 159, 3) := by decide +kernel
theorem dX7_credits_21 : decode cX7_credits 21 = .ok (.invokevirtual 162, 3) := by decide +kernel
theorem dX7_credits_24 : decode cX7_credits 24 = .ok (.ireturn, 1) := by decide +kernel
set_option maxRecDepth 20000 in
theorem ggX7_inBuffer_X7_checkSwitch : GoodIn wsX7_inBuffer wsX7_checkSwitch := goodIn_ca (goodIn_r _ [8, 9, 10, 11, 12, 13, 14, 15, 16, 17, 18, 19, 20, 21, 22, 41, 42, 43, 44, 45, 46, 47, 48, 49, 50, 51, 52, 53, 54, 55, 56] (by decide +kernel) (by decide +kernel)) (goodIn_sub (fun _ h => List.mem_cons_of_mem _ (List.mem_append_right _ h)) (by decide +kernel))
set_option maxRecDepth 20000 in
theorem gX7_inBuffer_X7_checkSwitch : GoodIn wsX7_inBuffer (wsV RX7 92 RX7 yX7_checkSwitch wsX7_checkSwitch) := goodIn_app (goodIn_of _ (by decide +kernel)) ggX7_inBuffer_X7_checkSwitch
set_option maxRecDepth 20000 in
theorem ggX7_inBuffer_X7_checkLane : GoodIn wsX7_inBuffer wsX7_checkLane := goodIn_ca (goodIn_r _ [25, 1, 2] (by decide +kernel) (by decide +kernel)) (goodIn_sub (fun _ h => List.mem_cons_of_mem _ (List.mem_append_left _ (List.mem_append_right _ h))) (by decide +kernel))
set_option maxRecDepth 20000 in
theorem gX7_inBuffer_X7_checkLane : GoodIn wsX7_inBuffer (va_wsS RX7 97 yX7_checkLane wsX7_checkLane) := goodIn_app (goodIn_of _ (by decide +kernel)) ggX7_inBuffer_X7_checkLane
set_option maxRecDepth 20000 in
theorem ggX7_inBuffer_X7_bufferOf : GoodIn wsX7_inBuffer wsX7_bufferOf := goodIn_r _ [28] (by decide +kernel) (by decide +kernel)
set_option maxRecDepth 20000 in
theorem gX7_inBuffer_X7_bufferOf : GoodIn wsX7_inBuffer (va_wsS RX7 102 yX7_bufferOf wsX7_bufferOf) := goodIn_app (goodIn_of _ (by decide +kernel)) ggX7_inBuffer_X7_bufferOf
set_option maxRecDepth 20000 in
theorem ggX7_inBuffer_X0_size : GoodIn wsX7_inBuffer wsX0_size := goodIn_r _ [33, 34, 35, 36, 37, 38, 39, 40, 57, 58, 59, 60] (by decide +kernel) (by decide +kernel)
set_option maxRecDepth 20000 in
theorem gX7_inBuffer_X0_size : GoodIn wsX7_inBuffer (wsV RX7 179 RX0 yX0_size wsX0_size) := goodIn_app (goodIn_of _ (by decide +kernel)) ggX7_inBuffer_X0_size
theorem dX7_inBuffer_0 : decode cX7_inBuffer 0 = .ok (.aload_n 0, 1) := by decide +kernel
theorem dX7_inBuffer_1 : decode cX7_inBuffer 1 = .ok (.iload_n 1, 1) := by decide +kernel
theorem dX7_inBuffer_2 : decode cX7_inBuffer 2 = .ok (.invokevirtual 92, 3) := by decide +kernel
theorem dX7_inBuffer_5 : decode cX7_inBuffer 5 = .ok (.iload_n 2, 1) := by decide +kernel
theorem dX7_inBuffer_6 : decode cX7_inBuffer 6 = .ok (.ifCond .lt 8, 3) := by decide +kernel
theorem dX7_inBuffer_9 : decode cX7_inBuffer 9 = .ok (.iload_n 2, 1) := by decide +kernel
theorem dX7_inBuffer_10 : decode cX7_inBuffer 10 = .ok (.iconst 4, 1) := by decide +kernel
theorem dX7_inBuffer_11 : decode cX7_inBuffer 11 = .ok (.if_icmp .le 13, 3) := by decide +kernel
theorem dX7_inBuffer_14 : decode cX7_inBuffer 14 = .ok (.new 77, 3) := by decide +kernel
theorem dX7_inBuffer_17 : decode cX7_inBuffer 17 = .ok (.dup, 1) := by decide +kernel
theorem dX7_inBuffer_18 : decode cX7_inBuffer 18 = .ok (.ldc 177, 2) := by decide +kernel
theorem dX7_inBuffer_20 : decode cX7_inBuffer 20 = .ok (.invokespecial 81, 3) := by decide +kernel
theorem dX7_inBuffer_23 : decode cX7_inBuffer 23 = .ok (.athrow, 1) := by decide +kernel
theorem dX7_inBuffer_24 : decode cX7_inBuffer 24 = .ok (.iload_n 3, 1) := by decide +kernel
theorem dX7_inBuffer_25 : decode cX7_inBuffer 25 = .ok (.invokestatic 97, 3) := by decide +kernel
theorem dX7_inBuffer_28 : decode cX7_inBuffer 28 = .ok (.aload_n 0, 1) := by decide +kernel
theorem dX7_inBuffer_29 : decode cX7_inBuffer 29 = .ok (.getfield 28, 3) := by decide +kernel
theorem dX7_inBuffer_32 : decode cX7_inBuffer 32 = .ok (.iload_n 1, 1) := by decide +kernel
theorem dX7_inBuffer_33 : decode cX7_inBuffer 33 = .ok (.iload_n 2, 1) := by decide +kernel
theorem dX7_inBuffer_34 : decode cX7_inBuffer 34 = .ok (.iload_n 3, 1) := by decide +kernel
theorem dX7_inBuffer_35 : decode cX7_inBuffer 35 = .ok (.invokestatic 102, 3) := by decide +kernel
theorem dX7_inBuffer_38 : decode cX7_inBuffer 38 = .ok (.invokevirtual 179, 3) := by decide +kernel
theorem dX7_inBuffer_41 : decode cX7_inBuffer 41 = .ok (.ireturn, 1) := by decide +kernel
set_option maxRecDepth 20000 in
theorem ggX7_gap_X7_checkSwitch : GoodIn wsX7_gap wsX7_checkSwitch := goodIn_ca (goodIn_r _ [6, 7, 8, 9, 10, 11, 12, 13, 14, 15, 16, 17, 18, 19, 20, 33, 34, 35, 36, 37, 38, 39, 40, 41, 42, 43, 44, 45, 46, 47, 48] (by decide +kernel) (by decide +kernel)) (goodIn_sub (fun _ h => List.mem_cons_of_mem _ (List.mem_append_right _ h)) (by decide +kernel))
set_option maxRecDepth 20000 in
theorem gX7_gap_X7_checkSwitch : GoodIn wsX7_gap (wsV RX7 92 RX7 yX7_checkSwitch wsX7_checkSwitch) := goodIn_app (goodIn_of _ (by decide +kernel)) ggX7_gap_X7_checkSwitch
set_option maxRecDepth 20000 in
theorem ggX7_gap_X6_gapOf : GoodIn wsX7_gap wsX6_gapOf := goodIn_r _ [25, 26, 27, 28, 29, 30, 31, 32, 49, 50, 51] (by decide +kernel) (by decide +kernel)
set_option maxRecDepth 20000 in
theorem gX7_gap_X6_gapOf : GoodIn wsX7_gap (wsV RX7 181 RX6 yX6_gapOf wsX6_gapOf) := goodIn_app (goodIn_of _ (by decide +kernel)) ggX7_gap_X6_gapOf
theorem dX7_gap_0 : decode cX7_gap 0 = .ok (.aload_n 0, 1) := by decide +kernel
theorem dX7_gap_1 : decode cX7_gap 1 = .ok (.iload_n 1, 1) := by decide +kernel
theorem dX7_gap_2 : decode cX7_gap 2 = .ok (.invokevirtual 92, 3) := by decide +kernel
theorem dX7_gap_5 : decode cX7_gap 5 = .ok (.aload_n 0, 1) := by decide +kernel
theorem dX7_gap_6 : decode cX7_gap 6 = .ok (.getfield 42, 3) := by decide +kernel
theorem dX7_gap_9 : decode cX7_gap 9 = .ok (.iload_n 1, 1) := by decide +kernel
theorem dX7_gap_10 : decode cX7_gap 10 = .ok (.invokevirtual 181, 3) := by decide +kernel
theorem dX7_gap_13 : decode cX7_gap 13 = .ok (.ireturn, 1) := by decide +kernel
set_option maxRecDepth 20000 in
theorem ggX7_placeOf_X7_checkPacket : GoodIn wsX7_placeOf wsX7_checkPacket := goodIn_ca (goodIn_r _ [6, 7, 8, 1, 15, 16, 17, 18, 19, 20, 21, 22, 23, 24, 25, 26, 27, 28, 29, 30, 31, 32, 33, 34, 35, 36, 37] (by decide +kernel) (by decide +kernel)) (goodIn_sub (fun _ h => List.mem_cons_of_mem _ (List.mem_append_right _ h)) (by decide +kernel))
set_option maxRecDepth 20000 in
theorem gX7_placeOf_X7_checkPacket : GoodIn wsX7_placeOf (wsV RX7 184 RX7 yX7_checkPacket wsX7_checkPacket) := goodIn_app (goodIn_of _ (by decide +kernel)) ggX7_placeOf_X7_checkPacket
set_option maxRecDepth 20000 in
theorem ggX7_placeOf_X5_at : GoodIn wsX7_placeOf wsX5_at := goodIn_r _ [13, 14, 38] (by decide +kernel) (by decide +kernel)
set_option maxRecDepth 20000 in
theorem gX7_placeOf_X5_at : GoodIn wsX7_placeOf (wsV RX7 149 RX5 yX5_at wsX5_at) := goodIn_app (goodIn_of _ (by decide +kernel)) ggX7_placeOf_X5_at
theorem dX7_placeOf_0 : decode cX7_placeOf 0 = .ok (.aload_n 0, 1) := by decide +kernel
theorem dX7_placeOf_1 : decode cX7_placeOf 1 = .ok (.iload_n 1, 1) := by decide +kernel
theorem dX7_placeOf_2 : decode cX7_placeOf 2 = .ok (.invokevirtual 184, 3) := by decide +kernel
theorem dX7_placeOf_5 : decode cX7_placeOf 5 = .ok (.aload_n 0, 1) := by decide +kernel
theorem dX7_placeOf_6 : decode cX7_placeOf 6 = .ok (.getfield 21, 3) := by decide +kernel
theorem dX7_placeOf_9 : decode cX7_placeOf 9 = .ok (.getfield 187, 3) := by decide +kernel
theorem dX7_placeOf_12 : decode cX7_placeOf 12 = .ok (.iload_n 1, 1) := by decide +kernel
theorem dX7_placeOf_13 : decode cX7_placeOf 13 = .ok (.invokevirtual 149, 3) := by decide +kernel
theorem dX7_placeOf_16 : decode cX7_placeOf 16 = .ok (.ireturn, 1) := by decide +kernel
set_option maxRecDepth 20000 in
theorem ggX7_hops_X7_checkPacket : GoodIn wsX7_hops wsX7_checkPacket := goodIn_ca (goodIn_r _ [6, 7, 8, 1, 15, 16, 17, 18, 19, 20, 21, 22, 23, 24, 25, 26, 27, 28, 29, 30, 31, 32, 33, 34, 35, 36, 37] (by decide +kernel) (by decide +kernel)) (goodIn_sub (fun _ h => List.mem_cons_of_mem _ (List.mem_append_right _ h)) (by decide +kernel))
set_option maxRecDepth 20000 in
theorem gX7_hops_X7_checkPacket : GoodIn wsX7_hops (wsV RX7 184 RX7 yX7_checkPacket wsX7_checkPacket) := goodIn_app (goodIn_of _ (by decide +kernel)) ggX7_hops_X7_checkPacket
set_option maxRecDepth 20000 in
theorem ggX7_hops_X5_at : GoodIn wsX7_hops wsX5_at := goodIn_r _ [13, 14, 38] (by decide +kernel) (by decide +kernel)
set_option maxRecDepth 20000 in
theorem gX7_hops_X5_at : GoodIn wsX7_hops (wsV RX7 149 RX5 yX5_at wsX5_at) := goodIn_app (goodIn_of _ (by decide +kernel)) ggX7_hops_X5_at
theorem dX7_hops_0 : decode cX7_hops 0 = .ok (.aload_n 0, 1) := by decide +kernel
theorem dX7_hops_1 : decode cX7_hops 1 = .ok (.iload_n 1, 1) := by decide +kernel
theorem dX7_hops_2 : decode cX7_hops 2 = .ok (.invokevirtual 184, 3) := by decide +kernel
theorem dX7_hops_5 : decode cX7_hops 5 = .ok (.aload_n 0, 1) := by decide +kernel
theorem dX7_hops_6 : decode cX7_hops 6 = .ok (.getfield 21, 3) := by decide +kernel
end
section
theorem dX7_hops_9 : decode cX7_hops 9 = .ok (.getfield 190, 3) := by decide +kernel
theorem dX7_hops_12 : decode cX7_hops 12 = .ok (.iload_n 1, 1) := by decide +kernel
theorem dX7_hops_13 : decode cX7_hops 13 = .ok (.invokevirtual 149, 3) := by decide +kernel
theorem dX7_hops_16 : decode cX7_hops 16 = .ok (.ireturn, 1) := by decide +kernel
set_option maxRecDepth 20000 in
theorem ggX7_isMarked_X7_checkPacket : GoodIn wsX7_isMarked wsX7_checkPacket := goodIn_ca (goodIn_r _ [6, 7, 8, 1, 15, 16, 17, 18, 19, 20, 21, 22, 23, 24, 25, 26, 27, 28, 29, 30, 31, 32, 33, 34, 35, 36, 37] (by decide +kernel) (by decide +kernel)) (goodIn_sub (fun _ h => List.mem_cons_of_mem _ (List.mem_append_right _ h)) (by decide +kernel))
set_option maxRecDepth 20000 in
theorem gX7_isMarked_X7_checkPacket : GoodIn wsX7_isMarked (wsV RX7 184 RX7 yX7_checkPacket wsX7_checkPacket) := goodIn_app (goodIn_of _ (by decide +kernel)) ggX7_isMarked_X7_checkPacket
set_option maxRecDepth 20000 in
theorem ggX7_isMarked_X5_at : GoodIn wsX7_isMarked wsX5_at := goodIn_r _ [13, 14, 38] (by decide +kernel) (by decide +kernel)
set_option maxRecDepth 20000 in
theorem gX7_isMarked_X5_at : GoodIn wsX7_isMarked (wsV RX7 149 RX5 yX5_at wsX5_at) := goodIn_app (goodIn_of _ (by decide +kernel)) ggX7_isMarked_X5_at
theorem dX7_isMarked_0 : decode cX7_isMarked 0 = .ok (.aload_n 0, 1) := by decide +kernel
theorem dX7_isMarked_1 : decode cX7_isMarked 1 = .ok (.iload_n 1, 1) := by decide +kernel
theorem dX7_isMarked_2 : decode cX7_isMarked 2 = .ok (.invokevirtual 184, 3) := by decide +kernel
theorem dX7_isMarked_5 : decode cX7_isMarked 5 = .ok (.aload_n 0, 1) := by decide +kernel
theorem dX7_isMarked_6 : decode cX7_isMarked 6 = .ok (.getfield 21, 3) := by decide +kernel
theorem dX7_isMarked_9 : decode cX7_isMarked 9 = .ok (.getfield 193, 3) := by decide +kernel
theorem dX7_isMarked_12 : decode cX7_isMarked 12 = .ok (.iload_n 1, 1) := by decide +kernel
theorem dX7_isMarked_13 : decode cX7_isMarked 13 = .ok (.invokevirtual 149, 3) := by decide +kernel
theorem dX7_isMarked_16 : decode cX7_isMarked 16 = .ok (.ifCond .eq 7, 3) := by decide +kernel
theorem dX7_isMarked_19 : decode cX7_isMarked 19 = .ok (.iconst 1, 1) := by decide +kernel
theorem dX7_isMarked_20 : decode cX7_isMarked 20 = .ok (.goto 4, 3) := by decide +kernel
theorem dX7_isMarked_23 : decode cX7_isMarked 23 = .ok (.iconst 0, 1) := by decide +kernel
theorem dX7_isMarked_24 : decode cX7_isMarked 24 = .ok (.ireturn, 1) := by decide +kernel
set_option maxRecDepth 20000 in
theorem ggX7_wants_X7_checkPacket : GoodIn wsX7_wants wsX7_checkPacket := goodIn_ca (goodIn_r _ [6, 7, 8, 1, 35, 36, 37, 38, 39, 40, 41, 42, 43, 44, 45, 46, 47, 48, 49, 50, 51, 52, 53, 54, 55, 56, 57] (by decide +kernel) (by decide +kernel)) (goodIn_sub (fun _ h => List.mem_cons_of_mem _ (List.mem_append_right _ h)) (by decide +kernel))
set_option maxRecDepth 20000 in
theorem gX7_wants_X7_checkPacket : GoodIn wsX7_wants (wsV RX7 184 RX7 yX7_checkPacket wsX7_checkPacket) := goodIn_app (goodIn_of _ (by decide +kernel)) ggX7_wants_X7_checkPacket
set_option maxRecDepth 20000 in
theorem ggX7_wants_X4_outputOf : GoodIn wsX7_wants wsX4_outputOf := goodIn_r _ [13, 14, 15, 16, 17, 18, 19, 20, 21, 22, 23, 24, 25, 26, 27, 28, 29, 30, 31, 32, 33, 34, 47, 48, 49, 50, 51, 52, 53, 54, 55, 56, 57, 58, 59, 60, 61, 62] (by decide +kernel) (by decide +kernel)
set_option maxRecDepth 20000 in
theorem gX7_wants_X4_outputOf : GoodIn wsX7_wants (wsV RX7 196 RX4 yX4_outputOf wsX4_outputOf) := goodIn_app (goodIn_of _ (by decide +kernel)) ggX7_wants_X4_outputOf
theorem dX7_wants_0 : decode cX7_wants 0 = .ok (.aload_n 0, 1) := by decide +kernel
theorem dX7_wants_1 : decode cX7_wants 1 = .ok (.iload_n 1, 1) := by decide +kernel
theorem dX7_wants_2 : decode cX7_wants 2 = .ok (.invokevirtual 184, 3) := by decide +kernel
theorem dX7_wants_5 : decode cX7_wants 5 = .ok (.aload_n 0, 1) := by decide +kernel
theorem dX7_wants_6 : decode cX7_wants 6 = .ok (.getfield 21, 3) := by decide +kernel
theorem dX7_wants_9 : decode cX7_wants 9 = .ok (.iload_n 1, 1) := by decide +kernel
theorem dX7_wants_10 : decode cX7_wants 10 = .ok (.invokevirtual 196, 3) := by decide +kernel
theorem dX7_wants_13 : decode cX7_wants 13 = .ok (.ireturn, 1) := by decide +kernel
set_option maxRecDepth 20000 in
theorem ggX7_circle_X1_countWaiting : GoodIn wsX7_circle wsX1_countWaiting := goodIn_r _ [6, 7, 8, 9, 10, 11, 12, 13, 14, 15, 16, 17, 18, 5, 19, 20, 21, 22, 23, 24, 25, 26, 27, 28, 29, 30, 31, 32, 33, 34, 35, 36, 37, 38, 39, 40, 41, 42, 43, 44, 45, 46, 47, 48, 49, 50, 51, 52, 53, 54, 55, 56, 57, 58, 59, 60, 61, 62, 63, 64, 65, 66, 67, 68, 69, 70, 71, 72, 73, 74, 75, 76, 77, 78, 79, 92, 93, 94, 95, 96, 97, 98, 99, 100, 101, 102, 103, 104, 105, 106, 107, 108, 109, 110, 111, 112, 113, 114, 115] (by decide +kernel) (by decide +kernel)
set_option maxRecDepth 20000 in
theorem gX7_circle_X1_countWaiting : GoodIn wsX7_circle (wsV RX7 199 RX1 yX1_countWaiting wsX1_countWaiting) := goodIn_app (goodIn_of _ (by decide +kernel)) ggX7_circle_X1_countWaiting
theorem dX7_circle_0 : decode cX7_circle 0 = .ok (.aload_n 0, 1) := by decide +kernel
theorem dX7_circle_1 : decode cX7_circle 1 = .ok (.getfield 51, 3) := by decide +kernel
theorem dX7_circle_4 : decode cX7_circle 4 = .ok (.invokevirtual 199, 3) := by decide +kernel
theorem dX7_circle_7 : decode cX7_circle 7 = .ok (.ireturn, 1) := by decide +kernel
set_option maxRecDepth 20000 in
theorem ggX7_mayCircle_X1_hangsTogether : GoodIn wsX7_mayCircle wsX1_hangsTogether := goodIn_r _ [6, 7, 8, 9, 10, 11, 12, 13, 14, 15, 16, 17, 18, 19, 20, 21, 5, 22, 23, 24, 25, 26, 27, 28, 29, 30, 31, 32, 33, 34, 35, 36, 37, 38, 39, 40, 41, 42, 43, 44, 45, 46, 47, 48, 49, 50, 51, 52, 53, 54, 55, 56, 57, 58, 59, 60, 61, 62, 63, 76, 77, 78, 79, 80, 81, 82, 83, 84, 85, 86, 87, 88, 89, 90, 91, 92, 93, 94, 95, 96] (by decide +kernel) (by decide +kernel)
set_option maxRecDepth 20000 in
theorem gX7_mayCircle_X1_hangsTogether : GoodIn wsX7_mayCircle (wsV RX7 202 RX1 yX1_hangsTogether wsX1_hangsTogether) := goodIn_app (goodIn_of _ (by decide +kernel)) ggX7_mayCircle_X1_hangsTogether
theorem dX7_mayCircle_0 : decode cX7_mayCircle 0 = .ok (.aload_n 0, 1) := by decide +kernel
theorem dX7_mayCircle_1 : decode cX7_mayCircle 1 = .ok (.getfield 51, 3) := by decide +kernel
theorem dX7_mayCircle_4 : decode cX7_mayCircle 4 = .ok (.invokevirtual 202, 3) := by decide +kernel
theorem dX7_mayCircle_7 : decode cX7_mayCircle 7 = .ok (.ireturn, 1) := by decide +kernel
set_option maxRecDepth 20000 in
theorem ggX7_checkSwitch_X3_has : GoodIn wsX7_checkSwitch wsX3_has := goodIn_r _ [8, 9, 10, 11, 7, 12, 13, 14, 27, 28, 29, 30] (by decide +kernel) (by decide +kernel)
set_option maxRecDepth 20000 in
theorem gX7_checkSwitch_X3_has : GoodIn wsX7_checkSwitch (wsV RX7 206 RX3 yX3_has wsX3_has) := goodIn_app (goodIn_of _ (by decide +kernel)) ggX7_checkSwitch_X3_has
theorem dX7_checkSwitch_0 : decode cX7_checkSwitch 0 = .ok (.aload_n 0, 1) := by decide +kernel
theorem dX7_checkSwitch_1 : decode cX7_checkSwitch 1 = .ok (.getfield 12, 3) := by decide +kernel
theorem dX7_checkSwitch_4 : decode cX7_checkSwitch 4 = .ok (.iload_n 1, 1) := by decide +kernel
theorem dX7_checkSwitch_5 : decode cX7_checkSwitch 5 = .ok (.invokevirtual 206, 3) := by decide +kernel
theorem dX7_checkSwitch_8 : decode cX7_checkSwitch 8 = .ok (.ifCond .ne 13, 3) := by decide +kernel
theorem dX7_checkSwitch_11 : decode cX7_checkSwitch 11 = .ok (.new 209, 3) := by decide +kernel
theorem dX7_checkSwitch_14 : decode cX7_checkSwitch 14 = .ok (.dup, 1) := by decide +kernel
theorem dX7_checkSwitch_15 : decode cX7_checkSwitch 15 = .ok (.ldc 211, 2) := by decide +kernel
theorem dX7_checkSwitch_17 : decode cX7_checkSwitch 17 = .ok (.invokespecial 213, 3) := by decide +kernel
theorem dX7_checkSwitch_20 : decode cX7_checkSwitch 20 = .ok (.athrow, 1) := by decide +kernel
theorem dX7_checkSwitch_21 : decode cX7_checkSwitch 21 = .ok (.return_, 1) := by decide +kernel
set_option maxRecDepth 20000 in
theorem ggX7_checkLink_X7_checkSwitch : GoodIn wsX7_checkLink wsX7_checkSwitch := goodIn_ca (goodIn_r _ [8, 1, 2, 3, 9, 10, 11, 12, 13, 14, 15, 16, 17, 18, 19, 32, 33, 34, 35, 36, 37, 38, 39, 40, 41, 42, 43, 44, 45, 46, 47] (by decide +kernel) (by decide +kernel)) (goodIn_sub (fun _ h => List.mem_cons_of_mem _ (List.mem_append_right _ h)) (by decide +kernel))
set_option maxRecDepth 20000 in
theorem gX7_checkLink_X7_checkSwitch : GoodIn wsX7_checkLink (wsV RX7 92 RX7 yX7_checkSwitch wsX7_checkSwitch) := goodIn_app (goodIn_of _ (by decide +kernel)) ggX7_checkLink_X7_checkSwitch
set_option maxRecDepth 20000 in
theorem ggX7_checkLink_X3_behind : GoodIn wsX7_checkLink wsX3_behind := goodIn_r _ [23, 24, 18, 25, 19, 26, 27, 28, 29, 30, 31, 44, 45, 46, 47, 48] (by decide +kernel) (by decide +kernel)
set_option maxRecDepth 20000 in
theorem gX7_checkLink_X3_behind : GoodIn wsX7_checkLink (wsV RX7 214 RX3 yX3_behind wsX3_behind) := goodIn_app (goodIn_of _ (by decide +kernel)) ggX7_checkLink_X3_behind
theorem dX7_checkLink_0 : decode cX7_checkLink 0 = .ok (.aload_n 0, 1) := by decide +kernel
theorem dX7_checkLink_1 : decode cX7_checkLink 1 = .ok (.iload_n 1, 1) := by decide +kernel
theorem dX7_checkLink_2 : decode cX7_checkLink 2 = .ok (.invokevirtual 92, 3) := by decide +kernel
theorem dX7_checkLink_5 : decode cX7_checkLink 5 = .ok (.aload_n 0, 1) := by decide +kernel
theorem dX7_checkLink_6 : decode cX7_checkLink 6 = .ok (.getfield 12, 3) := by decide +kernel
theorem dX7_checkLink_9 : decode cX7_checkLink 9 = .ok (.iload_n 1, 1) := by decide +kernel
theorem dX7_checkLink_10 : decode cX7_checkLink 10 = .ok (.iload_n 2, 1) := by decide +kernel
theorem dX7_checkLink_11 : decode cX7_checkLink 11 = .ok (.invokevirtual 214, 3) := by decide +kernel
theorem dX7_checkLink_14 : decode cX7_checkLink 14 = .ok (.iconst (-1), 1) := by decide +kernel
theorem dX7_checkLink_15 : decode cX7_checkLink 15 = .ok (.if_icmp .ne 13, 3) := by decide +kernel
theorem dX7_checkLink_18 : decode cX7_checkLink 18 = .ok (.new 209, 3) := by decide +kernel
theorem dX7_checkLink_21 : decode cX7_checkLink 21 = .ok (.dup, 1) := by decide +kernel
theorem dX7_checkLink_22 : decode cX7_checkLink 22 = .ok (.ldc 217, 2) := by decide +kernel
theorem dX7_checkLink_24 : decode cX7_checkLink 24 = .ok (.invokespecial 213, 3) := by decide +kernel
theorem dX7_checkLink_27 : decode cX7_checkLink 27 = .ok (.athrow, 1) := by decide +kernel
theorem dX7_checkLink_28 : decode cX7_checkLink 28 = .ok (.return_, 1) := by decide +kernel
theorem dX7_checkPacket_0 : decode cX7_checkPacket 0 = .ok (.iload_n 1, 1) := by decide +kernel
theorem dX7_checkPacket_1 : decode cX7_checkPacket 1 = .ok (.ifCond .lt 14, 3) := by decide +kernel
theorem dX7_checkPacket_4 : decode cX7_checkPacket 4 = .ok (.iload_n 1, 1) := by decide +kernel
theorem dX7_checkPacket_5 : decode cX7_checkPacket 5 = .ok (.aload_n 0, 1) := by decide +kernel
theorem dX7_checkPacket_6 : decode cX7_checkPacket 6 = .ok (.getfield 21, 3) := by decide +kernel
theorem dX7_checkPacket_9 : decode cX7_checkPacket 9 = .ok (.getfield 125, 3) := by decide +kernel
theorem dX7_checkPacket_12 : decode cX7_checkPacket 12 = .ok (.if_icmp .lt 13, 3) := by decide +kernel
theorem dX7_checkPacket_15 : decode cX7_checkPacket 15 = .ok (.new 209, 3) := by decide +kernel
theorem dX7_checkPacket_18 : decode cX7_checkPacket 18 = .ok (.dup, 1) := by decide +kernel
theorem dX7_checkPacket_19 : decode cX7_checkPacket 19 = .ok (.ldc 219, 2) := by decide +kernel
theorem dX7_checkPacket_21 : decode cX7_checkPacket 21 = .ok (.invokespecial 213, 3) := by decide +kernel
theorem dX7_checkPacket_24 : decode cX7_checkPacket 24 = .ok (.athrow, 1) := by decide +kernel
theorem dX7_checkPacket_25 : decode cX7_checkPacket 25 = .ok (.return_, 1) := by decide +kernel
theorem dX7_checkLane_0 : decode cX7_checkLane 0 = .ok (.iload_n 0, 1) := by decide +kernel
theorem dX7_checkLane_1 : decode cX7_checkLane 1 = .ok (.ifCond .eq 18, 3) := by decide +kernel
theorem dX7_checkLane_4 : decode cX7_checkLane 4 = .ok (.iload_n 0, 1) := by decide +kernel
theorem dX7_checkLane_5 : decode cX7_checkLane 5 = .ok (.iconst 1, 1) := by decide +kernel
theorem dX7_checkLane_6 : decode cX7_checkLane 6 = .ok (.if_icmp .eq 13, 3) := by decide +kernel
theorem dX7_checkLane_9 : decode cX7_checkLane 9 = .ok (.new 77, 3) := by decide +kernel
theorem dX7_checkLane_12 : decode cX7_checkLane 12 = .ok (.dup, 1) := by decide +kernel
theorem dX7_checkLane_13 : decode cX7_checkLane 13 = .ok (.ldc 221, 2) := by decide +kernel
theorem dX7_checkLane_15 : decode cX7_checkLane 15 = .ok (.invokespecial 81, 3) := by decide +kernel
theorem dX7_checkLane_18 : decode cX7_checkLane 18 = .ok (.athrow, 1) := by decide +kernel
theorem dX7_checkLane_19 : decode cX7_checkLane 19 = .ok (.return_, 1) := by decide +kernel
set_option maxRecDepth 20000 in
theorem ggX7_layAnew_X3_lay : GoodIn wsX7_layAnew wsX3_lay := goodIn_r _ [13, 14, 15, 16, 17, 18, 19, 20, 21, 22, 23, 73, 74, 75, 76, 77] (by decide +kernel) (by decide +kernel)
set_option maxRecDepth 20000 in
theorem gX7_layAnew_X3_lay : GoodIn wsX7_layAnew (wsV RX7 223 RX3 yX3_lay wsX3_lay) := goodIn_app (goodIn_of _ (by decide +kernel)) ggX7_layAnew_X3_lay
set_option maxRecDepth 20000 in
theorem ggX7_layAnew_X4_clear : GoodIn wsX7_layAnew wsX4_clear := goodIn_r _ [28, 29, 30, 78, 79, 80, 81, 82, 83, 84, 85, 86, 87, 88] (by decide +kernel) (by decide +kernel)
set_option maxRecDepth 20000 in
theorem gX7_layAnew_X4_clear : GoodIn wsX7_layAnew (wsV RX7 226 RX4 yX4_clear wsX4_clear) := goodIn_app (goodIn_of _ (by decide +kernel)) ggX7_layAnew_X4_clear
set_option maxRecDepth 20000 in
theorem ggX7_layAnew_X0_clear : GoodIn wsX7_layAnew wsX0_clear := goodIn_r _ [35, 36, 37, 38, 39, 40, 21, 41, 23, 89, 90, 91, 77] (by decide +kernel) (by decide +kernel)
set_option maxRecDepth 20000 in
theorem gX7_layAnew_X0_clear : GoodIn wsX7_layAnew (wsV RX7 229 RX0 yX0_clear wsX0_clear) := goodIn_app (goodIn_of _ (by decide +kernel)) ggX7_layAnew_X0_clear
set_option maxRecDepth 20000 in
theorem ggX7_layAnew_X2_fill : GoodIn wsX7_layAnew wsX2_fill := goodIn_r _ [46, 47, 48, 49, 50, 51, 39, 40, 21, 41, 23, 92, 93, 94, 95, 77] (by decide +kernel) (by decide +kernel)
set_option maxRecDepth 20000 in
theorem gX7_layAnew_X2_fill : GoodIn wsX7_layAnew (wsV RX7 231 RX2 yX2_fill wsX2_fill) := goodIn_app (goodIn_of _ (by decide +kernel)) ggX7_layAnew_X2_fill
set_option maxRecDepth 20000 in
theorem ggX7_layAnew_X6_clear : GoodIn wsX7_layAnew wsX6_clear := goodIn_r _ [56, 57, 58, 59, 39, 40, 21, 41, 23, 96, 97, 77] (by decide +kernel) (by decide +kernel)
set_option maxRecDepth 20000 in
theorem gX7_layAnew_X6_clear : GoodIn wsX7_layAnew (wsV RX7 234 RX6 yX6_clear wsX6_clear) := goodIn_app (goodIn_of _ (by decide +kernel)) ggX7_layAnew_X6_clear
set_option maxRecDepth 20000 in
theorem ggX7_layAnew_X5_fill : GoodIn wsX7_layAnew wsX5_fill := goodIn_r _ [41, 23, 77] (by decide +kernel) (by decide +kernel)
set_option maxRecDepth 20000 in
theorem gX7_layAnew_X5_fill : GoodIn wsX7_layAnew (wsV RX7 235 RX5 yX5_fill wsX5_fill) := goodIn_app (goodIn_of _ (by decide +kernel)) ggX7_layAnew_X5_fill
theorem dX7_layAnew_0 : decode cX7_layAnew 0 = .ok (.aload_n 0, 1) := by decide +kernel
theorem dX7_layAnew_1 : decode cX7_layAnew 1 = .ok (.getfield 12, 3) := by decide +kernel
theorem dX7_layAnew_4 : decode cX7_layAnew 4 = .ok (.iload_n 1, 1) := by decide +kernel
theorem dX7_layAnew_5 : decode cX7_layAnew 5 = .ok (.iload_n 2, 1) := by decide +kernel
theorem dX7_layAnew_6 : decode cX7_layAnew 6 = .ok (.invokevirtual 223, 3) := by decide +kernel
theorem dX7_layAnew_9 : decode cX7_layAnew 9 = .ok (.aload_n 0, 1) := by decide +kernel
theorem dX7_layAnew_10 : decode cX7_layAnew 10 = .ok (.getfield 21, 3) := by decide +kernel
theorem dX7_layAnew_13 : decode cX7_layAnew 13 = .ok (.invokevirtual 226, 3) := by decide +kernel
theorem dX7_layAnew_16 : decode cX7_layAnew 16 = .ok (.aload_n 0, 1) := by decide +kernel
theorem dX7_layAnew_17 : decode cX7_layAnew 17 = .ok (.getfield 28, 3) := by decide +kernel
theorem dX7_layAnew_20 : decode cX7_layAnew 20 = .ok (.iload_n 3, 1) := by decide +kernel
theorem dX7_layAnew_21 : decode cX7_layAnew 21 = .ok (.invokevirtual 229, 3) := by decide +kernel
theorem dX7_layAnew_24 : decode cX7_layAnew 24 = .ok (.aload_n 0, 1) := by decide +kernel
theorem dX7_layAnew_25 : decode cX7_layAnew 25 = .ok (.getfield 35, 3) := by decide +kernel
theorem dX7_layAnew_28 : decode cX7_layAnew 28 = .ok (.iload_n 3, 1) := by decide +kernel
theorem dX7_layAnew_29 : decode cX7_layAnew 29 = .ok (.iload 4, 2) := by decide +kernel
theorem dX7_layAnew_31 : decode cX7_layAnew 31 = .ok (.invokevirtual 231, 3) := by decide +kernel
theorem dX7_layAnew_34 : decode cX7_layAnew 34 = .ok (.aload_n 0, 1) := by decide +kernel
theorem dX7_layAnew_35 : decode cX7_layAnew 35 = .ok (.getfield 42, 3) := by decide +kernel
theorem dX7_layAnew_38 : decode cX7_layAnew 38 = .ok (.invokevirtual 234, 3) := by decide +kernel
theorem dX7_layAnew_41 : decode cX7_layAnew 41 = .ok (.aload_n 0, 1) := by decide +kernel
theorem dX7_layAnew_42 : decode cX7_layAnew 42 = .ok (.getfield 60, 3) := by decide +kernel
theorem dX7_layAnew_45 : decode cX7_layAnew 45 = .ok (.iconst 0, 1) := by decide +kernel
theorem dX7_layAnew_46 : decode cX7_layAnew 46 = .ok (.invokevirtual 235, 3) := by decide +kernel
theorem dX7_layAnew_49 : decode cX7_layAnew 49 = .ok (.aload_n 0, 1) := by decide +kernel
theorem dX7_layAnew_50 : decode cX7_layAnew 50 = .ok (.getfield 64, 3) := by decide +kernel
theorem dX7_layAnew_53 : decode cX7_layAnew 53 = .ok (.iconst 0, 1) := by decide +kernel
theorem dX7_layAnew_54 : decode cX7_layAnew 54 = .ok (.invokevirtual 235, 3) := by decide +kernel
theorem dX7_layAnew_57 : decode cX7_layAnew 57 = .ok (.aload_n 0, 1) := by decide +kernel
theorem dX7_layAnew_58 : decode cX7_layAnew 58 = .ok (.iconst 0, 1) := by decide +kernel
theorem dX7_layAnew_59 : decode cX7_layAnew 59 = .ok (.putfield 115, 3) := by decide +kernel
theorem dX7_layAnew_62 : decode cX7_layAnew 62 = .ok (.return_, 1) := by decide +kernel
set_option maxRecDepth 20000 in
theorem ggX7_runOne_X2_comeBack : GoodIn wsX7_runOne wsX2_comeBack := goodIn_r _ [10, 11, 12, 13, 14, 15, 9, 16, 17, 18, 19, 20, 21, 22, 23, 24, 25, 26, 27, 28, 29, 30, 31, 32, 180, 181, 182, 183, 184] (by decide +kernel) (by decide +kernel)
set_option maxRecDepth 20000 in
theorem gX7_runOne_X2_comeBack : GoodIn wsX7_runOne (wsV RX7 237 RX2 yX2_comeBack wsX2_comeBack) := goodIn_app (goodIn_of _ (by decide +kernel)) ggX7_runOne_X2_comeBack
set_option maxRecDepth 20000 in
theorem ggX7_runOne_X3_size : GoodIn wsX7_runOne wsX3_size := goodIn_r _ [37, 38, 39, 185, 186, 187, 188] (by decide +kernel) (by decide +kernel)
set_option maxRecDepth 20000 in
theorem gX7_runOne_X3_size : GoodIn wsX7_runOne (wsV RX7 88 RX3 yX3_size wsX3_size) := goodIn_app (goodIn_of _ (by decide +kernel)) ggX7_runOne_X3_size
set_option maxRecDepth 20000 in
theorem ggX7_runOne_X7_chooseAt : GoodIn wsX7_runOne wsX7_chooseAt := goodIn_r _ [44, 45, 46, 47, 48, 49, 50, 20, 51, 22, 52, 53, 54, 55, 56, 57, 58, 59, 18, 19, 21, 60, 61, 62, 63, 64, 65, 66, 67, 68, 69, 70, 71, 72, 36, 73, 74, 75, 76, 77, 78, 79, 80, 81, 82, 83, 43, 84, 4, 85, 1, 86, 87, 88, 89, 38, 39, 90, 91, 92, 93, 94, 95, 9, 96, 13, 17, 97, 29, 30, 31, 98, 99, 100, 101, 102, 5, 3, 168, 169, 170, 171, 172, 173, 174, 175, 176, 177, 178, 179, 189, 190, 191, 192, 193, 194, 195, 196, 197, 198, 199, 184, 200, 201, 202, 185, 186, 187, 188, 180, 181, 182, 183] (by decide +kernel) (by decide +kernel)
set_option maxRecDepth 20000 in
theorem gX7_runOne_X7_chooseAt : GoodIn wsX7_runOne (wsV RX7 243 RX7 yX7_chooseAt wsX7_chooseAt) := goodIn_app (goodIn_of _ (by decide +kernel)) ggX7_runOne_X7_chooseAt
set_option maxRecDepth 20000 in
theorem ggX7_runOne_X5_at : GoodIn wsX7_runOne wsX5_at := goodIn_r _ [21, 22, 184] (by decide +kernel) (by decide +kernel)
set_option maxRecDepth 20000 in
theorem gX7_runOne_X5_at : GoodIn wsX7_runOne (wsV RX7 149 RX5 yX5_at wsX5_at) := goodIn_app (goodIn_of _ (by decide +kernel)) ggX7_runOne_X5_at
set_option maxRecDepth 20000 in
theorem ggX7_runOne_X7_move : GoodIn wsX7_runOne wsX7_move := goodIn_r _ [106, 47, 46, 1, 2, 107, 4, 60, 61, 62, 63, 64, 65, 66, 67, 68, 69, 18, 19, 20, 21, 22, 70, 71, 72, 36, 73, 74, 75, 76, 77, 78, 79, 80, 90, 91, 43, 92, 108, 109, 110, 55, 111, 57, 58, 59, 112, 29, 30, 31, 113, 24, 25, 26, 27, 28, 114, 115, 116, 9, 117, 12, 118, 11, 14, 15, 16, 23, 119, 120, 121, 122, 123, 124, 125, 126, 127, 128, 129, 130, 131, 132, 133, 134, 135, 136, 137, 138, 139, 86, 87, 88, 89, 38, 39, 140, 141, 142, 143, 13, 144, 145, 146, 147, 148, 149, 150, 151, 152, 153, 154, 155, 156, 157, 158, 159, 168, 169, 170, 171, 172, 173, 174, 175, 176, 177, 178, 179, 189, 190, 191, 192, 193, 194, 195, 196, 197, 198, 199, 184, 185, 186, 187, 188, 200, 201, 202, 180, 181, 182, 183, 203, 204] (by decide +kernel) (by decide +kernel)
set_option maxRecDepth 20000 in
theorem gX7_runOne_X7_move : GoodIn wsX7_runOne (wsV RX7 246 RX7 yX7_move wsX7_move) := goodIn_app (goodIn_of _ (by decide +kernel)) ggX7_runOne_X7_move
set_option maxRecDepth 20000 in
theorem ggX7_runOne_X7_markInCrowd : GoodIn wsX7_runOne wsX7_markInCrowd := goodIn_r _ [163, 47, 46, 80, 18, 19, 20, 21, 22, 164, 165, 166, 55, 167, 57, 59, 97, 29, 30, 31, 168, 169, 170, 171, 172, 173, 174, 175, 176, 177, 178, 179, 189, 190, 191, 192, 193, 194, 195, 196, 197, 198, 199, 184, 200, 201, 202] (by decide +kernel) (by decide +kernel)
set_option maxRecDepth 20000 in
theorem gX7_runOne_X7_markInCrowd : GoodIn wsX7_runOne (wsV RX7 249 RX7 yX7_markInCrowd wsX7_markInCrowd) := goodIn_app (goodIn_of _ (by decide +kernel)) ggX7_runOne_X7_markInCrowd
theorem dX7_runOne_0 : decode cX7_runOne 0 = .ok (.aload_n 0, 1) := by decide +kernel
theorem dX7_runOne_1 : decode cX7_runOne 1 = .ok (.getfield 35, 3) := by decide +kernel
theorem dX7_runOne_4 : decode cX7_runOne 4 = .ok (.aload_n 0, 1) := by decide +kernel
theorem dX7_runOne_5 : decode cX7_runOne 5 = .ok (.getfield 115, 3) := by decide +kernel
theorem dX7_runOne_8 : decode cX7_runOne 8 = .ok (.invokevirtual 237, 3) := by decide +kernel
theorem dX7_runOne_11 : decode cX7_runOne 11 = .ok (.aload_n 0, 1) := by decide +kernel
theorem dX7_runOne_12 : decode cX7_runOne 12 = .ok (.iconst 0, 1) := by decide +kernel
theorem dX7_runOne_13 : decode cX7_runOne 13 = .ok (.putfield 240, 3) := by decide +kernel
theorem dX7_runOne_16 : decode cX7_runOne 16 = .ok (.iconst 0, 1) := by decide +kernel
theorem dX7_runOne_17 : decode cX7_runOne 17 = .ok (.istore_n 1, 1) := by decide +kernel
theorem dX7_runOne_18 : decode cX7_runOne 18 = .ok (.iload_n 1, 1) := by decide +kernel
theorem dX7_runOne_19 : decode cX7_runOne 19 = .ok (.aload_n 0, 1) := by decide +kernel
theorem dX7_runOne_20 : decode cX7_runOne 20 = .ok (.getfield 12, 3) := by decide +kernel
theorem dX7_runOne_23 : decode cX7_runOne 23 = .ok (.invokevirtual 88, 3) := by decide +kernel
theorem dX7_runOne_26 : decode cX7_runOne 26 = .ok (.if_icmp .ge 14, 3) := by decide +kernel
theorem dX7_runOne_29 : decode cX7_runOne 29 = .ok (.aload_n 0, 1) := by decide +kernel
theorem dX7_runOne_30 : decode cX7_runOne 30 = .ok (.iload_n 1, 1) := by decide +kernel
theorem dX7_runOne_31 : decode cX7_runOne 31 = .ok (.invokevirtual 243, 3) := by decide +kernel
theorem dX7_runOne_34 : decode cX7_runOne 34 = .ok (.iinc 1 1, 3) := by decide +kernel
theorem dX7_runOne_37 : decode cX7_runOne 37 = .ok (.goto (-19), 3) := by decide +kernel
theorem dX7_runOne_40 : decode cX7_runOne 40 = .ok (.iconst 0, 1) := by decide +kernel
theorem dX7_runOne_41 : decode cX7_runOne 41 = .ok (.istore_n 1, 1) := by decide +kernel
theorem dX7_runOne_42 : decode cX7_runOne 42 = .ok (.iload_n 1, 1) := by decide +kernel
theorem dX7_runOne_43 : decode cX7_runOne 43 = .ok (.aload_n 0, 1) := by decide +kernel
theorem dX7_runOne_44 : decode cX7_runOne 44 = .ok (.getfield 240, 3) := by decide +kernel
theorem dX7_runOne_47 : decode cX7_runOne 47 = .ok (.if_icmp .ge 21, 3) := by decide +kernel
theorem dX7_runOne_50 : decode cX7_runOne 50 = .ok (.aload_n 0, 1) := by decide +kernel
theorem dX7_runOne_51 : decode cX7_runOne 51 = .ok (.aload_n 0, 1) := by decide +kernel
theorem dX7_runOne_52 : decode cX7_runOne 52 = .ok (.getfield 70, 3) := by decide +kernel
theorem dX7_runOne_55 : decode cX7_runOne 55 = .ok (.iload_n 1, 1) := by decide +kernel
theorem dX7_runOne_56 : decode cX7_runOne 56 = .ok (.invokevirtual 149, 3) := by decide +kernel
theorem dX7_runOne_59 : decode cX7_runOne 59 = .ok (.invokevirtual 246, 3) := by decide +kernel
theorem dX7_runOne_62 : decode cX7_runOne 62 = .ok (.iinc 1 1, 3) := by decide +kernel
theorem dX7_runOne_65 : decode cX7_runOne 65 = .ok (.goto (-23), 3) := by decide +kernel
theorem dX7_runOne_68 : decode cX7_runOne 68 = .ok (.iconst 0, 1) := by decide +kernel
theorem dX7_runOne_69 : decode cX7_runOne 69 = .ok (.istore_n 1, 1) := by decide +kernel
theorem dX7_runOne_70 : decode cX7_runOne 70 = .ok (.iload_n 1, 1) := by decide +kernel
theorem dX7_runOne_71 : decode cX7_runOne 71 = .ok (.aload_n 0, 1) := by decide +kernel
theorem dX7_runOne_72 : decode cX7_runOne 72 = .ok (.getfield 240, 3) := by decide +kernel
theorem dX7_runOne_75 : decode cX7_runOne 75 = .ok (.if_icmp .ge 21, 3) := by decide +kernel
theorem dX7_runOne_78 : decode cX7_runOne 78 = .ok (.aload_n 0, 1) := by decide +kernel
theorem dX7_runOne_79 : decode cX7_runOne 79 = .ok (.aload_n 0, 1) := by decide +kernel
theorem dX7_runOne_80 : decode cX7_runOne 80 = .ok (.getfield 70, 3) := by decide +kernel
theorem dX7_runOne_83 : decode cX7_runOne 83 = .ok (.iload_n 1, 1) := by decide +kernel
theorem dX7_runOne_84 : decode cX7_runOne 84 = .ok (.invokevirtual 149, 3) := by decide +kernel
theorem dX7_runOne_87 : decode cX7_runOne 87 = .ok (.invokevirtual 249, 3) := by decide +kernel
theorem dX7_runOne_90 : decode cX7_runOne 90 = .ok (.iinc 1 1, 3) := by decide +kernel
theorem dX7_runOne_93 : decode cX7_runOne 93 = .ok (.goto (-23), 3) := by decide +kernel
theorem dX7_runOne_96 : decode cX7_runOne 96 = .ok (.aload_n 0, 1) := by decide +kernel
theorem dX7_runOne_97 : decode cX7_runOne 97 = .ok (.dup, 1) := by decide +kernel
theorem dX7_runOne_98 : decode cX7_runOne 98 = .ok (.getfield 115, 3) := by decide +kernel
theorem dX7_runOne_101 : decode cX7_runOne 101 = .ok (.iconst 1, 1) := by decide +kernel
theorem dX7_runOne_102 : decode cX7_runOne 102 = .ok (.iadd, 1) := by decide +kernel
theorem dX7_runOne_103 : decode cX7_runOne 103 = .ok (.putfield 115, 3) := by decide +kernel
theorem dX7_runOne_106 : decode cX7_runOne 106 = .ok (.return_, 1) := by decide +kernel
set_option maxRecDepth 20000 in
theorem ggX7_chooseAt_X5_fill : GoodIn wsX7_chooseAt wsX5_fill := goodIn_r _ [8, 9, 101] (by decide +kernel) (by decide +kernel)
set_option maxRecDepth 20000 in
theorem gX7_chooseAt_X5_fill : GoodIn wsX7_chooseAt (wsV RX7 235 RX5 yX5_fill wsX5_fill) := goodIn_app (goodIn_of _ (by decide +kernel)) ggX7_chooseAt_X5_fill
set_option maxRecDepth 20000 in
theorem ggX7_chooseAt_X0_first : GoodIn wsX7_chooseAt wsX0_first := goodIn_r _ [14, 15, 16, 17, 18, 19, 7, 20, 9, 102, 103, 104, 101] (by decide +kernel) (by decide +kernel)
set_option maxRecDepth 20000 in
theorem gX7_chooseAt_X0_first : GoodIn wsX7_chooseAt (wsV RX7 252 RX0 yX0_first wsX0_first) := goodIn_app (goodIn_of _ (by decide +kernel)) ggX7_chooseAt_X0_first
set_option maxRecDepth 20000 in
theorem ggX7_chooseAt_X4_outputOf : GoodIn wsX7_chooseAt wsX4_outputOf := goodIn_r _ [25, 26, 27, 28, 29, 30, 18, 19, 7, 20, 9, 31, 32, 33, 34, 35, 36, 37, 38, 39, 40, 41, 90, 91, 92, 93, 94, 95, 96, 97, 98, 99, 100, 101, 105, 106, 107, 108] (by decide +kernel) (by decide +kernel)
set_option maxRecDepth 20000 in
theorem gX7_chooseAt_X4_outputOf : GoodIn wsX7_chooseAt (wsV RX7 196 RX4 yX4_outputOf wsX4_outputOf) := goodIn_app (goodIn_of _ (by decide +kernel)) ggX7_chooseAt_X4_outputOf
set_option maxRecDepth 20000 in
theorem ggX7_chooseAt_X5_at : GoodIn wsX7_chooseAt wsX5_at := goodIn_r _ [20, 9, 101] (by decide +kernel) (by decide +kernel)
set_option maxRecDepth 20000 in
theorem gX7_chooseAt_X5_at : GoodIn wsX7_chooseAt (wsV RX7 149 RX5 yX5_at wsX5_at) := goodIn_app (goodIn_of _ (by decide +kernel)) ggX7_chooseAt_X5_at
set_option maxRecDepth 20000 in
theorem ggX7_chooseAt_X7_canGo : GoodIn wsX7_chooseAt wsX7_canGo := goodIn_r _ [47, 48, 49, 50, 51, 52, 53, 34, 54, 36, 55, 37, 56, 38, 18, 19, 7, 20, 9, 42, 57, 58, 46, 59, 60, 61, 62, 63, 64, 65, 66, 78, 79, 80, 81, 82, 83, 84, 85, 86, 87, 88, 89, 105, 106, 107, 108, 101, 109, 110, 111, 112] (by decide +kernel) (by decide +kernel)
set_option maxRecDepth 20000 in
theorem gX7_chooseAt_X7_canGo : GoodIn wsX7_chooseAt (wsV RX7 258 RX7 yX7_canGo wsX7_canGo) := goodIn_app (goodIn_of _ (by decide +kernel)) ggX7_chooseAt_X7_canGo
set_option maxRecDepth 20000 in
theorem ggX7_chooseAt_X5_put : GoodIn wsX7_chooseAt wsX5_put := goodIn_r _ [70, 9, 101] (by decide +kernel) (by decide +kernel)
set_option maxRecDepth 20000 in
theorem gX7_chooseAt_X5_put : GoodIn wsX7_chooseAt (wsV RX7 153 RX5 yX5_put wsX5_put) := goodIn_app (goodIn_of _ (by decide +kernel)) ggX7_chooseAt_X5_put
set_option maxRecDepth 20000 in
theorem ggX7_chooseAt_X7_takeTurn : GoodIn wsX7_chooseAt wsX7_takeTurn := goodIn_r _ [74, 75, 76, 77, 2, 42, 18, 19, 7, 20, 9, 10, 11, 12, 13, 14, 15, 16, 17, 67, 68, 69, 70, 78, 79, 80, 81, 82, 83, 84, 85, 86, 87, 88, 89, 101, 102, 103, 104] (by decide +kernel) (by decide +kernel)
set_option maxRecDepth 20000 in
theorem gX7_chooseAt_X7_takeTurn : GoodIn wsX7_chooseAt (wsV RX7 262 RX7 yX7_takeTurn wsX7_takeTurn) := goodIn_app (goodIn_of _ (by decide +kernel)) ggX7_chooseAt_X7_takeTurn
theorem dX7_chooseAt_0 : decode cX7_chooseAt 0 = .ok (.aload_n 0, 1) := by decide +kernel
theorem dX7_chooseAt_1 : decode cX7_chooseAt 1 = .ok (.getfield 67, 3) := by decide +kernel
theorem dX7_chooseAt_4 : decode cX7_chooseAt 4 = .ok (.iconst 0, 1) := by decide +kernel
theorem dX7_chooseAt_5 : decode cX7_chooseAt 5 = .ok (.invokevirtual 235, 3) := by decide +kernel
theorem dX7_chooseAt_8 : decode cX7_chooseAt 8 = .ok (.iconst 0, 1) := by decide +kernel
theorem dX7_chooseAt_9 : decode cX7_chooseAt 9 = .ok (.istore_n 2, 1) := by decide +kernel
theorem dX7_chooseAt_10 : decode cX7_chooseAt 10 = .ok (.iload_n 2, 1) := by decide +kernel
theorem dX7_chooseAt_11 : decode cX7_chooseAt 11 = .ok (.bipush 10, 2) := by decide +kernel
theorem dX7_chooseAt_13 : decode cX7_chooseAt 13 = .ok (.if_icmp .ge 81, 3) := by decide +kernel
theorem dX7_chooseAt_16 : decode cX7_chooseAt 16 = .ok (.aload_n 0, 1) := by decide +kernel
theorem dX7_chooseAt_17 : decode cX7_chooseAt 17 = .ok (.getfield 28, 3) := by decide +kernel
theorem dX7_chooseAt_20 : decode cX7_chooseAt 20 = .ok (.iload_n 1, 1) := by decide +kernel
theorem dX7_chooseAt_21 : decode cX7_chooseAt 21 = .ok (.bipush 10, 2) := by decide +kernel
theorem dX7_chooseAt_23 : decode cX7_chooseAt 23 = .ok (.imul, 1) := by decide +kernel
theorem dX7_chooseAt_24 : decode cX7_chooseAt 24 = .ok (.iload_n 2, 1) := by decide +kernel
theorem dX7_chooseAt_25 : decode cX7_chooseAt 25 = .ok (.iadd, 1) := by decide +kernel
theorem dX7_chooseAt_26 : decode cX7_chooseAt 26 = .ok (.invokevirtual 252, 3) := by decide +kernel
theorem dX7_chooseAt_29 : decode cX7_chooseAt 29 = .ok (.istore_n 3, 1) := by decide +kernel
theorem dX7_chooseAt_30 : decode cX7_chooseAt 30 = .ok (.iload_n 3, 1) := by decide +kernel
theorem dX7_chooseAt_31 : decode cX7_chooseAt 31 = .ok (.iconst (-1), 1) := by decide +kernel
theorem dX7_chooseAt_32 : decode cX7_chooseAt 32 = .ok (.if_icmp .eq 56, 3) := by decide +kernel
theorem dX7_chooseAt_35 : decode cX7_chooseAt 35 = .ok (.aload_n 0, 1) := by decide +kernel
theorem dX7_chooseAt_36 : decode cX7_chooseAt 36 = .ok (.getfield 21, 3) := by decide +kernel
theorem dX7_chooseAt_39 : decode cX7_chooseAt 39 = .ok (.iload_n 3, 1) := by decide +kernel
theorem dX7_chooseAt_40 : decode cX7_chooseAt 40 = .ok (.invokevirtual 196, 3) := by decide +kernel
theorem dX7_chooseAt_43 : decode cX7_chooseAt 43 = .ok (.istore 4, 2) := by decide +kernel
theorem dX7_chooseAt_45 : decode cX7_chooseAt 45 = .ok (.aload_n 0, 1) := by decide +kernel
theorem dX7_chooseAt_46 : decode cX7_chooseAt 46 = .ok (.iload_n 1, 1) := by decide +kernel
theorem dX7_chooseAt_47 : decode cX7_chooseAt 47 = .ok (.iload 4, 2) := by decide +kernel
theorem dX7_chooseAt_49 : decode cX7_chooseAt 49 = .ok (.aload_n 0, 1) := by decide +kernel
theorem dX7_chooseAt_50 : decode cX7_chooseAt 50 = .ok (.getfield 21, 3) := by decide +kernel
theorem dX7_chooseAt_53 : decode cX7_chooseAt 53 = .ok (.getfield 255, 3) := by decide +kernel
theorem dX7_chooseAt_56 : decode cX7_chooseAt 56 = .ok (.iload_n 3, 1) := by decide +kernel
theorem dX7_chooseAt_57 : decode cX7_chooseAt 57 = .ok (.invokevirtual 149, 3) := by decide +kernel
theorem dX7_chooseAt_60 : decode cX7_chooseAt 60 = .ok (.invokevirtual 258, 3) := by decide +kernel
theorem dX7_chooseAt_63 : decode cX7_chooseAt 63 = .ok (.ifCond .eq 25, 3) := by decide +kernel
theorem dX7_chooseAt_66 : decode cX7_chooseAt 66 = .ok (.aload_n 0, 1) := by decide +kernel
theorem dX7_chooseAt_67 : decode cX7_chooseAt 67 = .ok (.getfield 67, 3) := by decide +kernel
theorem dX7_chooseAt_70 : decode cX7_chooseAt 70 = .ok (.iload 4, 2) := by decide +kernel
theorem dX7_chooseAt_72 : decode cX7_chooseAt 72 = .ok (.aload_n 0, 1) := by decide +kernel
theorem dX7_chooseAt_73 : decode cX7_chooseAt 73 = .ok (.getfield 67, 3) := by decide +kernel
theorem dX7_chooseAt_76 : decode cX7_chooseAt 76 = .ok (.iload 4, 2) := by decide +kernel
theorem dX7_chooseAt_78 : decode cX7_chooseAt 78 = .ok (.invokevirtual 149, 3) := by decide +kernel
theorem dX7_chooseAt_81 : decode cX7_chooseAt 81 = .ok (.iconst 1, 1) := by decide +kernel
theorem dX7_chooseAt_82 : decode cX7_chooseAt 82 = .ok (.iload_n 2, 1) := by decide +kernel
theorem dX7_chooseAt_83 : decode cX7_chooseAt 83 = .ok (.ishl, 1) := by decide +kernel
theorem dX7_chooseAt_84 : decode cX7_chooseAt 84 = .ok (.ior, 1) := by decide +kernel
theorem dX7_chooseAt_85 : decode cX7_chooseAt 85 = .ok (.invokevirtual 153, 3) := by decide +kernel
theorem dX7_chooseAt_88 : decode cX7_chooseAt 88 = .ok (.iinc 2 1, 3) := by decide +kernel
theorem dX7_chooseAt_91 : decode cX7_chooseAt 91 = .ok (.goto (-81), 3) := by decide +kernel
theorem dX7_chooseAt_94 : decode cX7_chooseAt 94 = .ok (.iconst 0, 1) := by decide +kernel
theorem dX7_chooseAt_95 : decode cX7_chooseAt 95 = .ok (.istore_n 2, 1) := by decide +kernel
theorem dX7_chooseAt_96 : decode cX7_chooseAt 96 = .ok (.iload_n 2, 1) := by decide +kernel
theorem dX7_chooseAt_97 : decode cX7_chooseAt 97 = .ok (.iconst 5, 1) := by decide +kernel
theorem dX7_chooseAt_98 : decode cX7_chooseAt 98 = .ok (.if_icmp .ge 34, 3) := by decide +kernel
theorem dX7_chooseAt_101 : decode cX7_chooseAt 101 = .ok (.aload_n 0, 1) := by decide +kernel
theorem dX7_chooseAt_102 : decode cX7_chooseAt 102 = .ok (.getfield 67, 3) := by decide +kernel
theorem dX7_chooseAt_105 : decode cX7_chooseAt 105 = .ok (.iload_n 2, 1) := by decide +kernel
theorem dX7_chooseAt_106 : decode cX7_chooseAt 106 = .ok (.invokevirtual 149, 3) := by decide +kernel
theorem dX7_chooseAt_109 : decode cX7_chooseAt 109 = .ok (.ifCond .eq 17, 3) := by decide +kernel
theorem dX7_chooseAt_112 : decode cX7_chooseAt 112 = .ok (.aload_n 0, 1) := by decide +kernel
theorem dX7_chooseAt_113 : decode cX7_chooseAt 113 = .ok (.iload_n 1, 1) := by decide +kernel
theorem dX7_chooseAt_114 : decode cX7_chooseAt 114 = .ok (.iload_n 2, 1) := by decide +kernel
theorem dX7_chooseAt_115 : decode cX7_chooseAt 115 = .ok (.aload_n 0, 1) := by decide +kernel
theorem dX7_chooseAt_116 : decode cX7_chooseAt 116 = .ok (.getfield 67, 3) := by decide +kernel
theorem dX7_chooseAt_119 : decode cX7_chooseAt 119 = .ok (.iload_n 2, 1) := by decide +kernel
theorem dX7_chooseAt_120 : decode cX7_chooseAt 120 = .ok (.invokevirtual 149, 3) := by decide +kernel
theorem dX7_chooseAt_123 : decode cX7_chooseAt 123 = .ok (.invokevirtual 262, 3) := by decide +kernel
theorem dX7_chooseAt_126 : decode cX7_chooseAt 126 = .ok (.iinc 2 1, 3) := by decide +kernel
theorem dX7_chooseAt_129 : decode cX7_chooseAt 129 = .ok (.goto (-33), 3) := by decide +kernel
theorem dX7_chooseAt_132 : decode cX7_chooseAt 132 = .ok (.return_, 1) := by decide +kernel
set_option maxRecDepth 20000 in
theorem ggX7_canGo_X3_behind : GoodIn wsX7_canGo wsX3_behind := goodIn_r _ [8, 9, 10, 11, 12, 13, 14, 15, 16, 17, 18, 43, 44, 45, 46, 47] (by decide +kernel) (by decide +kernel)
set_option maxRecDepth 20000 in
theorem gX7_canGo_X3_behind : GoodIn wsX7_canGo (wsV RX7 214 RX3 yX3_behind wsX3_behind) := goodIn_app (goodIn_of _ (by decide +kernel)) ggX7_canGo_X3_behind
set_option maxRecDepth 20000 in
theorem ggX7_canGo_X5_at : GoodIn wsX7_canGo wsX5_at := goodIn_r _ [17, 18, 47] (by decide +kernel) (by decide +kernel)
set_option maxRecDepth 20000 in
theorem gX7_canGo_X5_at : GoodIn wsX7_canGo (wsV RX7 149 RX5 yX5_at wsX5_at) := goodIn_app (goodIn_of _ (by decide +kernel)) ggX7_canGo_X5_at
set_option maxRecDepth 20000 in
theorem ggX7_canGo_X7_bufferOf : GoodIn wsX7_canGo wsX7_bufferOf := goodIn_r _ [23] (by decide +kernel) (by decide +kernel)
set_option maxRecDepth 20000 in
theorem gX7_canGo_X7_bufferOf : GoodIn wsX7_canGo (va_wsS RX7 102 yX7_bufferOf wsX7_bufferOf) := goodIn_app (goodIn_of _ (by decide +kernel)) ggX7_canGo_X7_bufferOf
set_option maxRecDepth 20000 in
theorem ggX7_canGo_X2_there : GoodIn wsX7_canGo wsX2_there := goodIn_r _ [28, 29, 30, 14, 15, 16, 17, 18, 48, 49, 50, 51, 47] (by decide +kernel) (by decide +kernel)
set_option maxRecDepth 20000 in
theorem gX7_canGo_X2_there : GoodIn wsX7_canGo (wsV RX7 162 RX2 yX2_there wsX2_there) := goodIn_app (goodIn_of _ (by decide +kernel)) ggX7_canGo_X2_there
theorem dX7_canGo_0 : decode cX7_canGo 0 = .ok (.iload_n 2, 1) := by decide +kernel
theorem dX7_canGo_1 : decode cX7_canGo 1 = .ok (.iconst 4, 1) := by decide +kernel
theorem dX7_canGo_2 : decode cX7_canGo 2 = .ok (.if_icmp .ne 5, 3) := by decide +kernel
theorem dX7_canGo_5 : decode cX7_canGo 5 = .ok (.iconst 1, 1) := by decide +kernel
theorem dX7_canGo_6 : decode cX7_canGo 6 = .ok (.ireturn, 1) := by decide +kernel
theorem dX7_canGo_7 : decode cX7_canGo 7 = .ok (.aload_n 0, 1) := by decide +kernel
theorem dX7_canGo_8 : decode cX7_canGo 8 = .ok (.getfield 12, 3) := by decide +kernel
theorem dX7_canGo_11 : decode cX7_canGo 11 = .ok (.iload_n 1, 1) := by decide +kernel
theorem dX7_canGo_12 : decode cX7_canGo 12 = .ok (.iload_n 2, 1) := by decide +kernel
theorem dX7_canGo_13 : decode cX7_canGo 13 = .ok (.invokevirtual 214, 3) := by decide +kernel
theorem dX7_canGo_16 : decode cX7_canGo 16 = .ok (.istore 4, 2) := by decide +kernel
theorem dX7_canGo_18 : decode cX7_canGo 18 = .ok (.iload 4, 2) := by decide +kernel
theorem dX7_canGo_20 : decode cX7_canGo 20 = .ok (.iconst (-1), 1) := by decide +kernel
theorem dX7_canGo_21 : decode cX7_canGo 21 = .ok (.if_icmp .eq 36, 3) := by decide +kernel
theorem dX7_canGo_24 : decode cX7_canGo 24 = .ok (.aload_n 0, 1) := by decide +kernel
theorem dX7_canGo_25 : decode cX7_canGo 25 = .ok (.getfield 60, 3) := by decide +kernel
theorem dX7_canGo_28 : decode cX7_canGo 28 = .ok (.iload 4, 2) := by decide +kernel
theorem dX7_canGo_30 : decode cX7_canGo 30 = .ok (.invokevirtual 149, 3) := by decide +kernel
theorem dX7_canGo_33 : decode cX7_canGo 33 = .ok (.ifCond .ne 24, 3) := by decide +kernel
theorem dX7_canGo_36 : decode cX7_canGo 36 = .ok (.aload_n 0, 1) := by decide +kernel
theorem dX7_canGo_37 : decode cX7_canGo 37 = .ok (.getfield 35, 3) := by decide +kernel
theorem dX7_canGo_40 : decode cX7_canGo 40 = .ok (.iload 4, 2) := by decide +kernel
theorem dX7_canGo_42 : decode cX7_canGo 42 = .ok (.iload_n 2, 1) := by decide +kernel
theorem dX7_canGo_43 : decode cX7_canGo 43 = .ok (.iload_n 3, 1) := by decide +kernel
theorem dX7_canGo_44 : decode cX7_canGo 44 = .ok (.invokestatic 102, 3) := by decide +kernel
theorem dX7_canGo_47 : decode cX7_canGo 47 = .ok (.invokevirtual 162, 3) := by decide +kernel
theorem dX7_canGo_50 : decode cX7_canGo 50 = .ok (.ifCond .le 7, 3) := by decide +kernel
theorem dX7_canGo_53 : decode cX7_canGo 53 = .ok (.iconst 1, 1) := by decide +kernel
theorem dX7_canGo_54 : decode cX7_canGo 54 = .ok (.goto 4, 3) := by decide +kernel
theorem dX7_canGo_57 : decode cX7_canGo 57 = .ok (.iconst 0, 1) := by decide +kernel
theorem dX7_canGo_58 : decode cX7_canGo 58 = .ok (.ireturn, 1) := by decide +kernel
set_option maxRecDepth 20000 in
theorem ggX7_takeTurn_X5_at : GoodIn wsX7_takeTurn wsX5_at := goodIn_r _ [9, 10, 35] (by decide +kernel) (by decide +kernel)
set_option maxRecDepth 20000 in
theorem gX7_takeTurn_X5_at : GoodIn wsX7_takeTurn (wsV RX7 149 RX5 yX5_at wsX5_at) := goodIn_app (goodIn_of _ (by decide +kernel)) ggX7_takeTurn_X5_at
set_option maxRecDepth 20000 in
theorem ggX7_takeTurn_X0_first : GoodIn wsX7_takeTurn wsX0_first := goodIn_r _ [15, 16, 17, 18, 6, 7, 8, 9, 10, 36, 37, 38, 35] (by decide +kernel) (by decide +kernel)
set_option maxRecDepth 20000 in
theorem gX7_takeTurn_X0_first : GoodIn wsX7_takeTurn (wsV RX7 252 RX0 yX0_first wsX0_first) := goodIn_app (goodIn_of _ (by decide +kernel)) ggX7_takeTurn_X0_first
set_option maxRecDepth 20000 in
theorem ggX7_takeTurn_X5_put : GoodIn wsX7_takeTurn wsX5_put := goodIn_r _ [22, 10, 35] (by decide +kernel) (by decide +kernel)
set_option maxRecDepth 20000 in
theorem gX7_takeTurn_X5_put : GoodIn wsX7_takeTurn (wsV RX7 153 RX5 yX5_put wsX5_put) := goodIn_app (goodIn_of _ (by decide +kernel)) ggX7_takeTurn_X5_put
theorem dX7_takeTurn_0 : decode cX7_takeTurn 0 = .ok (.iload_n 1, 1) := by decide +kernel
theorem dX7_takeTurn_1 : decode cX7_takeTurn 1 = .ok (.iconst 5, 1) := by decide +kernel
theorem dX7_takeTurn_2 : decode cX7_takeTurn 2 = .ok (.imul, 1) := by decide +kernel
theorem dX7_takeTurn_3 : decode cX7_takeTurn 3 = .ok (.iload_n 2, 1) := by decide +kernel
theorem dX7_takeTurn_4 : decode cX7_takeTurn 4 = .ok (.iadd, 1) := by decide +kernel
theorem dX7_takeTurn_5 : decode cX7_takeTurn 5 = .ok (.istore 4, 2) := by decide +kernel
theorem dX7_takeTurn_7 : decode cX7_takeTurn 7 = .ok (.aload_n 0, 1) := by decide +kernel
theorem dX7_takeTurn_8 : decode cX7_takeTurn 8 = .ok (.getfield 64, 3) := by decide +kernel
theorem dX7_takeTurn_11 : decode cX7_takeTurn 11 = .ok (.iload 4, 2) := by decide +kernel
theorem dX7_takeTurn_13 : decode cX7_takeTurn 13 = .ok (.invokevirtual 149, 3) := by decide +kernel
theorem dX7_takeTurn_16 : decode cX7_takeTurn 16 = .ok (.istore 5, 2) := by decide +kernel
theorem dX7_takeTurn_18 : decode cX7_takeTurn 18 = .ok (.iconst 0, 1) := by decide +kernel
theorem dX7_takeTurn_19 : decode cX7_takeTurn 19 = .ok (.istore 6, 2) := by decide +kernel
theorem dX7_takeTurn_21 : decode cX7_takeTurn 21 = .ok (.iload 6, 2) := by decide +kernel
theorem dX7_takeTurn_23 : decode cX7_takeTurn 23 = .ok (.bipush 10, 2) := by decide +kernel
theorem dX7_takeTurn_25 : decode cX7_takeTurn 25 = .ok (.if_icmp .ge 88, 3) := by decide +kernel
theorem dX7_takeTurn_28 : decode cX7_takeTurn 28 = .ok (.iload 5, 2) := by decide +kernel
theorem dX7_takeTurn_30 : decode cX7_takeTurn 30 = .ok (.iconst 1, 1) := by decide +kernel
theorem dX7_takeTurn_31 : decode cX7_takeTurn 31 = .ok (.iadd, 1) := by decide +kernel
theorem dX7_takeTurn_32 : decode cX7_takeTurn 32 = .ok (.bipush 10, 2) := by decide +kernel
theorem dX7_takeTurn_34 : decode cX7_takeTurn 34 = .ok (.if_icmp .ge 10, 3) := by decide +kernel
theorem dX7_takeTurn_37 : decode cX7_takeTurn 37 = .ok (.iload 5, 2) := by decide +kernel
theorem dX7_takeTurn_39 : decode cX7_takeTurn 39 = .ok (.iconst 1, 1) := by decide +kernel
theorem dX7_takeTurn_40 : decode cX7_takeTurn 40 = .ok (.iadd, 1) := by decide +kernel
theorem dX7_takeTurn_41 : decode cX7_takeTurn 41 = .ok (.goto 4, 3) := by decide +kernel
theorem dX7_takeTurn_44 : decode cX7_takeTurn 44 = .ok (.iconst 0, 1) := by decide +kernel
theorem dX7_takeTurn_45 : decode cX7_takeTurn 45 = .ok (.istore 7, 2) := by decide +kernel
theorem dX7_takeTurn_47 : decode cX7_takeTurn 47 = .ok (.iload_n 3, 1) := by decide +kernel
theorem dX7_takeTurn_48 : decode cX7_takeTurn 48 = .ok (.iload 5, 2) := by decide +kernel
theorem dX7_takeTurn_50 : decode cX7_takeTurn 50 = .ok (.ishr, 1) := by decide +kernel
theorem dX7_takeTurn_51 : decode cX7_takeTurn 51 = .ok (.iconst 1, 1) := by decide +kernel
theorem dX7_takeTurn_52 : decode cX7_takeTurn 52 = .ok (.iand, 1) := by decide +kernel
theorem dX7_takeTurn_53 : decode cX7_takeTurn 53 = .ok (.ifCond .eq 50, 3) := by decide +kernel
theorem dX7_takeTurn_56 : decode cX7_takeTurn 56 = .ok (.aload_n 0, 1) := by decide +kernel
theorem dX7_takeTurn_57 : decode cX7_takeTurn 57 = .ok (.getfield 70, 3) := by decide +kernel
theorem dX7_takeTurn_60 : decode cX7_takeTurn 60 = .ok (.aload_n 0, 1) := by decide +kernel
theorem dX7_takeTurn_61 : decode cX7_takeTurn 61 = .ok (.getfield 240, 3) := by decide +kernel
theorem dX7_takeTurn_64 : decode cX7_takeTurn 64 = .ok (.aload_n 0, 1) := by decide +kernel
theorem dX7_takeTurn_65 : decode cX7_takeTurn 65 = .ok (.getfield 28, 3) := by decide +kernel
theorem dX7_takeTurn_68 : decode cX7_takeTurn 68 = .ok (.iload_n 1, 1) := by decide +kernel
theorem dX7_takeTurn_69 : decode cX7_takeTurn 69 = .ok (.bipush 10, 2) := by decide +kernel
theorem dX7_takeTurn_71 : decode cX7_takeTurn 71 = .ok (.imul, 1) := by decide +kernel
theorem dX7_takeTurn_72 : decode cX7_takeTurn 72 = .ok (.iload 5, 2) := by decide +kernel
theorem dX7_takeTurn_74 : decode cX7_takeTurn 74 = .ok (.iadd, 1) := by decide +kernel
theorem dX7_takeTurn_75 : decode cX7_takeTurn 75 = .ok (.invokevirtual 252, 3) := by decide +kernel
theorem dX7_takeTurn_78 : decode cX7_takeTurn 78 = .ok (.invokevirtual 153, 3) := by decide +kernel
theorem dX7_takeTurn_81 : decode cX7_takeTurn 81 = .ok (.aload_n 0, 1) := by decide +kernel
theorem dX7_takeTurn_82 : decode cX7_takeTurn 82 = .ok (.dup, 1) := by decide +kernel
theorem dX7_takeTurn_83 : decode cX7_takeTurn 83 = .ok (.getfield 240, 3) := by decide +kernel
theorem dX7_takeTurn_86 : decode cX7_takeTurn 86 = .ok (.iconst 1, 1) := by decide +kernel
theorem dX7_takeTurn_87 : decode cX7_takeTurn 87 = .ok (.iadd, 1) := by decide +kernel
theorem dX7_takeTurn_88 : decode cX7_takeTurn 88 = .ok (.putfield 240, 3) := by decide +kernel
theorem dX7_takeTurn_91 : decode cX7_takeTurn 91 = .ok (.aload_n 0, 1) := by decide +kernel
theorem dX7_takeTurn_92 : decode cX7_takeTurn 92 = .ok (.getfield 64, 3) := by decide +kernel
theorem dX7_takeTurn_95 : decode cX7_takeTurn 95 = .ok (.iload 4, 2) := by decide +kernel
theorem dX7_takeTurn_97 : decode cX7_takeTurn 97 = .ok (.iload 7, 2) := by decide +kernel
theorem dX7_takeTurn_99 : decode cX7_takeTurn 99 = .ok (.invokevirtual 153, 3) := by decide +kernel
theorem dX7_takeTurn_102 : decode cX7_takeTurn 102 = .ok (.return_, 1) := by decide +kernel
theorem dX7_takeTurn_103 : decode cX7_takeTurn 103 = .ok (.iload 7, 2) := by decide +kernel
theorem dX7_takeTurn_105 : decode cX7_takeTurn 105 = .ok (.istore 5, 2) := by decide +kernel
theorem dX7_takeTurn_107 : decode cX7_takeTurn 107 = .ok (.iinc 6 1, 3) := by decide +kernel
theorem dX7_takeTurn_110 : decode cX7_takeTurn 110 = .ok (.goto (-89), 3) := by decide +kernel
theorem dX7_takeTurn_113 : decode cX7_takeTurn 113 = .ok (.return_, 1) := by decide +kernel
set_option maxRecDepth 20000 in
theorem ggX7_move_X4_outputOf : GoodIn wsX7_move wsX4_outputOf := goodIn_r _ [11, 12, 13, 14, 15, 16, 17, 18, 19, 20, 21, 22, 23, 24, 25, 26, 27, 28, 29, 30, 31, 32, 128, 129, 130, 131, 132, 133, 134, 135, 136, 137, 138, 139, 140, 141, 142, 143] (by decide +kernel) (by decide +kernel)
set_option maxRecDepth 20000 in
theorem gX7_move_X4_outputOf : GoodIn wsX7_move (wsV RX7 196 RX4 yX4_outputOf wsX4_outputOf) := goodIn_app (goodIn_of _ (by decide +kernel)) ggX7_move_X4_outputOf
set_option maxRecDepth 20000 in
theorem ggX7_move_X5_at : GoodIn wsX7_move wsX5_at := goodIn_r _ [20, 21, 139] (by decide +kernel) (by decide +kernel)
set_option maxRecDepth 20000 in
theorem gX7_move_X5_at : GoodIn wsX7_move (wsV RX7 149 RX5 yX5_at wsX5_at) := goodIn_app (goodIn_of _ (by decide +kernel)) ggX7_move_X5_at
set_option maxRecDepth 20000 in
theorem ggX7_move_X7_bufferOf : GoodIn wsX7_move wsX7_bufferOf := goodIn_r _ [37] (by decide +kernel) (by decide +kernel)
set_option maxRecDepth 20000 in
theorem gX7_move_X7_bufferOf : GoodIn wsX7_move (va_wsS RX7 102 yX7_bufferOf wsX7_bufferOf) := goodIn_app (goodIn_of _ (by decide +kernel)) ggX7_move_X7_bufferOf
set_option maxRecDepth 20000 in
theorem ggX7_move_X0_removeFirst : GoodIn wsX7_move wsX0_removeFirst := goodIn_r _ [42, 43, 44, 45, 17, 18, 19, 20, 21, 46, 47, 48, 49, 50, 51, 52, 53, 54, 55, 144, 145, 146, 139] (by decide +kernel) (by decide +kernel)
set_option maxRecDepth 20000 in
theorem gX7_move_X0_removeFirst : GoodIn wsX7_move (wsV RX7 269 RX0 yX0_removeFirst wsX0_removeFirst) := goodIn_app (goodIn_of _ (by decide +kernel)) ggX7_move_X0_removeFirst
set_option maxRecDepth 20000 in
theorem ggX7_move_X2_giveBack : GoodIn wsX7_move wsX2_giveBack := goodIn_r _ [60, 61, 62, 63, 64, 65, 59, 66, 67, 51, 52, 19, 53, 54, 17, 18, 20, 21, 55, 47, 48, 49, 147, 148, 149, 150, 139] (by decide +kernel) (by decide +kernel)
set_option maxRecDepth 20000 in
theorem gX7_move_X2_giveBack : GoodIn wsX7_move (wsV RX7 272 RX2 yX2_giveBack wsX2_giveBack) := goodIn_app (goodIn_of _ (by decide +kernel)) ggX7_move_X2_giveBack
set_option maxRecDepth 20000 in
theorem ggX7_move_X4_goOut : GoodIn wsX7_move wsX4_goOut := goodIn_r _ [71, 12, 72, 73, 47, 48, 19, 49, 21, 128, 129, 130, 131, 132, 133, 134, 135, 136, 137, 138, 139] (by decide +kernel) (by decide +kernel)
set_option maxRecDepth 20000 in
theorem gX7_move_X4_goOut : GoodIn wsX7_move (wsV RX7 275 RX4 yX4_goOut wsX4_goOut) := goodIn_app (goodIn_of _ (by decide +kernel)) ggX7_move_X4_goOut
set_option maxRecDepth 20000 in
theorem ggX7_move_X6_adapt : GoodIn wsX7_move wsX6_adapt := goodIn_r _ [78, 79, 80, 81, 82, 83, 84, 85, 86, 87, 17, 18, 19, 20, 21, 88, 47, 48, 49, 151, 152, 139] (by decide +kernel) (by decide +kernel)
set_option maxRecDepth 20000 in
theorem gX7_move_X6_adapt : GoodIn wsX7_move (wsV RX7 281 RX6 yX6_adapt wsX6_adapt) := goodIn_app (goodIn_of _ (by decide +kernel)) ggX7_move_X6_adapt
set_option maxRecDepth 20000 in
theorem ggX7_move_X3_behind : GoodIn wsX7_move wsX3_behind := goodIn_r _ [92, 27, 93, 28, 94, 29, 17, 18, 19, 20, 21, 140, 141, 142, 143, 139] (by decide +kernel) (by decide +kernel)
set_option maxRecDepth 20000 in
theorem gX7_move_X3_behind : GoodIn wsX7_move (wsV RX7 214 RX3 yX3_behind wsX3_behind) := goodIn_app (goodIn_of _ (by decide +kernel)) ggX7_move_X3_behind
set_option maxRecDepth 20000 in
theorem ggX7_move_X2_take : GoodIn wsX7_move wsX2_take := goodIn_r _ [98, 99, 67, 51, 52, 19, 53, 54, 17, 18, 20, 21, 55, 47, 48, 49, 147, 148, 149, 150, 139] (by decide +kernel) (by decide +kernel)
set_option maxRecDepth 20000 in
theorem gX7_move_X2_take : GoodIn wsX7_move (wsV RX7 167 RX2 yX2_take wsX2_take) := goodIn_app (goodIn_of _ (by decide +kernel)) ggX7_move_X2_take
set_option maxRecDepth 20000 in
theorem ggX7_move_X0_append : GoodIn wsX7_move wsX0_append := goodIn_r _ [103, 44, 43, 104, 105, 106, 41, 107, 108, 45, 17, 18, 19, 20, 21, 46, 47, 48, 49, 50, 51, 52, 53, 54, 55, 144, 145, 146, 139] (by decide +kernel) (by decide +kernel)
set_option maxRecDepth 20000 in
theorem gX7_move_X0_append : GoodIn wsX7_move (wsV RX7 134 RX0 yX0_append wsX0_append) := goodIn_app (goodIn_of _ (by decide +kernel)) ggX7_move_X0_append
set_option maxRecDepth 20000 in
theorem ggX7_move_X4_goOver : GoodIn wsX7_move wsX4_goOver := goodIn_r _ [112, 12, 113, 114, 73, 47, 48, 19, 49, 21, 115, 51, 52, 53, 54, 17, 18, 20, 55, 128, 129, 130, 131, 132, 133, 134, 135, 136, 137, 138, 139] (by decide +kernel) (by decide +kernel)
set_option maxRecDepth 20000 in
theorem gX7_move_X4_goOver : GoodIn wsX7_move (wsV RX7 285 RX4 yX4_goOver wsX4_goOver) := goodIn_app (goodIn_of _ (by decide +kernel)) ggX7_move_X4_goOver
theorem dX7_move_0 : decode cX7_move 0 = .ok (.aload_n 0, 1) := by decide +kernel
theorem dX7_move_1 : decode cX7_move 1 = .ok (.getfield 21, 3) := by decide +kernel
theorem dX7_move_4 : decode cX7_move 4 = .ok (.iload_n 1, 1) := by decide +kernel
theorem dX7_move_5 : decode cX7_move 5 = .ok (.invokevirtual 196, 3) := by decide +kernel
theorem dX7_move_8 : decode cX7_move 8 = .ok (.istore_n 2, 1) := by decide +kernel
theorem dX7_move_9 : decode cX7_move 9 = .ok (.aload_n 0, 1) := by decide +kernel
theorem dX7_move_10 : decode cX7_move 10 = .ok (.getfield 21, 3) := by decide +kernel
theorem dX7_move_13 : decode cX7_move 13 = .ok (.getfield 187, 3) := by decide +kernel
theorem dX7_move_16 : decode cX7_move 16 = .ok (.iload_n 1, 1) := by decide +kernel
theorem dX7_move_17 : decode cX7_move 17 = .ok (.invokevirtual 149, 3) := by decide +kernel
theorem dX7_move_20 : decode cX7_move 20 = .ok (.istore_n 3, 1) := by decide +kernel
theorem dX7_move_21 : decode cX7_move 21 = .ok (.aload_n 0, 1) := by decide +kernel
theorem dX7_move_22 : decode cX7_move 22 = .ok (.getfield 21, 3) := by decide +kernel
theorem dX7_move_25 : decode cX7_move 25 = .ok (.getfield 266, 3) := by decide +kernel
theorem dX7_move_28 : decode cX7_move 28 = .ok (.iload_n 1, 1) := by decide +kernel
theorem dX7_move_29 : decode cX7_move 29 = .ok (.invokevirtual 149, 3) := by decide +kernel
theorem dX7_move_32 : decode cX7_move 32 = .ok (.istore 4, 2) := by decide +kernel
theorem dX7_move_34 : decode cX7_move 34 = .ok (.aload_n 0, 1) := by decide +kernel
theorem dX7_move_35 : decode cX7_move 35 = .ok (.getfield 21, 3) := by decide +kernel
theorem dX7_move_38 : decode cX7_move 38 = .ok (.getfield 255, 3) := by decide +kernel
theorem dX7_move_41 : decode cX7_move 41 = .ok (.iload_n 1, 1) := by decide +kernel
theorem dX7_move_42 : decode cX7_move 42 = .ok (.invokevirtual 149, 3) := by decide +kernel
theorem dX7_move_45 : decode cX7_move 45 = .ok (.istore 5, 2) := by decide +kernel
theorem dX7_move_47 : decode cX7_move 47 = .ok (.aload_n 0, 1) := by decide +kernel
theorem dX7_move_48 : decode cX7_move 48 = .ok (.getfield 28, 3) := by decide +kernel
theorem dX7_move_51 : decode cX7_move 51 = .ok (.iload_n 3, 1) := by decide +kernel
theorem dX7_move_52 : decode cX7_move 52 = .ok (.iload 4, 2) := by decide +kernel
theorem dX7_move_54 : decode cX7_move 54 = .ok (.iload 5, 2) := by decide +kernel
theorem dX7_move_56 : decode cX7_move 56 = .ok (.invokestatic 102, 3) := by decide +kernel
theorem dX7_move_59 : decode cX7_move 59 = .ok (.invokevirtual 269, 3) := by decide +kernel
theorem dX7_move_62 : decode cX7_move 62 = .ok (.iload 4, 2) := by decide +kernel
theorem dX7_move_64 : decode cX7_move 64 = .ok (.iconst 4, 1) := by decide +kernel
theorem dX7_move_65 : decode cX7_move 65 = .ok (.if_icmp .eq 22, 3) := by decide +kernel
theorem dX7_move_68 : decode cX7_move 68 = .ok (.aload_n 0, 1) := by decide +kernel
theorem dX7_move_69 : decode cX7_move 69 = .ok (.getfield 35, 3) := by decide +kernel
theorem dX7_move_72 : decode cX7_move 72 = .ok (.iload_n 3, 1) := by decide +kernel
theorem dX7_move_73 : decode cX7_move 73 = .ok (.iload 4, 2) := by decide +kernel
theorem dX7_move_75 : decode cX7_move 75 = .ok (.iload 5, 2) := by decide +kernel
theorem dX7_move_77 : decode cX7_move 77 = .ok (.invokestatic 102, 3) := by decide +kernel
theorem dX7_move_80 : decode cX7_move 80 = .ok (.aload_n 0, 1) := by decide +kernel
theorem dX7_move_81 : decode cX7_move 81 = .ok (.getfield 115, 3) := by decide +kernel
theorem dX7_move_84 : decode cX7_move 84 = .ok (.invokevirtual 272, 3) := by decide +kernel
theorem dX7_move_87 : decode cX7_move 87 = .ok (.iload_n 2, 1) := by decide +kernel
theorem dX7_move_88 : decode cX7_move 88 = .ok (.iconst 4, 1) := by decide +kernel
theorem dX7_move_89 : decode cX7_move 89 = .ok (.if_icmp .ne 49, 3) := by decide +kernel
theorem dX7_move_92 : decode cX7_move 92 = .ok (.aload_n 0, 1) := by decide +kernel
theorem dX7_move_93 : decode cX7_move 93 = .ok (.getfield 21, 3) := by decide +kernel
theorem dX7_move_96 : decode cX7_move 96 = .ok (.iload_n 1, 1) := by decide +kernel
theorem dX7_move_97 : decode cX7_move 97 = .ok (.invokevirtual 275, 3) := by decide +kernel
theorem dX7_move_100 : decode cX7_move 100 = .ok (.aload_n 0, 1) := by decide +kernel
theorem dX7_move_101 : decode cX7_move 101 = .ok (.getfield 42, 3) := by decide +kernel
theorem dX7_move_104 : decode cX7_move 104 = .ok (.aload_n 0, 1) := by decide +kernel
theorem dX7_move_105 : decode cX7_move 105 = .ok (.getfield 21, 3) := by decide +kernel
theorem dX7_move_108 : decode cX7_move 108 = .ok (.getfield 278, 3) := by decide +kernel
theorem dX7_move_111 : decode cX7_move 111 = .ok (.iload_n 1, 1) := by decide +kernel
theorem dX7_move_112 : decode cX7_move 112 = .ok (.invokevirtual 149, 3) := by decide +kernel
theorem dX7_move_115 : decode cX7_move 115 = .ok (.aload_n 0, 1) := by decide +kernel
theorem dX7_move_116 : decode cX7_move 116 = .ok (.getfield 21, 3) := by decide +kernel
theorem dX7_move_119 : decode cX7_move 119 = .ok (.getfield 193, 3) := by decide +kernel
theorem dX7_move_122 : decode cX7_move 122 = .ok (.iload_n 1, 1) := by decide +kernel
theorem dX7_move_123 : decode cX7_move 123 = .ok (.invokevirtual 149, 3) := by decide +kernel
theorem dX7_move_126 : decode cX7_move 126 = .ok (.ifCond .eq 7, 3) := by decide +kernel
theorem dX7_move_129 : decode cX7_move 129 = .ok (.iconst 1, 1) := by decide +kernel
theorem dX7_move_130 : decode cX7_move 130 = .ok (.goto 4, 3) := by decide +kernel
theorem dX7_move_133 : decode cX7_move 133 = .ok (.iconst 0, 1) := by decide +kernel
theorem dX7_move_134 : decode cX7_move 134 = .ok (.invokevirtual 281, 3) := by decide +kernel
theorem dX7_move_137 : decode cX7_move 137 = .ok (.return_, 1) := by decide +kernel
theorem dX7_move_138 : decode cX7_move 138 = .ok (.aload_n 0, 1) := by decide +kernel
theorem dX7_move_139 : decode cX7_move 139 = .ok (.getfield 12, 3) := by decide +kernel
theorem dX7_move_142 : decode cX7_move 142 = .ok (.iload_n 3, 1) := by decide +kernel
theorem dX7_move_143 : decode cX7_move 143 = .ok (.iload_n 2, 1) := by decide +kernel
theorem dX7_move_144 : decode cX7_move 144 = .ok (.invokevirtual 214, 3) := by decide +kernel
theorem dX7_move_147 : decode cX7_move 147 = .ok (.istore 6, 2) := by decide +kernel
theorem dX7_move_149 : decode cX7_move 149 = .ok (.aload_n 0, 1) := by decide +kernel
theorem dX7_move_150 : decode cX7_move 150 = .ok (.getfield 35, 3) := by decide +kernel
theorem dX7_move_153 : decode cX7_move 153 = .ok (.iload 6, 2) := by decide +kernel
theorem dX7_move_155 : decode cX7_move 155 = .ok (.iload_n 2, 1) := by decide +kernel
theorem dX7_move_156 : decode cX7_move 156 = .ok (.iload 5, 2) := by decide +kernel
theorem dX7_move_158 : decode cX7_move 158 = .ok (.invokestatic 102, 3) := by decide +kernel
theorem dX7_move_161 : decode cX7_move 161 = .ok (.invokevirtual 167, 3) := by decide +kernel
theorem dX7_move_164 : decode cX7_move 164 = .ok (.aload_n 0, 1) := by decide +kernel
theorem dX7_move_165 : decode cX7_move 165 = .ok (.getfield 28, 3) := by decide +kernel
theorem dX7_move_168 : decode cX7_move 168 = .ok (.iload 6, 2) := by decide +kernel
theorem dX7_move_170 : decode cX7_move 170 = .ok (.iload_n 2, 1) := by decide +kernel
theorem dX7_move_171 : decode cX7_move 171 = .ok (.iload 5, 2) := by decide +kernel
theorem dX7_move_173 : decode cX7_move 173 = .ok (.invokestatic 102, 3) := by decide +kernel
theorem dX7_move_176 : decode cX7_move 176 = .ok (.iload_n 1, 1) := by decide +kernel
theorem dX7_move_177 : decode cX7_move 177 = .ok (.invokevirtual 134, 3) := by decide +kernel
theorem dX7_move_180 : decode cX7_move 180 = .ok (.aload_n 0, 1) := by decide +kernel
theorem dX7_move_181 : decode cX7_move 181 = .ok (.getfield 21, 3) := by decide +kernel
theorem dX7_move_184 : decode cX7_move 184 = .ok (.iload_n 1, 1) := by decide +kernel
theorem dX7_move_185 : decode cX7_move 185 = .ok (.iload 6, 2) := by decide +kernel
theorem dX7_move_187 : decode cX7_move 187 = .ok (.iload_n 2, 1) := by decide +kernel
theorem dX7_move_188 : decode cX7_move 188 = .ok (.invokevirtual 285, 3) := by decide +kernel
theorem dX7_move_191 : decode cX7_move 191 = .ok (.return_, 1) := by decide +kernel
set_option maxRecDepth 20000 in
theorem ggX7_markInCrowd_X5_at : GoodIn wsX7_markInCrowd wsX5_at := goodIn_r _ [7, 8, 43] (by decide +kernel) (by decide +kernel)
set_option maxRecDepth 20000 in
theorem gX7_markInCrowd_X5_at : GoodIn wsX7_markInCrowd (wsV RX7 149 RX5 yX5_at wsX5_at) := goodIn_app (goodIn_of _ (by decide +kernel)) ggX7_markInCrowd_X5_at
set_option maxRecDepth 20000 in
theorem ggX7_markInCrowd_X0_load : GoodIn wsX7_markInCrowd wsX0_load := goodIn_r _ [13, 14, 15, 4, 5, 6, 7, 8, 44, 45, 46, 43] (by decide +kernel) (by decide +kernel)
set_option maxRecDepth 20000 in
theorem gX7_markInCrowd_X0_load : GoodIn wsX7_markInCrowd (wsV RX7 288 RX0 yX0_load wsX0_load) := goodIn_app (goodIn_of _ (by decide +kernel)) ggX7_markInCrowd_X0_load
set_option maxRecDepth 20000 in
theorem ggX7_markInCrowd_X5_put : GoodIn wsX7_markInCrowd wsX5_put := goodIn_r _ [19, 8, 43] (by decide +kernel) (by decide +kernel)
set_option maxRecDepth 20000 in
theorem gX7_markInCrowd_X5_put : GoodIn wsX7_markInCrowd (wsV RX7 153 RX5 yX5_put wsX5_put) := goodIn_app (goodIn_of _ (by decide +kernel)) ggX7_markInCrowd_X5_put
theorem dX7_markInCrowd_0 : decode cX7_markInCrowd 0 = .ok (.aload_n 0, 1) := by decide +kernel
theorem dX7_markInCrowd_1 : decode cX7_markInCrowd 1 = .ok (.getfield 21, 3) := by decide +kernel
theorem dX7_markInCrowd_4 : decode cX7_markInCrowd 4 = .ok (.getfield 187, 3) := by decide +kernel
theorem dX7_markInCrowd_7 : decode cX7_markInCrowd 7 = .ok (.iload_n 1, 1) := by decide +kernel
theorem dX7_markInCrowd_8 : decode cX7_markInCrowd 8 = .ok (.invokevirtual 149, 3) := by decide +kernel
theorem dX7_markInCrowd_11 : decode cX7_markInCrowd 11 = .ok (.istore_n 2, 1) := by decide +kernel
theorem dX7_markInCrowd_12 : decode cX7_markInCrowd 12 = .ok (.iload_n 2, 1) := by decide +kernel
theorem dX7_markInCrowd_13 : decode cX7_markInCrowd 13 = .ok (.iconst (-1), 1) := by decide +kernel
theorem dX7_markInCrowd_14 : decode cX7_markInCrowd 14 = .ok (.if_icmp .eq 27, 3) := by decide +kernel
theorem dX7_markInCrowd_17 : decode cX7_markInCrowd 17 = .ok (.aload_n 0, 1) := by decide +kernel
theorem dX7_markInCrowd_18 : decode cX7_markInCrowd 18 = .ok (.getfield 28, 3) := by decide +kernel
theorem dX7_markInCrowd_21 : decode cX7_markInCrowd 21 = .ok (.iload_n 2, 1) := by decide +kernel
theorem dX7_markInCrowd_22 : decode cX7_markInCrowd 22 = .ok (.invokevirtual 288, 3) := by decide +kernel
theorem dX7_markInCrowd_25 : decode cX7_markInCrowd 25 = .ok (.iconst 4, 1) := by decide +kernel
theorem dX7_markInCrowd_26 : decode cX7_markInCrowd 26 = .ok (.if_icmp .lt 15, 3) := by decide +kernel
theorem dX7_markInCrowd_29 : decode cX7_markInCrowd 29 = .ok (.aload_n 0, 1) := by decide +kernel
theorem dX7_markInCrowd_30 : decode cX7_markInCrowd 30 = .ok (.getfield 21, 3) := by decide +kernel
theorem dX7_markInCrowd_33 : decode cX7_markInCrowd 33 = .ok (.getfield 193, 3) := by decide +kernel
theorem dX7_markInCrowd_36 : decode cX7_markInCrowd 36 = .ok (.iload_n 1, 1) := by decide +kernel
theorem dX7_markInCrowd_37 : decode cX7_markInCrowd 37 = .ok (.iconst 1, 1) := by decide +kernel
theorem dX7_markInCrowd_38 : decode cX7_markInCrowd 38 = .ok (.invokevirtual 153, 3) := by decide +kernel
theorem dX7_markInCrowd_41 : decode cX7_markInCrowd 41 = .ok (.return_, 1) := by decide +kernel
theorem dX7_bufferOf_0 : decode cX7_bufferOf 0 = .ok (.iload_n 0, 1) := by decide +kernel
theorem dX7_bufferOf_1 : decode cX7_bufferOf 1 = .ok (.bipush 10, 2) := by decide +kernel
theorem dX7_bufferOf_3 : decode cX7_bufferOf 3 = .ok (.imul, 1) := by decide +kernel
theorem dX7_bufferOf_4 : decode cX7_bufferOf 4 = .ok (.iconst 2, 1) := by decide +kernel
theorem dX7_bufferOf_5 : decode cX7_bufferOf 5 = .ok (.iload_n 1, 1) := by decide +kernel
theorem dX7_bufferOf_6 : decode cX7_bufferOf 6 = .ok (.imul, 1) := by decide +kernel
theorem dX7_bufferOf_7 : decode cX7_bufferOf 7 = .ok (.iadd, 1) := by decide +kernel
theorem dX7_bufferOf_8 : decode cX7_bufferOf 8 = .ok (.iload_n 2, 1) := by decide +kernel
theorem dX7_bufferOf_9 : decode cX7_bufferOf 9 = .ok (.iadd, 1) := by decide +kernel
theorem dX7_bufferOf_10 : decode cX7_bufferOf 10 = .ok (.ireturn, 1) := by decide +kernel
set_option maxRecDepth 20000 in
theorem ggX7_bufferBehind_X3_behind : GoodIn wsX7_bufferBehind wsX3_behind := goodIn_r _ [6, 7, 8, 9, 10, 11, 12, 13, 14, 15, 16, 33, 34, 35, 36, 37] (by decide +kernel) (by decide +kernel)
set_option maxRecDepth 20000 in
theorem gX7_bufferBehind_X3_behind : GoodIn wsX7_bufferBehind (wsV RX7 214 RX3 yX3_behind wsX3_behind) := goodIn_app (goodIn_of _ (by decide +kernel)) ggX7_bufferBehind_X3_behind
set_option maxRecDepth 20000 in
theorem ggX7_bufferBehind_X7_bufferOf : GoodIn wsX7_bufferBehind wsX7_bufferOf := goodIn_r _ [20] (by decide +kernel) (by decide +kernel)
set_option maxRecDepth 20000 in
theorem gX7_bufferBehind_X7_bufferOf : GoodIn wsX7_bufferBehind (va_wsS RX7 102 yX7_bufferOf wsX7_bufferOf) := goodIn_app (goodIn_of _ (by decide +kernel)) ggX7_bufferBehind_X7_bufferOf
theorem dX7_bufferBehind_0 : decode cX7_bufferBehind 0 = .ok (.aload_n 0, 1) := by decide +kernel
theorem dX7_bufferBehind_1 : decode cX7_bufferBehind 1 = .ok (.getfield 12, 3) := by decide +kernel
theorem dX7_bufferBehind_4 : decode cX7_bufferBehind 4 = .ok (.iload_n 1, 1) := by decide +kernel
theorem dX7_bufferBehind_5 : decode cX7_bufferBehind 5 = .ok (.iload_n 2, 1) := by decide +kernel
theorem dX7_bufferBehind_6 : decode cX7_bufferBehind 6 = .ok (.invokevirtual 214, 3) := by decide +kernel
theorem dX7_bufferBehind_9 : decode cX7_bufferBehind 9 = .ok (.iload_n 2, 1) := by decide +kernel
theorem dX7_bufferBehind_10 : decode cX7_bufferBehind 10 = .ok (.iload_n 3, 1) := by decide +kernel
theorem dX7_bufferBehind_11 : decode cX7_bufferBehind 11 = .ok (.invokestatic 102, 3) := by decide +kernel
theorem dX7_bufferBehind_14 : decode cX7_bufferBehind 14 = .ok (.ireturn, 1) := by decide +kernel
set_option maxRecDepth 20000 in
theorem ggX8_init_X8_begins : GoodIn wsX8_init wsX8_begins := goodIn_r _ [31, 4, 5, 6, 32, 33, 34, 35, 9, 10, 11, 12, 13, 14, 16, 36, 37, 38, 39, 40, 41, 42, 43, 44, 45, 46, 47, 48, 49, 50, 51, 52, 53, 54, 55, 56, 57, 58, 59, 60, 61] (by decide +kernel) (by decide +kernel)
set_option maxRecDepth 20000 in
theorem gX8_init_X8_begins : GoodIn wsX8_init (wsV RX8 75 RX8 yX8_begins wsX8_begins) := goodIn_app (goodIn_of _ (by decide +kernel)) ggX8_init_X8_begins
theorem dX8_init_0 : decode cX8_init 0 = .ok (.aload_n 0, 1) := by decide +kernel
theorem dX8_init_1 : decode cX8_init 1 = .ok (.invokespecial 1, 3) := by decide +kernel
theorem dX8_init_4 : decode cX8_init 4 = .ok (.aload_n 0, 1) := by decide +kernel
theorem dX8_init_5 : decode cX8_init 5 = .ok (.iconst 2, 1) := by decide +kernel
theorem dX8_init_6 : decode cX8_init 6 = .ok (.putfield 7, 3) := by decide +kernel
theorem dX8_init_9 : decode cX8_init 9 = .ok (.aload_n 0, 1) := by decide +kernel
theorem dX8_init_10 : decode cX8_init 10 = .ok (.iconst 2, 1) := by decide +kernel
theorem dX8_init_11 : decode cX8_init 11 = .ok (.putfield 13, 3) := by decide +kernel
theorem dX8_init_14 : decode cX8_init 14 = .ok (.aload_n 0, 1) := by decide +kernel
theorem dX8_init_15 : decode cX8_init 15 = .ok (.iconst 1, 1) := by decide +kernel
theorem dX8_init_16 : decode cX8_init 16 = .ok (.putfield 16, 3) := by decide +kernel
theorem dX8_init_19 : decode cX8_init 19 = .ok (.aload_n 0, 1) := by decide +kernel
theorem dX8_init_20 : decode cX8_init 20 = .ok (.sipush 480, 3) := by decide +kernel
theorem dX8_init_23 : decode cX8_init 23 = .ok (.newarray .int, 2) := by decide +kernel
theorem dX8_init_25 : decode cX8_init 25 = .ok (.putfield 19, 3) := by decide +kernel
theorem dX8_init_28 : decode cX8_init 28 = .ok (.aload_n 0, 1) := by decide +kernel
theorem dX8_init_29 : decode cX8_init 29 = .ok (.sipush 160, 3) := by decide +kernel
theorem dX8_init_32 : decode cX8_init 32 = .ok (.newarray .int, 2) := by decide +kernel
theorem dX8_init_34 : decode cX8_init 34 = .ok (.putfield 23, 3) := by decide +kernel
theorem dX8_init_37 : decode cX8_init 37 = .ok (.aload_n 0, 1) := by decide +kernel
theorem dX8_init_38 : decode cX8_init 38 = .ok (.sipush 128, 3) := by decide +kernel
theorem dX8_init_41 : decode cX8_init 41 = .ok (.newarray .int, 2) := by decide +kernel
theorem dX8_init_43 : decode cX8_init 43 = .ok (.putfield 26, 3) := by decide +kernel
theorem dX8_init_46 : decode cX8_init 46 = .ok (.aload_n 0, 1) := by decide +kernel
theorem dX8_init_47 : decode cX8_init 47 = .ok (.sipush 640, 3) := by decide +kernel
theorem dX8_init_50 : decode cX8_init 50 = .ok (.newarray .int, 2) := by decide +kernel
theorem dX8_init_52 : decode cX8_init 52 = .ok (.putfield 29, 3) := by decide +kernel
theorem dX8_init_55 : decode cX8_init 55 = .ok (.aload_n 0, 1) := by decide +kernel
theorem dX8_init_56 : decode cX8_init 56 = .ok (.bipush 80, 2) := by decide +kernel
theorem dX8_init_58 : decode cX8_init 58 = .ok (.newarray .int, 2) := by decide +kernel
theorem dX8_init_60 : decode cX8_init 60 = .ok (.putfield 32, 3) := by decide +kernel
theorem dX8_init_63 : decode cX8_init 63 = .ok (.aload_n 0, 1) := by decide +kernel
theorem dX8_init_64 : decode cX8_init 64 = .ok (.bipush 16, 2) := by decide +kernel
theorem dX8_init_66 : decode cX8_init 66 = .ok (.newarray .int, 2) := by decide +kernel
theorem dX8_init_68 : decode cX8_init 68 = .ok (.putfield 35, 3) := by decide +kernel
theorem dX8_init_71 : decode cX8_init 71 = .ok (.aload_n 0, 1) := by decide +kernel
theorem dX8_init_72 : decode cX8_init 72 = .ok (.bipush 16, 2) := by decide +kernel
theorem dX8_init_74 : decode cX8_init 74 = .ok (.newarray .int, 2) := by decide +kernel
theorem dX8_init_76 : decode cX8_init 76 = .ok (.putfield 38, 3) := by decide +kernel
theorem dX8_init_79 : decode cX8_init 79 = .ok (.aload_n 0, 1) := by decide +kernel
theorem dX8_init_80 : decode cX8_init 80 = .ok (.bipush 16, 2) := by decide +kernel
theorem dX8_init_82 : decode cX8_init 82 = .ok (.newarray .boolean, 2) := by decide +kernel
theorem dX8_init_84 : decode cX8_init 84 = .ok (.putfield 41, 3) := by decide +kernel
theorem dX8_init_87 : decode cX8_init 87 = .ok (.aload_n 0, 1) := by decide +kernel
theorem dX8_init_88 : decode cX8_init 88 = .ok (.bipush 80, 2) := by decide +kernel
theorem dX8_init_90 : decode cX8_init 90 = .ok (.newarray .int, 2) := by decide +kernel
theorem dX8_init_92 : decode cX8_init 92 = .ok (.putfield 45, 3) := by decide +kernel
theorem dX8_init_95 : decode cX8_init 95 = .ok (.aload_n 0, 1) := by decide +kernel
theorem dX8_init_96 : decode cX8_init 96 = .ok (.bipush 80, 2) := by decide +kernel
theorem dX8_init_98 : decode cX8_init 98 = .ok (.newarray .int, 2) := by decide +kernel
theorem dX8_init_100 : decode cX8_init 100 = .ok (.putfield 48, 3) := by decide +kernel
theorem dX8_init_103 : decode cX8_init 103 = .ok (.aload_n 0, 1) := by decide +kernel
theorem dX8_init_104 : decode cX8_init 104 = .ok (.bipush 80, 2) := by decide +kernel
theorem dX8_init_106 : decode cX8_init 106 = .ok (.newarray .int, 2) := by decide +kernel
theorem dX8_init_108 : decode cX8_init 108 = .ok (.putfield 51, 3) := by decide +kernel
theorem dX8_init_111 : decode cX8_init 111 = .ok (.aload_n 0, 1) := by decide +kernel
theorem dX8_init_112 : decode cX8_init 112 = .ok (.bipush 80, 2) := by decide +kernel
theorem dX8_init_114 : decode cX8_init 114 = .ok (.newarray .int, 2) := by decide +kernel
theorem dX8_init_116 : decode cX8_init 116 = .ok (.putfield 54, 3) := by decide +kernel
theorem dX8_init_119 : decode cX8_init 119 = .ok (.aload_n 0, 1) := by decide +kernel
theorem dX8_init_120 : decode cX8_init 120 = .ok (.bipush 80, 2) := by decide +kernel
theorem dX8_init_122 : decode cX8_init 122 = .ok (.newarray .int, 2) := by decide +kernel
theorem dX8_init_124 : decode cX8_init 124 = .ok (.putfield 57, 3) := by decide +kernel
theorem dX8_init_127 : decode cX8_init 127 = .ok (.aload_n 0, 1) := by decide +kernel
theorem dX8_init_128 : decode cX8_init 128 = .ok (.bipush 80, 2) := by decide +kernel
theorem dX8_init_130 : decode cX8_init 130 = .ok (.newarray .int, 2) := by decide +kernel
theorem dX8_init_132 : decode cX8_init 132 = .ok (.putfield 60, 3) := by decide +kernel
theorem dX8_init_135 : decode cX8_init 135 = .ok (.aload_n 0, 1) := by decide +kernel
theorem dX8_init_136 : decode cX8_init 136 = .ok (.bipush 80, 2) := by decide +kernel
theorem dX8_init_138 : decode cX8_init 138 = .ok (.newarray .boolean, 2) := by decide +kernel
theorem dX8_init_140 : decode cX8_init 140 = .ok (.putfield 63, 3) := by decide +kernel
theorem dX8_init_143 : decode cX8_init 143 = .ok (.aload_n 0, 1) := by decide +kernel
theorem dX8_init_144 : decode cX8_init 144 = .ok (.bipush 80, 2) := by decide +kernel
theorem dX8_init_146 : decode cX8_init 146 = .ok (.newarray .int, 2) := by decide +kernel
theorem dX8_init_148 : decode cX8_init 148 = .ok (.putfield 66, 3) := by decide +kernel
theorem dX8_init_151 : decode cX8_init 151 = .ok (.aload_n 0, 1) := by decide +kernel
theorem dX8_init_152 : decode cX8_init 152 = .ok (.sipush 25600, 3) := by decide +kernel
theorem dX8_init_155 : decode cX8_init 155 = .ok (.newarray .boolean, 2) := by decide +kernel
theorem dX8_init_157 : decode cX8_init 157 = .ok (.putfield 69, 3) := by decide +kernel
theorem dX8_init_160 : decode cX8_init 160 = .ok (.aload_n 0, 1) := by decide +kernel
theorem dX8_init_161 : decode cX8_init 161 = .ok (.sipush 160, 3) := by decide +kernel
theorem dX8_init_164 : decode cX8_init 164 = .ok (.newarray .boolean, 2) := by decide +kernel
theorem dX8_init_166 : decode cX8_init 166 = .ok (.putfield 72, 3) := by decide +kernel
theorem dX8_init_169 : decode cX8_init 169 = .ok (.aload_n 0, 1) := by decide +kernel
theorem dX8_init_170 : decode cX8_init 170 = .ok (.iconst 2, 1) := by decide +kernel
theorem dX8_init_171 : decode cX8_init 171 = .ok (.iconst 2, 1) := by decide +kernel
theorem dX8_init_172 : decode cX8_init 172 = .ok (.iconst 1, 1) := by decide +kernel
theorem dX8_init_173 : decode cX8_init 173 = .ok (.iconst 0, 1) := by decide +kernel
theorem dX8_init_174 : decode cX8_init 174 = .ok (.invokevirtual 75, 3) := by decide +kernel
theorem dX8_init_177 : decode cX8_init 177 = .ok (.return_, 1) := by decide +kernel
theorem dX8_thrown_0 : decode cX8_thrown 0 = .ok (.aload_n 0, 1) := by decide +kernel
theorem dX8_thrown_1 : decode cX8_thrown 1 = .ok (.getfield 79, 3) := by decide +kernel
theorem dX8_thrown_4 : decode cX8_thrown 4 = .ok (.ireturn, 1) := by decide +kernel
theorem dX8_goes_0 : decode cX8_goes 0 = .ok (.aload_n 0, 1) := by decide +kernel
theorem dX8_goes_1 : decode cX8_goes 1 = .ok (.iload_n 1, 1) := by decide +kernel
theorem dX8_goes_2 : decode cX8_goes 2 = .ok (.ifCond .ne 7, 3) := by decide +kernel
theorem dX8_goes_5 : decode cX8_goes 5 = .ok (.iconst 1, 1) := by decide +kernel
theorem dX8_goes_6 : decode cX8_goes 6 = .ok (.goto 20, 3) := by decide +kernel
theorem dX8_goes_9 : decode cX8_goes 9 = .ok (.iload_n 2, 1) := by decide +kernel
theorem dX8_goes_10 : decode cX8_goes 10 = .ok (.ifCond .ne 7, 3) := by decide +kernel
theorem dX8_goes_13 : decode cX8_goes 13 = .ok (.iconst 2, 1) := by decide +kernel
theorem dX8_goes_14 : decode cX8_goes 14 = .ok (.goto 12, 3) := by decide +kernel
theorem dX8_goes_17 : decode cX8_goes 17 = .ok (.iload_n 3, 1) := by decide +kernel
theorem dX8_goes_18 : decode cX8_goes 18 = .ok (.ifCond .ne 7, 3) := by decide +kernel
theorem dX8_goes_21 : decode cX8_goes 21 = .ok (.iconst 3, 1) := by decide +kernel
theorem dX8_goes_22 : decode cX8_goes 22 = .ok (.goto 4, 3) := by decide +kernel
theorem dX8_goes_25 : decode cX8_goes 25 = .ok (.iconst 0, 1) := by decide +kernel
theorem dX8_goes_26 : decode cX8_goes 26 = .ok (.putfield 79, 3) := by decide +kernel
theorem dX8_goes_29 : decode cX8_goes 29 = .ok (.aload_n 0, 1) := by decide +kernel
theorem dX8_goes_30 : decode cX8_goes 30 = .ok (.getfield 79, 3) := by decide +kernel
theorem dX8_goes_33 : decode cX8_goes 33 = .ok (.ifCond .ne 7, 3) := by decide +kernel
theorem dX8_goes_36 : decode cX8_goes 36 = .ok (.iconst 1, 1) := by decide +kernel
theorem dX8_goes_37 : decode cX8_goes 37 = .ok (.goto 4, 3) := by decide +kernel
theorem dX8_goes_40 : decode cX8_goes 40 = .ok (.iconst 0, 1) := by decide +kernel
theorem dX8_goes_41 : decode cX8_goes 41 = .ok (.ireturn, 1) := by decide +kernel
theorem dX8_isWithin_0 : decode cX8_isWithin 0 = .ok (.iload_n 0, 1) := by decide +kernel
theorem dX8_isWithin_1 : decode cX8_isWithin 1 = .ok (.iload_n 1, 1) := by decide +kernel
theorem dX8_isWithin_2 : decode cX8_isWithin 2 = .ok (.if_icmp .lt 12, 3) := by decide +kernel
theorem dX8_isWithin_5 : decode cX8_isWithin 5 = .ok (.iload_n 0, 1) := by decide +kernel
theorem dX8_isWithin_6 : decode cX8_isWithin 6 = .ok (.iload_n 2, 1) := by decide +kernel
theorem dX8_isWithin_7 : decode cX8_isWithin 7 = .ok (.if_icmp .gt 7, 3) := by decide +kernel
theorem dX8_isWithin_10 : decode cX8_isWithin 10 = .ok (.iconst 1, 1) := by decide +kernel
theorem dX8_isWithin_11 : decode cX8_isWithin 11 = .ok (.goto 4, 3) := by decide +kernel
theorem dX8_isWithin_14 : decode cX8_isWithin 14 = .ok (.iconst 0, 1) := by decide +kernel
theorem dX8_isWithin_15 : decode cX8_isWithin 15 = .ok (.ireturn, 1) := by decide +kernel
theorem dX8_isSwitch_0 : decode cX8_isSwitch 0 = .ok (.iload_n 1, 1) := by decide +kernel
theorem dX8_isSwitch_1 : decode cX8_isSwitch 1 = .ok (.ifCond .lt 20, 3) := by decide +kernel
theorem dX8_isSwitch_4 : decode cX8_isSwitch 4 = .ok (.iload_n 1, 1) := by decide +kernel
theorem dX8_isSwitch_5 : decode cX8_isSwitch 5 = .ok (.aload_n 0, 1) := by decide +kernel
theorem dX8_isSwitch_6 : decode cX8_isSwitch 6 = .ok (.getfield 7, 3) := by decide +kernel
theorem dX8_isSwitch_9 : decode cX8_isSwitch 9 = .ok (.aload_n 0, 1) := by decide +kernel
theorem dX8_isSwitch_10 : decode cX8_isSwitch 10 = .ok (.getfield 13, 3) := by decide +kernel
theorem dX8_isSwitch_13 : decode cX8_isSwitch 13 = .ok (.imul, 1) := by decide +kernel
theorem dX8_isSwitch_14 : decode cX8_isSwitch 14 = .ok (.if_icmp .ge 7, 3) := by decide +kernel
theorem dX8_isSwitch_17 : decode cX8_isSwitch 17 = .ok (.iconst 1, 1) := by decide +kernel
theorem dX8_isSwitch_18 : decode cX8_isSwitch 18 = .ok (.goto 4, 3) := by decide +kernel
theorem dX8_isSwitch_21 : decode cX8_isSwitch 21 = .ok (.iconst 0, 1) := by decide +kernel
theorem dX8_isSwitch_22 : decode cX8_isSwitch 22 = .ok (.ireturn, 1) := by decide +kernel
theorem dX8_isPacket_0 : decode cX8_isPacket 0 = .ok (.iload_n 1, 1) := by decide +kernel
theorem dX8_isPacket_1 : decode cX8_isPacket 1 = .ok (.ifCond .lt 15, 3) := by decide +kernel
theorem dX8_isPacket_4 : decode cX8_isPacket 4 = .ok (.iload_n 1, 1) := by decide +kernel
theorem dX8_isPacket_5 : decode cX8_isPacket 5 = .ok (.aload_n 0, 1) := by decide +kernel
theorem dX8_isPacket_6 : decode cX8_isPacket 6 = .ok (.getfield 82, 3) := by decide +kernel
theorem dX8_isPacket_9 : decode cX8_isPacket 9 = .ok (.if_icmp .ge 7, 3) := by decide +kernel
theorem dX8_isPacket_12 : decode cX8_isPacket 12 = .ok (.iconst 1, 1) := by decide +kernel
theorem dX8_isPacket_13 : decode cX8_isPacket 13 = .ok (.goto 4, 3) := by decide +kernel
theorem dX8_isPacket_16 : decode cX8_isPacket 16 = .ok (.iconst 0, 1) := by decide +kernel
theorem dX8_isPacket_17 : decode cX8_isPacket 17 = .ok (.ireturn, 1) := by decide +kernel
theorem dX8_bufferOf_0 : decode cX8_bufferOf 0 = .ok (.iload_n 0, 1) := by decide +kernel
theorem dX8_bufferOf_1 : decode cX8_bufferOf 1 = .ok (.iconst 5, 1) := by decide +kernel
theorem dX8_bufferOf_2 : decode cX8_bufferOf 2 = .ok (.imul, 1) := by decide +kernel
theorem dX8_bufferOf_3 : decode cX8_bufferOf 3 = .ok (.iload_n 1, 1) := by decide +kernel
theorem dX8_bufferOf_4 : decode cX8_bufferOf 4 = .ok (.iadd, 1) := by decide +kernel
theorem dX8_bufferOf_5 : decode cX8_bufferOf 5 = .ok (.iconst 2, 1) := by decide +kernel
theorem dX8_bufferOf_6 : decode cX8_bufferOf 6 = .ok (.imul, 1) := by decide +kernel
theorem dX8_bufferOf_7 : decode cX8_bufferOf 7 = .ok (.iload_n 2, 1) := by decide +kernel
theorem dX8_bufferOf_8 : decode cX8_bufferOf 8 = .ok (.iadd, 1) := by decide +kernel
theorem dX8_bufferOf_9 : decode cX8_bufferOf 9 = .ok (.ireturn, 1) := by decide +kernel
theorem dX8_linkOf_0 : decode cX8_linkOf 0 = .ok (.iload_n 0, 1) := by decide +kernel
theorem dX8_linkOf_1 : decode cX8_linkOf 1 = .ok (.iconst 4, 1) := by decide +kernel
theorem dX8_linkOf_2 : decode cX8_linkOf 2 = .ok (.imul, 1) := by decide +kernel
theorem dX8_linkOf_3 : decode cX8_linkOf 3 = .ok (.iload_n 1, 1) := by decide +kernel
theorem dX8_linkOf_4 : decode cX8_linkOf 4 = .ok (.iadd, 1) := by decide +kernel
theorem dX8_linkOf_5 : decode cX8_linkOf 5 = .ok (.iconst 2, 1) := by decide +kernel
theorem dX8_linkOf_6 : decode cX8_linkOf 6 = .ok (.imul, 1) := by decide +kernel
theorem dX8_linkOf_7 : decode cX8_linkOf 7 = .ok (.iload_n 2, 1) := by decide +kernel
theorem dX8_linkOf_8 : decode cX8_linkOf 8 = .ok (.iadd, 1) := by decide +kernel
theorem dX8_linkOf_9 : decode cX8_linkOf 9 = .ok (.ireturn, 1) := by decide +kernel
theorem dX8_neighbour_0 : decode cX8_neighbour 0 = .ok (.iload_n 1, 1) := by decide +kernel
theorem dX8_neighbour_1 : decode cX8_neighbour 1 = .ok (.aload_n 0, 1) := by decide +kernel
theorem dX8_neighbour_2 : decode cX8_neighbour 2 = .ok (.getfield 7, 3) := by decide +kernel
theorem dX8_neighbour_5 : decode cX8_neighbour 5 = .ok (.irem, 1) := by decide +kernel
theorem dX8_neighbour_6 : decode cX8_neighbour 6 = .ok (.iload_n 2, 1) := by decide +kernel
theorem dX8_neighbour_7 : decode cX8_neighbour 7 = .ok (.ifCond .ne 7, 3) := by decide +kernel
theorem dX8_neighbour_10 : decode cX8_neighbour 10 = .ok (.iconst 1, 1) := by decide +kernel
theorem dX8_neighbour_11 : decode cX8_neighbour 11 = .ok (.goto 13, 3) := by decide +kernel
theorem dX8_neighbour_14 : decode cX8_neighbour 14 = .ok (.iload_n 2, 1) := by decide +kernel
theorem dX8_neighbour_15 : decode cX8_neighbour 15 = .ok (.iconst 2, 1) := by decide +kernel
theorem dX8_neighbour_16 : decode cX8_neighbour 16 = .ok (.if_icmp .ne 7, 3) := by decide +kernel
theorem dX8_neighbour_19 : decode cX8_neighbour 19 = .ok (.iconst (-1), 1) := by decide +kernel
theorem dX8_neighbour_20 : decode cX8_neighbour 20 = .ok (.goto 4, 3) := by decide +kernel
theorem dX8_neighbour_23 : decode cX8_neighbour 23 = .ok (.iconst 0, 1) := by decide +kernel
theorem dX8_neighbour_24 : decode cX8_neighbour 24 = .ok (.iadd, 1) := by decide +kernel
theorem dX8_neighbour_25 : decode cX8_neighbour 25 = .ok (.istore_n 3, 1) := by decide +kernel
theorem dX8_neighbour_26 : decode cX8_neighbour 26 = .ok (.iload_n 1, 1) := by decide +kernel
theorem dX8_neighbour_27 : decode cX8_neighbour 27 = .ok (.aload_n 0, 1) := by decide +kernel
theorem dX8_neighbour_28 : decode cX8_neighbour 28 = .ok (.getfield 7, 3) := by decide +kernel
theorem dX8_neighbour_31 : decode cX8_neighbour 31 = .ok (.idiv, 1) := by decide +kernel
theorem dX8_neighbour_32 : decode cX8_neighbour 32 = .ok (.iload_n 2, 1) := by decide +kernel
theorem dX8_neighbour_33 : decode cX8_neighbour 33 = .ok (.iconst 1, 1) := by decide +kernel
theorem dX8_neighbour_34 : decode cX8_neighbour 34 = .ok (.if_icmp .ne 7, 3) := by decide +kernel
theorem dX8_neighbour_37 : decode cX8_neighbour 37 = .ok (.iconst 1, 1) := by decide +kernel
theorem dX8_neighbour_38 : decode cX8_neighbour 38 = .ok (.goto 13, 3) := by decide +kernel
theorem dX8_neighbour_41 : decode cX8_neighbour 41 = .ok (.iload_n 2, 1) := by decide +kernel
theorem dX8_neighbour_42 : decode cX8_neighbour 42 = .ok (.iconst 3, 1) := by decide +kernel
theorem dX8_neighbour_43 : decode cX8_neighbour 43 = .ok (.if_icmp .ne 7, 3) := by decide +kernel
theorem dX8_neighbour_46 : decode cX8_neighbour 46 = .ok (.iconst (-1), 1) := by decide +kernel
theorem dX8_neighbour_47 : decode cX8_neighbour 47 = .ok (.goto 4, 3) := by decide +kernel
theorem dX8_neighbour_50 : decode cX8_neighbour 50 = .ok (.iconst 0, 1) := by decide +kernel
theorem dX8_neighbour_51 : decode cX8_neighbour 51 = .ok (.iadd, 1) := by decide +kernel
theorem dX8_neighbour_52 : decode cX8_neighbour 52 = .ok (.istore 4, 2) := by decide +kernel
theorem dX8_neighbour_54 : decode cX8_neighbour 54 = .ok (.iload_n 3, 1) := by decide +kernel
theorem dX8_neighbour_55 : decode cX8_neighbour 55 = .ok (.ifCond .lt 29, 3) := by decide +kernel
theorem dX8_neighbour_58 : decode cX8_neighbour 58 = .ok (.iload_n 3, 1) := by decide +kernel
theorem dX8_neighbour_59 : decode cX8_neighbour 59 = .ok (.aload_n 0, 1) := by decide +kernel
theorem dX8_neighbour_60 : decode cX8_neighbour 60 = .ok (.getfield 7, 3) := by decide +kernel
theorem dX8_neighbour_63 : decode cX8_neighbour 63 = .ok (.if_icmp .ge 21, 3) := by decide +kernel
theorem dX8_neighbour_66 : decode cX8_neighbour 66 = .ok (.iload 4, 2) := by decide +kernel
theorem dX8_neighbour_68 : decode cX8_neighbour 68 = .ok (.ifCond .lt 16, 3) := by decide +kernel
theorem dX8_neighbour_71 : decode cX8_neighbour 71 = .ok (.iload 4, 2) := by decide +kernel
theorem dX8_neighbour_73 : decode cX8_neighbour 73 = .ok (.aload_n 0, 1) := by decide +kernel
theorem dX8_neighbour_74 : decode cX8_neighbour 74 = .ok (.getfield 13, 3) := by decide +kernel
theorem dX8_neighbour_77 : decode cX8_neighbour 77 = .ok (.if_icmp .ge 7, 3) := by decide +kernel
theorem dX8_neighbour_80 : decode cX8_neighbour 80 = .ok (.iconst 1, 1) := by decide +kernel
theorem dX8_neighbour_81 : decode cX8_neighbour 81 = .ok (.goto 4, 3) := by decide +kernel
theorem dX8_neighbour_84 : decode cX8_neighbour 84 = .ok (.iconst 0, 1) := by decide +kernel
theorem dX8_neighbour_85 : decode cX8_neighbour 85 = .ok (.istore 5, 2) := by decide +kernel
theorem dX8_neighbour_87 : decode cX8_neighbour 87 = .ok (.iload 5, 2) := by decide +kernel
theorem dX8_neighbour_89 : decode cX8_neighbour 89 = .ok (.ifCond .eq 15, 3) := by decide +kernel
theorem dX8_neighbour_92 : decode cX8_neighbour 92 = .ok (.iload 4, 2) := by decide +kernel
theorem dX8_neighbour_94 : decode cX8_neighbour 94 = .ok (.aload_n 0, 1) := by decide +kernel
theorem dX8_neighbour_95 : decode cX8_neighbour 95 = .ok (.getfield 7, 3) := by decide +kernel
theorem dX8_neighbour_98 : decode cX8_neighbour 98 = .ok (.imul, 1) := by decide +kernel
theorem dX8_neighbour_99 : decode cX8_neighbour 99 = .ok (.iload_n 3, 1) := by decide +kernel
theorem dX8_neighbour_100 : decode cX8_neighbour 100 = .ok (.iadd, 1) := by decide +kernel
theorem dX8_neighbour_101 : decode cX8_neighbour 101 = .ok (.goto 4, 3) := by decide +kernel
theorem dX8_neighbour_104 : decode cX8_neighbour 104 = .ok (.iconst (-1), 1) := by decide +kernel
theorem dX8_neighbour_105 : decode cX8_neighbour 105 = .ok (.ireturn, 1) := by decide +kernel
set_option maxRecDepth 20000 in
theorem ggX8_isLink_X8_isSwitch : GoodIn wsX8_isLink wsX8_isSwitch := goodIn_r _ [5, 6, 7, 15, 16, 17, 18, 19, 20, 21, 22, 23, 24, 25, 26, 27, 28, 29, 30, 31, 32, 33, 34, 35, 36, 37, 38, 39, 40] (by decide +kernel) (by decide +kernel)
set_option maxRecDepth 20000 in
theorem gX8_isLink_X8_isSwitch : GoodIn wsX8_isLink (wsV RX8 85 RX8 yX8_isSwitch wsX8_isSwitch) := goodIn_app (goodIn_of _ (by decide +kernel)) ggX8_isLink_X8_isSwitch
set_option maxRecDepth 20000 in
theorem ggX8_isLink_X8_isWithin : GoodIn wsX8_isLink wsX8_isWithin := goodIn_r _ [10] (by decide +kernel) (by decide +kernel)
set_option maxRecDepth 20000 in
theorem gX8_isLink_X8_isWithin : GoodIn wsX8_isLink (va_wsS RX8 89 yX8_isWithin wsX8_isWithin) := goodIn_app (goodIn_of _ (by decide +kernel)) ggX8_isLink_X8_isWithin
set_option maxRecDepth 20000 in
theorem ggX8_isLink_X8_neighbour : GoodIn wsX8_isLink wsX8_neighbour := goodIn_r _ [14, 6, 7, 15, 16, 17, 18, 19, 20, 21, 22, 23, 24, 25, 26, 27, 28, 29, 30, 31, 32, 33, 34, 35, 36, 37, 38, 39, 40] (by decide +kernel) (by decide +kernel)
set_option maxRecDepth 20000 in
theorem gX8_isLink_X8_neighbour : GoodIn wsX8_isLink (wsV RX8 93 RX8 yX8_neighbour wsX8_neighbour) := goodIn_app (goodIn_of _ (by decide +kernel)) ggX8_isLink_X8_neighbour
theorem dX8_isLink_0 : decode cX8_isLink 0 = .ok (.aload_n 0, 1) := by decide +kernel
theorem dX8_isLink_1 : decode cX8_isLink 1 = .ok (.iload_n 1, 1) := by decide +kernel
theorem dX8_isLink_2 : decode cX8_isLink 2 = .ok (.invokevirtual 85, 3) := by decide +kernel
theorem dX8_isLink_5 : decode cX8_isLink 5 = .ok (.ifCond .eq 25, 3) := by decide +kernel
theorem dX8_isLink_8 : decode cX8_isLink 8 = .ok (.iload_n 2, 1) := by decide +kernel
theorem dX8_isLink_9 : decode cX8_isLink 9 = .ok (.iconst 0, 1) := by decide +kernel
theorem dX8_isLink_10 : decode cX8_isLink 10 = .ok (.iconst 3, 1) := by decide +kernel
theorem dX8_isLink_11 : decode cX8_isLink 11 = .ok (.invokestatic 89, 3) := by decide +kernel
theorem dX8_isLink_14 : decode cX8_isLink 14 = .ok (.ifCond .eq 16, 3) := by decide +kernel
theorem dX8_isLink_17 : decode cX8_isLink 17 = .ok (.aload_n 0, 1) := by decide +kernel
theorem dX8_isLink_18 : decode cX8_isLink 18 = .ok (.iload_n 1, 1) := by decide +kernel
theorem dX8_isLink_19 : decode cX8_isLink 19 = .ok (.iload_n 2, 1) := by decide +kernel
theorem dX8_isLink_20 : decode cX8_isLink 20 = .ok (.invokevirtual 93, 3) := by decide +kernel
theorem dX8_isLink_23 : decode cX8_isLink 23 = .ok (.ifCond .lt 7, 3) := by decide +kernel
theorem dX8_isLink_26 : decode cX8_isLink 26 = .ok (.iconst 1, 1) := by decide +kernel
theorem dX8_isLink_27 : decode cX8_isLink 27 = .ok (.goto 4, 3) := by decide +kernel
theorem dX8_isLink_30 : decode cX8_isLink 30 = .ok (.iconst 0, 1) := by decide +kernel
theorem dX8_isLink_31 : decode cX8_isLink 31 = .ok (.ireturn, 1) := by decide +kernel
theorem dX8_begins_0 : decode cX8_begins 0 = .ok (.aload_n 0, 1) := by decide +kernel
theorem dX8_begins_1 : decode cX8_begins 1 = .ok (.iload_n 1, 1) := by decide +kernel
theorem dX8_begins_2 : decode cX8_begins 2 = .ok (.putfield 7, 3) := by decide +kernel
theorem dX8_begins_5 : decode cX8_begins 5 = .ok (.aload_n 0, 1) := by decide +kernel
theorem dX8_begins_6 : decode cX8_begins 6 = .ok (.iload_n 2, 1) := by decide +kernel
theorem dX8_begins_7 : decode cX8_begins 7 = .ok (.putfield 13, 3) := by decide +kernel
theorem dX8_begins_10 : decode cX8_begins 10 = .ok (.aload_n 0, 1) := by decide +kernel
theorem dX8_begins_11 : decode cX8_begins 11 = .ok (.iload_n 3, 1) := by decide +kernel
theorem dX8_begins_12 : decode cX8_begins 12 = .ok (.putfield 16, 3) := by decide +kernel
theorem dX8_begins_15 : decode cX8_begins 15 = .ok (.aload_n 0, 1) := by decide +kernel
theorem dX8_begins_16 : decode cX8_begins 16 = .ok (.iload 4, 2) := by decide +kernel
theorem dX8_begins_18 : decode cX8_begins 18 = .ok (.putfield 97, 3) := by decide +kernel
theorem dX8_begins_21 : decode cX8_begins 21 = .ok (.aload_n 0, 1) := by decide +kernel
theorem dX8_begins_22 : decode cX8_begins 22 = .ok (.iconst 0, 1) := by decide +kernel
theorem dX8_begins_23 : decode cX8_begins 23 = .ok (.putfield 100, 3) := by decide +kernel
theorem dX8_begins_26 : decode cX8_begins 26 = .ok (.aload_n 0, 1) := by decide +kernel
theorem dX8_begins_27 : decode cX8_begins 27 = .ok (.iconst 0, 1) := by decide +kernel
theorem dX8_begins_28 : decode cX8_begins 28 = .ok (.putfield 82, 3) := by decide +kernel
theorem dX8_begins_31 : decode cX8_begins 31 = .ok (.aload_n 0, 1) := by decide +kernel
theorem dX8_begins_32 : decode cX8_begins 32 = .ok (.iconst 0, 1) := by decide +kernel
theorem dX8_begins_33 : decode cX8_begins 33 = .ok (.putfield 103, 3) := by decide +kernel
theorem dX8_begins_36 : decode cX8_begins 36 = .ok (.iconst 0, 1) := by decide +kernel
theorem dX8_begins_37 : decode cX8_begins 37 = .ok (.istore 5, 2) := by decide +kernel
theorem dX8_begins_39 : decode cX8_begins 39 = .ok (.iload 5, 2) := by decide +kernel
theorem dX8_begins_41 : decode cX8_begins 41 = .ok (.sipush 160, 3) := by decide +kernel
theorem dX8_begins_44 : decode cX8_begins 44 = .ok (.if_icmp .ge 17, 3) := by decide +kernel
theorem dX8_begins_47 : decode cX8_begins 47 = .ok (.aload_n 0, 1) := by decide +kernel
theorem dX8_begins_48 : decode cX8_begins 48 = .ok (.getfield 23, 3) := by decide +kernel
theorem dX8_begins_51 : decode cX8_begins 51 = .ok (.iload 5, 2) := by decide +kernel
theorem dX8_begins_53 : decode cX8_begins 53 = .ok (.iconst 0, 1) := by decide +kernel
theorem dX8_begins_54 : decode cX8_begins 54 = .ok (.iastore, 1) := by decide +kernel
theorem dX8_begins_55 : decode cX8_begins 55 = .ok (.iinc 5 1, 3) := by decide +kernel
theorem dX8_begins_58 : decode cX8_begins 58 = .ok (.goto (-19), 3) := by decide +kernel
theorem dX8_begins_61 : decode cX8_begins 61 = .ok (.iconst 0, 1) := by decide +kernel
theorem dX8_begins_62 : decode cX8_begins 62 = .ok (.istore 5, 2) := by decide +kernel
theorem dX8_begins_64 : decode cX8_begins 64 = .ok (.iload 5, 2) := by decide +kernel
theorem dX8_begins_66 : decode cX8_begins 66 = .ok (.sipush 128, 3) := by decide +kernel
theorem dX8_begins_69 : decode cX8_begins 69 = .ok (.if_icmp .ge 17, 3) := by decide +kernel
theorem dX8_begins_72 : decode cX8_begins 72 = .ok (.aload_n 0, 1) := by decide +kernel
theorem dX8_begins_73 : decode cX8_begins 73 = .ok (.getfield 26, 3) := by decide +kernel
theorem dX8_begins_76 : decode cX8_begins 76 = .ok (.iload 5, 2) := by decide +kernel
theorem dX8_begins_78 : decode cX8_begins 78 = .ok (.iload_n 3, 1) := by decide +kernel
theorem dX8_begins_79 : decode cX8_begins 79 = .ok (.iastore, 1) := by decide +kernel
theorem dX8_begins_80 : decode cX8_begins 80 = .ok (.iinc 5 1, 3) := by decide +kernel
theorem dX8_begins_83 : decode cX8_begins 83 = .ok (.goto (-19), 3) := by decide +kernel
theorem dX8_begins_86 : decode cX8_begins 86 = .ok (.iconst 0, 1) := by decide +kernel
theorem dX8_begins_87 : decode cX8_begins 87 = .ok (.istore 5, 2) := by decide +kernel
theorem dX8_begins_89 : decode cX8_begins 89 = .ok (.iload 5, 2) := by decide +kernel
theorem dX8_begins_91 : decode cX8_begins 91 = .ok (.sipush 640, 3) := by decide +kernel
theorem dX8_begins_94 : decode cX8_begins 94 = .ok (.if_icmp .ge 17, 3) := by decide +kernel
theorem dX8_begins_97 : decode cX8_begins 97 = .ok (.aload_n 0, 1) := by decide +kernel
theorem dX8_begins_98 : decode cX8_begins 98 = .ok (.getfield 29, 3) := by decide +kernel
theorem dX8_begins_101 : decode cX8_begins 101 = .ok (.iload 5, 2) := by decide +kernel
theorem dX8_begins_103 : decode cX8_begins 103 = .ok (.iconst 0, 1) := by decide +kernel
theorem dX8_begins_104 : decode cX8_begins 104 = .ok (.iastore, 1) := by decide +kernel
theorem dX8_begins_105 : decode cX8_begins 105 = .ok (.iinc 5 1, 3) := by decide +kernel
theorem dX8_begins_108 : decode cX8_begins 108 = .ok (.goto (-19), 3) := by decide +kernel
theorem dX8_begins_111 : decode cX8_begins 111 = .ok (.iconst 0, 1) := by decide +kernel
theorem dX8_begins_112 : decode cX8_begins 112 = .ok (.istore 5, 2) := by decide +kernel
theorem dX8_begins_114 : decode cX8_begins 114 = .ok (.iload 5, 2) := by decide +kernel
theorem dX8_begins_116 : decode cX8_begins 116 = .ok (.bipush 80, 2) := by decide +kernel
theorem dX8_begins_118 : decode cX8_begins 118 = .ok (.if_icmp .ge 17, 3) := by decide +kernel
theorem dX8_begins_121 : decode cX8_begins 121 = .ok (.aload_n 0, 1) := by decide +kernel
theorem dX8_begins_122 : decode cX8_begins 122 = .ok (.getfield 32, 3) := by decide +kernel
theorem dX8_begins_125 : decode cX8_begins 125 = .ok (.iload 5, 2) := by decide +kernel
theorem dX8_begins_127 : decode cX8_begins 127 = .ok (.iconst 0, 1) := by decide +kernel
theorem dX8_begins_128 : decode cX8_begins 128 = .ok (.iastore, 1) := by decide +kernel
theorem dX8_begins_129 : decode cX8_begins 129 = .ok (.iinc 5 1, 3) := by decide +kernel
theorem dX8_begins_132 : decode cX8_begins 132 = .ok (.goto (-18), 3) := by decide +kernel
theorem dX8_begins_135 : decode cX8_begins 135 = .ok (.iconst 0, 1) := by decide +kernel
theorem dX8_begins_136 : decode cX8_begins 136 = .ok (.istore 5, 2) := by decide +kernel
theorem dX8_begins_138 : decode cX8_begins 138 = .ok (.iload 5, 2) := by decide +kernel
theorem dX8_begins_140 : decode cX8_begins 140 = .ok (.bipush 16, 2) := by decide +kernel
theorem dX8_begins_142 : decode cX8_begins 142 = .ok (.if_icmp .ge 33, 3) := by decide +kernel
theorem dX8_begins_145 : decode cX8_begins 145 = .ok (.aload_n 0, 1) := by decide +kernel
theorem dX8_begins_146 : decode cX8_begins 146 = .ok (.getfield 35, 3) := by decide +kernel
theorem dX8_begins_149 : decode cX8_begins 149 = .ok (.iload 5, 2) := by decide +kernel
theorem dX8_begins_151 : decode cX8_begins 151 = .ok (.iconst 1, 1) := by decide +kernel
theorem dX8_begins_152 : decode cX8_begins 152 = .ok (.iastore, 1) := by decide +kernel
theorem dX8_begins_153 : decode cX8_begins 153 = .ok (.aload_n 0, 1) := by decide +kernel
theorem dX8_begins_154 : decode cX8_begins 154 = .ok (.getfield 38, 3) := by decide +kernel
theorem dX8_begins_157 : decode cX8_begins 157 = .ok (.iload 5, 2) := by decide +kernel
theorem dX8_begins_159 : decode cX8_begins 159 = .ok (.iconst (-1), 1) := by decide +kernel
theorem dX8_begins_160 : decode cX8_begins 160 = .ok (.iastore, 1) := by decide +kernel
theorem dX8_begins_161 : decode cX8_begins 161 = .ok (.aload_n 0, 1) := by decide +kernel
theorem dX8_begins_162 : decode cX8_begins 162 = .ok (.getfield 41, 3) := by decide +kernel
theorem dX8_begins_165 : decode cX8_begins 165 = .ok (.iload 5, 2) := by decide +kernel
theorem dX8_begins_167 : decode cX8_begins 167 = .ok (.iconst 0, 1) := by decide +kernel
theorem dX8_begins_168 : decode cX8_begins 168 = .ok (.bastore, 1) := by decide +kernel
theorem dX8_begins_169 : decode cX8_begins 169 = .ok (.iinc 5 1, 3) := by decide +kernel
theorem dX8_begins_172 : decode cX8_begins 172 = .ok (.goto (-34), 3) := by decide +kernel
theorem dX8_begins_175 : decode cX8_begins 175 = .ok (.return_, 1) := by decide +kernel
set_option maxRecDepth 20000 in
theorem ggX8_begin_X8_isWithin : GoodIn wsX8_begin wsX8_isWithin := goodIn_r _ [4] (by decide +kernel) (by decide +kernel)
set_option maxRecDepth 20000 in
theorem gX8_begin_X8_isWithin : GoodIn wsX8_begin (va_wsS RX8 89 yX8_isWithin wsX8_isWithin) := goodIn_app (goodIn_of _ (by decide +kernel)) ggX8_begin_X8_isWithin
set_option maxRecDepth 20000 in
theorem ggX8_begin_X8_goes : GoodIn wsX8_begin wsX8_goes := goodIn_r _ [8, 9, 28, 29, 30, 31, 32, 33, 34, 35, 36, 37, 38, 39, 40, 41, 42, 43, 44, 45, 46, 47, 48, 49, 50, 51, 52, 53] (by decide +kernel) (by decide +kernel)
set_option maxRecDepth 20000 in
theorem gX8_begin_X8_goes : GoodIn wsX8_begin (wsV RX8 106 RX8 yX8_goes wsX8_goes) := goodIn_app (goodIn_of _ (by decide +kernel)) ggX8_begin_X8_goes
set_option maxRecDepth 20000 in
theorem ggX8_begin_X8_begins : GoodIn wsX8_begin wsX8_begins := goodIn_r _ [13, 14, 15, 16, 17, 18, 19, 20, 21, 22, 23, 24, 25, 26, 27, 28, 29, 30, 31, 32, 33, 34, 35, 36, 37, 38, 39, 40, 41, 42, 43, 44, 45, 46, 47, 48, 49, 50, 51, 52, 53] (by decide +kernel) (by decide +kernel)
set_option maxRecDepth 20000 in
theorem gX8_begin_X8_begins : GoodIn wsX8_begin (wsV RX8 75 RX8 yX8_begins wsX8_begins) := goodIn_app (goodIn_of _ (by decide +kernel)) ggX8_begin_X8_begins
theorem dX8_begin_0 : decode cX8_begin 0 = .ok (.aload_n 0, 1) := by decide +kernel
theorem dX8_begin_1 : decode cX8_begin 1 = .ok (.iload_n 1, 1) := by decide +kernel
theorem dX8_begin_2 : decode cX8_begin 2 = .ok (.iconst 2, 1) := by decide +kernel
theorem dX8_begin_3 : decode cX8_begin 3 = .ok (.iconst 4, 1) := by decide +kernel
theorem dX8_begin_4 : decode cX8_begin 4 = .ok (.invokestatic 89, 3) := by decide +kernel
theorem dX8_begin_7 : decode cX8_begin 7 = .ok (.ifCond .eq 35, 3) := by decide +kernel
theorem dX8_begin_10 : decode cX8_begin 10 = .ok (.iload_n 2, 1) := by decide +kernel
theorem dX8_begin_11 : decode cX8_begin 11 = .ok (.iconst 2, 1) := by decide +kernel
theorem dX8_begin_12 : decode cX8_begin 12 = .ok (.iconst 4, 1) := by decide +kernel
theorem dX8_begin_13 : decode cX8_begin 13 = .ok (.invokestatic 89, 3) := by decide +kernel
theorem dX8_begin_16 : decode cX8_begin 16 = .ok (.ifCond .eq 26, 3) := by decide +kernel
theorem dX8_begin_19 : decode cX8_begin 19 = .ok (.iload_n 3, 1) := by decide +kernel
theorem dX8_begin_20 : decode cX8_begin 20 = .ok (.iconst 1, 1) := by decide +kernel
theorem dX8_begin_21 : decode cX8_begin 21 = .ok (.iconst 3, 1) := by decide +kernel
theorem dX8_begin_22 : decode cX8_begin 22 = .ok (.invokestatic 89, 3) := by decide +kernel
theorem dX8_begin_25 : decode cX8_begin 25 = .ok (.ifCond .eq 17, 3) := by decide +kernel
theorem dX8_begin_28 : decode cX8_begin 28 = .ok (.iload 4, 2) := by decide +kernel
theorem dX8_begin_30 : decode cX8_begin 30 = .ok (.iconst 0, 1) := by decide +kernel
theorem dX8_begin_31 : decode cX8_begin 31 = .ok (.iconst 3, 1) := by decide +kernel
theorem dX8_begin_32 : decode cX8_begin 32 = .ok (.invokestatic 89, 3) := by decide +kernel
theorem dX8_begin_35 : decode cX8_begin 35 = .ok (.ifCond .eq 7, 3) := by decide +kernel
theorem dX8_begin_38 : decode cX8_begin 38 = .ok (.iconst 1, 1) := by decide +kernel
theorem dX8_begin_39 : decode cX8_begin 39 = .ok (.goto 4, 3) := by decide +kernel
theorem dX8_begin_42 : decode cX8_begin 42 = .ok (.iconst 0, 1) := by decide +kernel
theorem dX8_begin_43 : decode cX8_begin 43 = .ok (.iconst 1, 1) := by decide +kernel
theorem dX8_begin_44 : decode cX8_begin 44 = .ok (.iconst 1, 1) := by decide +kernel
theorem dX8_begin_45 : decode cX8_begin 45 = .ok (.invokevirtual 106, 3) := by decide +kernel
theorem dX8_begin_48 : decode cX8_begin 48 = .ok (.ifCond .ne 5, 3) := by decide +kernel
theorem dX8_begin_51 : decode cX8_begin 51 = .ok (.iconst 0, 1) := by decide +kernel
theorem dX8_begin_52 : decode cX8_begin 52 = .ok (.ireturn, 1) := by decide +kernel
theorem dX8_begin_53 : decode cX8_begin 53 = .ok (.aload_n 0, 1) := by decide +kernel
theorem dX8_begin_54 : decode cX8_begin 54 = .ok (.iload_n 1, 1) := by decide +kernel
theorem dX8_begin_55 : decode cX8_begin 55 = .ok (.iload_n 2, 1) := by decide +kernel
theorem dX8_begin_56 : decode cX8_begin 56 = .ok (.iload_n 3, 1) := by decide +kernel
theorem dX8_begin_57 : decode cX8_begin 57 = .ok (.iload 4, 2) := by decide +kernel
theorem dX8_begin_59 : decode cX8_begin 59 = .ok (.invokevirtual 75, 3) := by decide +kernel
theorem dX8_begin_62 : decode cX8_begin 62 = .ok (.iload_n 1, 1) := by decide +kernel
theorem dX8_begin_63 : decode cX8_begin 63 = .ok (.iload_n 2, 1) := by decide +kernel
theorem dX8_begin_64 : decode cX8_begin 64 = .ok (.imul, 1) := by decide +kernel
theorem dX8_begin_65 : decode cX8_begin 65 = .ok (.ireturn, 1) := by decide +kernel
theorem dX8_puts_0 : decode cX8_puts 0 = .ok (.aload_n 0, 1) := by decide +kernel
theorem dX8_puts_1 : decode cX8_puts 1 = .ok (.getfield 19, 3) := by decide +kernel
theorem dX8_puts_4 : decode cX8_puts 4 = .ok (.iconst 3, 1) := by decide +kernel
theorem dX8_puts_5 : decode cX8_puts 5 = .ok (.iload_n 1, 1) := by decide +kernel
theorem dX8_puts_6 : decode cX8_puts 6 = .ok (.imul, 1) := by decide +kernel
theorem dX8_puts_7 : decode cX8_puts 7 = .ok (.aload_n 0, 1) := by decide +kernel
theorem dX8_puts_8 : decode cX8_puts 8 = .ok (.getfield 23, 3) := by decide +kernel
theorem dX8_puts_11 : decode cX8_puts 11 = .ok (.iload_n 1, 1) := by decide +kernel
theorem dX8_puts_12 : decode cX8_puts 12 = .ok (.iaload, 1) := by decide +kernel
theorem dX8_puts_13 : decode cX8_puts 13 = .ok (.iadd, 1) := by decide +kernel
theorem dX8_puts_14 : decode cX8_puts 14 = .ok (.iload_n 2, 1) := by decide +kernel
theorem dX8_puts_15 : decode cX8_puts 15 = .ok (.iastore, 1) := by decide +kernel
theorem dX8_puts_16 : decode cX8_puts 16 = .ok (.aload_n 0, 1) := by decide +kernel
theorem dX8_puts_17 : decode cX8_puts 17 = .ok (.getfield 23, 3) := by decide +kernel
theorem dX8_puts_20 : decode cX8_puts 20 = .ok (.iload_n 1, 1) := by decide +kernel
theorem dX8_puts_21 : decode cX8_puts 21 = .ok (.dup2, 1) := by decide +kernel
theorem dX8_puts_22 : decode cX8_puts 22 = .ok (.iaload, 1) := by decide +kernel
theorem dX8_puts_23 : decode cX8_puts 23 = .ok (.iconst 1, 1) := by decide +kernel
theorem dX8_puts_24 : decode cX8_puts 24 = .ok (.iadd, 1) := by decide +kernel
theorem dX8_puts_25 : decode cX8_puts 25 = .ok (.iastore, 1) := by decide +kernel
theorem dX8_puts_26 : decode cX8_puts 26 = .ok (.return_, 1) := by decide +kernel
theorem dX8_takes_0 : decode cX8_takes 0 = .ok (.aload_n 0, 1) := by decide +kernel
theorem dX8_takes_1 : decode cX8_takes 1 = .ok (.getfield 19, 3) := by decide +kernel
theorem dX8_takes_4 : decode cX8_takes 4 = .ok (.iconst 3, 1) := by decide +kernel
theorem dX8_takes_5 : decode cX8_takes 5 = .ok (.iload_n 1, 1) := by decide +kernel
theorem dX8_takes_6 : decode cX8_takes 6 = .ok (.imul, 1) := by decide +kernel
theorem dX8_takes_7 : decode cX8_takes 7 = .ok (.iaload, 1) := by decide +kernel
theorem dX8_takes_8 : decode cX8_takes 8 = .ok (.istore_n 2, 1) := by decide +kernel
theorem dX8_takes_9 : decode cX8_takes 9 = .ok (.aload_n 0, 1) := by decide +kernel
theorem dX8_takes_10 : decode cX8_takes 10 = .ok (.getfield 23, 3) := by decide +kernel
theorem dX8_takes_13 : decode cX8_takes 13 = .ok (.iload_n 1, 1) := by decide +kernel
theorem dX8_takes_14 : decode cX8_takes 14 = .ok (.dup2, 1) := by decide +kernel
theorem dX8_takes_15 : decode cX8_takes 15 = .ok (.iaload, 1) := by decide +kernel
theorem dX8_takes_16 : decode cX8_takes 16 = .ok (.iconst 1, 1) := by decide +kernel
theorem dX8_takes_17 : decode cX8_takes 17 = .ok (.isub, 1) := by decide +kernel
theorem dX8_takes_18 : decode cX8_takes 18 = .ok (.iastore, 1) := by decide +kernel
theorem dX8_takes_19 : decode cX8_takes 19 = .ok (.iconst 0, 1) := by decide +kernel
theorem dX8_takes_20 : decode cX8_takes 20 = .ok (.istore_n 3, 1) := by decide +kernel
theorem dX8_takes_21 : decode cX8_takes 21 = .ok (.iload_n 3, 1) := by decide +kernel
theorem dX8_takes_22 : decode cX8_takes 22 = .ok (.aload_n 0, 1) := by decide +kernel
theorem dX8_takes_23 : decode cX8_takes 23 = .ok (.getfield 23, 3) := by decide +kernel
theorem dX8_takes_26 : decode cX8_takes 26 = .ok (.iload_n 1, 1) := by decide +kernel
theorem dX8_takes_27 : decode cX8_takes 27 = .ok (.iaload, 1) := by decide +kernel
theorem dX8_takes_28 : decode cX8_takes 28 = .ok (.if_icmp .ge 31, 3) := by decide +kernel
theorem dX8_takes_31 : decode cX8_takes 31 = .ok (.aload_n 0, 1) := by decide +kernel
theorem dX8_takes_32 : decode cX8_takes 32 = .ok (.getfield 19, 3) := by decide +kernel
theorem dX8_takes_35 : decode cX8_takes 35 = .ok (.iconst 3, 1) := by decide +kernel
theorem dX8_takes_36 : decode cX8_takes 36 = .ok (.iload_n 1, 1) := by decide +kernel
theorem dX8_takes_37 : decode cX8_takes 37 = .ok (.imul, 1) := by decide +kernel
theorem dX8_takes_38 : decode cX8_takes 38 = .ok (.iload_n 3, 1) := by decide +kernel
theorem dX8_takes_39 : decode cX8_takes 39 = .ok (.iadd, 1) := by decide +kernel
theorem dX8_takes_40 : decode cX8_takes 40 = .ok (.aload_n 0, 1) := by decide +kernel
theorem dX8_takes_41 : decode cX8_takes 41 = .ok (.getfield 19, 3) := by decide +kernel
theorem dX8_takes_44 : decode cX8_takes 44 = .ok (.iconst 3, 1) := by decide +kernel
theorem dX8_takes_45 : decode cX8_takes 45 = .ok (.iload_n 1, 1) := by decide +kernel
theorem dX8_takes_46 : decode cX8_takes 46 = .ok (.imul, 1) := by decide +kernel
theorem dX8_takes_47 : decode cX8_takes 47 = .ok (.iload_n 3, 1) := by decide +kernel
theorem dX8_takes_48 : decode cX8_takes 48 = .ok (.iadd, 1) := by decide +kernel
theorem dX8_takes_49 : decode cX8_takes 49 = .ok (.iconst 1, 1) := by decide +kernel
theorem dX8_takes_50 : decode cX8_takes 50 = .ok (.iadd, 1) := by decide +kernel
theorem dX8_takes_51 : decode cX8_takes 51 = .ok (.iaload, 1) := by decide +kernel
theorem dX8_takes_52 : decode cX8_takes 52 = .ok (.iastore, 1) := by decide +kernel
theorem dX8_takes_53 : decode cX8_takes 53 = .ok (.iinc 3 1, 3) := by decide +kernel
theorem dX8_takes_56 : decode cX8_takes 56 = .ok (.goto (-35), 3) := by decide +kernel
theorem dX8_takes_59 : decode cX8_takes 59 = .ok (.iload_n 2, 1) := by decide +kernel
theorem dX8_takes_60 : decode cX8_takes 60 = .ok (.ireturn, 1) := by decide +kernel
set_option maxRecDepth 20000 in
theorem ggX8_send_X8_isSwitch : GoodIn wsX8_send wsX8_isSwitch := goodIn_r _ [18, 19, 20, 37, 38, 39, 40, 41, 42, 43, 44, 45, 46, 47, 48, 49, 50, 51, 52, 53, 54, 55, 56, 57, 58, 59, 60, 61, 62] (by decide +kernel) (by decide +kernel)
set_option maxRecDepth 20000 in
theorem gX8_send_X8_isSwitch : GoodIn wsX8_send (wsV RX8 85 RX8 yX8_isSwitch wsX8_isSwitch) := goodIn_app (goodIn_of _ (by decide +kernel)) ggX8_send_X8_isSwitch
set_option maxRecDepth 20000 in
theorem ggX8_send_X8_isWithin : GoodIn wsX8_send wsX8_isWithin := goodIn_r _ [23] (by decide +kernel) (by decide +kernel)
set_option maxRecDepth 20000 in
theorem gX8_send_X8_isWithin : GoodIn wsX8_send (va_wsS RX8 89 yX8_isWithin wsX8_isWithin) := goodIn_app (goodIn_of _ (by decide +kernel)) ggX8_send_X8_isWithin
set_option maxRecDepth 20000 in
theorem ggX8_send_X8_bufferOf : GoodIn wsX8_send wsX8_bufferOf := goodIn_r _ [26] (by decide +kernel) (by decide +kernel)
set_option maxRecDepth 20000 in
theorem gX8_send_X8_bufferOf : GoodIn wsX8_send (va_wsS RX8 110 yX8_bufferOf wsX8_bufferOf) := goodIn_app (goodIn_of _ (by decide +kernel)) ggX8_send_X8_bufferOf
set_option maxRecDepth 20000 in
theorem ggX8_send_X8_goes : GoodIn wsX8_send wsX8_goes := goodIn_r _ [30, 31, 37, 38, 39, 40, 41, 42, 43, 44, 45, 46, 47, 48, 49, 50, 51, 52, 53, 54, 55, 56, 57, 58, 59, 60, 61, 62] (by decide +kernel) (by decide +kernel)
set_option maxRecDepth 20000 in
theorem gX8_send_X8_goes : GoodIn wsX8_send (wsV RX8 106 RX8 yX8_goes wsX8_goes) := goodIn_app (goodIn_of _ (by decide +kernel)) ggX8_send_X8_goes
set_option maxRecDepth 20000 in
theorem ggX8_send_X8_puts : GoodIn wsX8_send wsX8_puts := goodIn_r _ [35, 36, 2, 37, 38, 39, 40, 41, 42, 43, 44, 45, 46, 47, 48, 49, 50, 51, 52, 53, 54, 55, 56, 57, 58, 59, 60, 61, 62] (by decide +kernel) (by decide +kernel)
set_option maxRecDepth 20000 in
theorem gX8_send_X8_puts : GoodIn wsX8_send (wsV RX8 114 RX8 yX8_puts wsX8_puts) := goodIn_app (goodIn_of _ (by decide +kernel)) ggX8_send_X8_puts
theorem dX8_send_0 : decode cX8_send 0 = .ok (.aload_n 0, 1) := by decide +kernel
theorem dX8_send_1 : decode cX8_send 1 = .ok (.iload_n 1, 1) := by decide +kernel
theorem dX8_send_2 : decode cX8_send 2 = .ok (.invokevirtual 85, 3) := by decide +kernel
theorem dX8_send_5 : decode cX8_send 5 = .ok (.ifCond .eq 15, 3) := by decide +kernel
theorem dX8_send_8 : decode cX8_send 8 = .ok (.aload_n 0, 1) := by decide +kernel
theorem dX8_send_9 : decode cX8_send 9 = .ok (.iload_n 2, 1) := by decide +kernel
theorem dX8_send_10 : decode cX8_send 10 = .ok (.invokevirtual 85, 3) := by decide +kernel
theorem dX8_send_13 : decode cX8_send 13 = .ok (.ifCond .eq 7, 3) := by decide +kernel
theorem dX8_send_16 : decode cX8_send 16 = .ok (.iconst 1, 1) := by decide +kernel
theorem dX8_send_17 : decode cX8_send 17 = .ok (.goto 4, 3) := by decide +kernel
theorem dX8_send_20 : decode cX8_send 20 = .ok (.iconst 0, 1) := by decide +kernel
theorem dX8_send_21 : decode cX8_send 21 = .ok (.istore 5, 2) := by decide +kernel
theorem dX8_send_23 : decode cX8_send 23 = .ok (.iload_n 1, 1) := by decide +kernel
theorem dX8_send_24 : decode cX8_send 24 = .ok (.iload_n 2, 1) := by decide +kernel
theorem dX8_send_25 : decode cX8_send 25 = .ok (.if_icmp .eq 26, 3) := by decide +kernel
theorem dX8_send_28 : decode cX8_send 28 = .ok (.iload_n 3, 1) := by decide +kernel
theorem dX8_send_29 : decode cX8_send 29 = .ok (.iconst 0, 1) := by decide +kernel
theorem dX8_send_30 : decode cX8_send 30 = .ok (.iconst 1, 1) := by decide +kernel
theorem dX8_send_31 : decode cX8_send 31 = .ok (.invokestatic 89, 3) := by decide +kernel
theorem dX8_send_34 : decode cX8_send 34 = .ok (.ifCond .eq 17, 3) := by decide +kernel
theorem dX8_send_37 : decode cX8_send 37 = .ok (.iload 4, 2) := by decide +kernel
theorem dX8_send_39 : decode cX8_send 39 = .ok (.iconst 0, 1) := by decide +kernel
theorem dX8_send_40 : decode cX8_send 40 = .ok (.iconst 1, 1) := by decide +kernel
theorem dX8_send_41 : decode cX8_send 41 = .ok (.invokestatic 89, 3) := by decide +kernel
theorem dX8_send_44 : decode cX8_send 44 = .ok (.ifCond .eq 7, 3) := by decide +kernel
theorem dX8_send_47 : decode cX8_send 47 = .ok (.iconst 1, 1) := by decide +kernel
theorem dX8_send_48 : decode cX8_send 48 = .ok (.goto 4, 3) := by decide +kernel
theorem dX8_send_51 : decode cX8_send 51 = .ok (.iconst 0, 1) := by decide +kernel
theorem dX8_send_52 : decode cX8_send 52 = .ok (.istore 6, 2) := by decide +kernel
theorem dX8_send_54 : decode cX8_send 54 = .ok (.iload 5, 2) := by decide +kernel
theorem dX8_send_56 : decode cX8_send 56 = .ok (.ifCond .eq 68, 3) := by decide +kernel
theorem dX8_send_59 : decode cX8_send 59 = .ok (.iload 6, 2) := by decide +kernel
theorem dX8_send_61 : decode cX8_send 61 = .ok (.ifCond .eq 63, 3) := by decide +kernel
theorem dX8_send_64 : decode cX8_send 64 = .ok (.aload_n 0, 1) := by decide +kernel
theorem dX8_send_65 : decode cX8_send 65 = .ok (.getfield 82, 3) := by decide +kernel
theorem dX8_send_68 : decode cX8_send 68 = .ok (.bipush 80, 2) := by decide +kernel
theorem dX8_send_70 : decode cX8_send 70 = .ok (.if_icmp .ge 54, 3) := by decide +kernel
theorem dX8_send_73 : decode cX8_send 73 = .ok (.aload_n 0, 1) := by decide +kernel
theorem dX8_send_74 : decode cX8_send 74 = .ok (.getfield 23, 3) := by decide +kernel
theorem dX8_send_77 : decode cX8_send 77 = .ok (.iload_n 1, 1) := by decide +kernel
theorem dX8_send_78 : decode cX8_send 78 = .ok (.iconst 4, 1) := by decide +kernel
theorem dX8_send_79 : decode cX8_send 79 = .ok (.iload_n 3, 1) := by decide +kernel
theorem dX8_send_80 : decode cX8_send 80 = .ok (.invokestatic 110, 3) := by decide +kernel
theorem dX8_send_83 : decode cX8_send 83 = .ok (.iaload, 1) := by decide +kernel
theorem dX8_send_84 : decode cX8_send 84 = .ok (.aload_n 0, 1) := by decide +kernel
theorem dX8_send_85 : decode cX8_send 85 = .ok (.getfield 16, 3) := by decide +kernel
theorem dX8_send_88 : decode cX8_send 88 = .ok (.if_icmp .ge 36, 3) := by decide +kernel
theorem dX8_send_91 : decode cX8_send 91 = .ok (.aload_n 0, 1) := by decide +kernel
theorem dX8_send_92 : decode cX8_send 92 = .ok (.getfield 38, 3) := by decide +kernel
theorem dX8_send_95 : decode cX8_send 95 = .ok (.iload_n 1, 1) := by decide +kernel
theorem dX8_send_96 : decode cX8_send 96 = .ok (.iaload, 1) := by decide +kernel
theorem dX8_send_97 : decode cX8_send 97 = .ok (.ifCond .lt 23, 3) := by decide +kernel
theorem dX8_send_100 : decode cX8_send 100 = .ok (.aload_n 0, 1) := by decide +kernel
theorem dX8_send_101 : decode cX8_send 101 = .ok (.getfield 100, 3) := by decide +kernel
theorem dX8_send_104 : decode cX8_send 104 = .ok (.aload_n 0, 1) := by decide +kernel
theorem dX8_send_105 : decode cX8_send 105 = .ok (.getfield 38, 3) := by decide +kernel
theorem dX8_send_108 : decode cX8_send 108 = .ok (.iload_n 1, 1) := by decide +kernel
theorem dX8_send_109 : decode cX8_send 109 = .ok (.iaload, 1) := by decide +kernel
theorem dX8_send_110 : decode cX8_send 110 = .ok (.isub, 1) := by decide +kernel
theorem dX8_send_111 : decode cX8_send 111 = .ok (.aload_n 0, 1) := by decide +kernel
theorem dX8_send_112 : decode cX8_send 112 = .ok (.getfield 35, 3) := by decide +kernel
theorem dX8_send_115 : decode cX8_send 115 = .ok (.iload_n 1, 1) := by decide +kernel
theorem dX8_send_116 : decode cX8_send 116 = .ok (.iaload, 1) := by decide +kernel
theorem dX8_send_117 : decode cX8_send 117 = .ok (.if_icmp .lt 7, 3) := by decide +kernel
theorem dX8_send_120 : decode cX8_send 120 = .ok (.iconst 1, 1) := by decide +kernel
theorem dX8_send_121 : decode cX8_send 121 = .ok (.goto 4, 3) := by decide +kernel
theorem dX8_send_124 : decode cX8_send 124 = .ok (.iconst 0, 1) := by decide +kernel
theorem dX8_send_125 : decode cX8_send 125 = .ok (.istore 7, 2) := by decide +kernel
theorem dX8_send_127 : decode cX8_send 127 = .ok (.aload_n 0, 1) := by decide +kernel
theorem dX8_send_128 : decode cX8_send 128 = .ok (.iload 5, 2) := by decide +kernel
theorem dX8_send_130 : decode cX8_send 130 = .ok (.iload 6, 2) := by decide +kernel
theorem dX8_send_132 : decode cX8_send 132 = .ok (.iload 7, 2) := by decide +kernel
theorem dX8_send_134 : decode cX8_send 134 = .ok (.invokevirtual 106, 3) := by decide +kernel
theorem dX8_send_137 : decode cX8_send 137 = .ok (.ifCond .ne 5, 3) := by decide +kernel
theorem dX8_send_140 : decode cX8_send 140 = .ok (.iconst 0, 1) := by decide +kernel
theorem dX8_send_141 : decode cX8_send 141 = .ok (.ireturn, 1) := by decide +kernel
theorem dX8_send_142 : decode cX8_send 142 = .ok (.aload_n 0, 1) := by decide +kernel
theorem dX8_send_143 : decode cX8_send 143 = .ok (.getfield 48, 3) := by decide +kernel
theorem dX8_send_146 : decode cX8_send 146 = .ok (.aload_n 0, 1) := by decide +kernel
theorem dX8_send_147 : decode cX8_send 147 = .ok (.getfield 82, 3) := by decide +kernel
theorem dX8_send_150 : decode cX8_send 150 = .ok (.iload_n 1, 1) := by decide +kernel
theorem dX8_send_151 : decode cX8_send 151 = .ok (.iastore, 1) := by decide +kernel
theorem dX8_send_152 : decode cX8_send 152 = .ok (.aload_n 0, 1) := by decide +kernel
theorem dX8_send_153 : decode cX8_send 153 = .ok (.getfield 45, 3) := by decide +kernel
theorem dX8_send_156 : decode cX8_send 156 = .ok (.aload_n 0, 1) := by decide +kernel
theorem dX8_send_157 : decode cX8_send 157 = .ok (.getfield 82, 3) := by decide +kernel
theorem dX8_send_160 : decode cX8_send 160 = .ok (.iload_n 2, 1) := by decide +kernel
theorem dX8_send_161 : decode cX8_send 161 = .ok (.iastore, 1) := by decide +kernel
theorem dX8_send_162 : decode cX8_send 162 = .ok (.aload_n 0, 1) := by decide +kernel
theorem dX8_send_163 : decode cX8_send 163 = .ok (.getfield 51, 3) := by decide +kernel
theorem dX8_send_166 : decode cX8_send 166 = .ok (.aload_n 0, 1) := by decide +kernel
theorem dX8_send_167 : decode cX8_send 167 = .ok (.getfield 82, 3) := by decide +kernel
theorem dX8_send_170 : decode cX8_send 170 = .ok (.iload_n 3, 1) := by decide +kernel
theorem dX8_send_171 : decode cX8_send 171 = .ok (.iastore, 1) := by decide +kernel
theorem dX8_send_172 : decode cX8_send 172 = .ok (.aload_n 0, 1) := by decide +kernel
theorem dX8_send_173 : decode cX8_send 173 = .ok (.getfield 54, 3) := by decide +kernel
theorem dX8_send_176 : decode cX8_send 176 = .ok (.aload_n 0, 1) := by decide +kernel
theorem dX8_send_177 : decode cX8_send 177 = .ok (.getfield 82, 3) := by decide +kernel
theorem dX8_send_180 : decode cX8_send 180 = .ok (.iload 4, 2) := by decide +kernel
theorem dX8_send_182 : decode cX8_send 182 = .ok (.iastore, 1) := by decide +kernel
theorem dX8_send_183 : decode cX8_send 183 = .ok (.aload_n 0, 1) := by decide +kernel
theorem dX8_send_184 : decode cX8_send 184 = .ok (.getfield 57, 3) := by decide +kernel
theorem dX8_send_187 : decode cX8_send 187 = .ok (.aload_n 0, 1) := by decide +kernel
theorem dX8_send_188 : decode cX8_send 188 = .ok (.getfield 82, 3) := by decide +kernel
theorem dX8_send_191 : decode cX8_send 191 = .ok (.iload_n 1, 1) := by decide +kernel
theorem dX8_send_192 : decode cX8_send 192 = .ok (.iastore, 1) := by decide +kernel
theorem dX8_send_193 : decode cX8_send 193 = .ok (.aload_n 0, 1) := by decide +kernel
theorem dX8_send_194 : decode cX8_send 194 = .ok (.getfield 60, 3) := by decide +kernel
theorem dX8_send_197 : decode cX8_send 197 = .ok (.aload_n 0, 1) := by decide +kernel
theorem dX8_send_198 : decode cX8_send 198 = .ok (.getfield 82, 3) := by decide +kernel
theorem dX8_send_201 : decode cX8_send 201 = .ok (.iconst 0, 1) := by decide +kernel
theorem dX8_send_202 : decode cX8_send 202 = .ok (.iastore, 1) := by decide +kernel
theorem dX8_send_203 : decode cX8_send 203 = .ok (.aload_n 0, 1) := by decide +kernel
theorem dX8_send_204 : decode cX8_send 204 = .ok (.getfield 63, 3) := by decide +kernel
theorem dX8_send_207 : decode cX8_send 207 = .ok (.aload_n 0, 1) := by decide +kernel
theorem dX8_send_208 : decode cX8_send 208 = .ok (.getfield 82, 3) := by decide +kernel
theorem dX8_send_211 : decode cX8_send 211 = .ok (.iconst 0, 1) := by decide +kernel
theorem dX8_send_212 : decode cX8_send 212 = .ok (.bastore, 1) := by decide +kernel
theorem dX8_send_213 : decode cX8_send 213 = .ok (.aload_n 0, 1) := by decide +kernel
theorem dX8_send_214 : decode cX8_send 214 = .ok (.iload_n 1, 1) := by decide +kernel
theorem dX8_send_215 : decode cX8_send 215 = .ok (.iconst 4, 1) := by decide +kernel
theorem dX8_send_216 : decode cX8_send 216 = .ok (.iload_n 3, 1) := by decide +kernel
theorem dX8_send_217 : decode cX8_send 217 = .ok (.invokestatic 110, 3) := by decide +kernel
theorem dX8_send_220 : decode cX8_send 220 = .ok (.aload_n 0, 1) := by decide +kernel
theorem dX8_send_221 : decode cX8_send 221 = .ok (.getfield 82, 3) := by decide +kernel
theorem dX8_send_224 : decode cX8_send 224 = .ok (.invokevirtual 114, 3) := by decide +kernel
theorem dX8_send_227 : decode cX8_send 227 = .ok (.aload_n 0, 1) := by decide +kernel
theorem dX8_send_228 : decode cX8_send 228 = .ok (.getfield 38, 3) := by decide +kernel
theorem dX8_send_231 : decode cX8_send 231 = .ok (.iload_n 1, 1) := by decide +kernel
theorem dX8_send_232 : decode cX8_send 232 = .ok (.aload_n 0, 1) := by decide +kernel
theorem dX8_send_233 : decode cX8_send 233 = .ok (.getfield 100, 3) := by decide +kernel
theorem dX8_send_236 : decode cX8_send 236 = .ok (.iastore, 1) := by decide +kernel
theorem dX8_send_237 : decode cX8_send 237 = .ok (.aload_n 0, 1) := by decide +kernel
theorem dX8_send_238 : decode cX8_send 238 = .ok (.dup, 1) := by decide +kernel
theorem dX8_send_239 : decode cX8_send 239 = .ok (.getfield 82, 3) := by decide +kernel
theorem dX8_send_242 : decode cX8_send 242 = .ok (.iconst 1, 1) := by decide +kernel
theorem dX8_send_243 : decode cX8_send 243 = .ok (.iadd, 1) := by decide +kernel
theorem dX8_send_244 : decode cX8_send 244 = .ok (.putfield 82, 3) := by decide +kernel
theorem dX8_send_247 : decode cX8_send 247 = .ok (.aload_n 0, 1) := by decide +kernel
theorem dX8_send_248 : decode cX8_send 248 = .ok (.getfield 82, 3) := by decide +kernel
theorem dX8_send_251 : decode cX8_send 251 = .ok (.iconst 1, 1) := by decide +kernel
theorem dX8_send_252 : decode cX8_send 252 = .ok (.isub, 1) := by decide +kernel
theorem dX8_send_253 : decode cX8_send 253 = .ok (.ireturn, 1) := by decide +kernel
theorem dX8_wanted_0 : decode cX8_wanted 0 = .ok (.aload_n 0, 1) := by decide +kernel
theorem dX8_wanted_1 : decode cX8_wanted 1 = .ok (.getfield 45, 3) := by decide +kernel
theorem dX8_wanted_4 : decode cX8_wanted 4 = .ok (.iload_n 1, 1) := by decide +kernel
theorem dX8_wanted_5 : decode cX8_wanted 5 = .ok (.iaload, 1) := by decide +kernel
theorem dX8_wanted_6 : decode cX8_wanted 6 = .ok (.aload_n 0, 1) := by decide +kernel
theorem dX8_wanted_7 : decode cX8_wanted 7 = .ok (.getfield 7, 3) := by decide +kernel
theorem dX8_wanted_10 : decode cX8_wanted 10 = .ok (.irem, 1) := by decide +kernel
theorem dX8_wanted_11 : decode cX8_wanted 11 = .ok (.iload_n 2, 1) := by decide +kernel
theorem dX8_wanted_12 : decode cX8_wanted 12 = .ok (.aload_n 0, 1) := by decide +kernel
theorem dX8_wanted_13 : decode cX8_wanted 13 = .ok (.getfield 7, 3) := by decide +kernel
theorem dX8_wanted_16 : decode cX8_wanted 16 = .ok (.irem, 1) := by decide +kernel
theorem dX8_wanted_17 : decode cX8_wanted 17 = .ok (.isub, 1) := by decide +kernel
theorem dX8_wanted_18 : decode cX8_wanted 18 = .ok (.istore_n 3, 1) := by decide +kernel
theorem dX8_wanted_19 : decode cX8_wanted 19 = .ok (.aload_n 0, 1) := by decide +kernel
theorem dX8_wanted_20 : decode cX8_wanted 20 = .ok (.getfield 45, 3) := by decide +kernel
theorem dX8_wanted_23 : decode cX8_wanted 23 = .ok (.iload_n 1, 1) := by decide +kernel
theorem dX8_wanted_24 : decode cX8_wanted 24 = .ok (.iaload, 1) := by decide +kernel
theorem dX8_wanted_25 : decode cX8_wanted 25 = .ok (.aload_n 0, 1) := by decide +kernel
theorem dX8_wanted_26 : decode cX8_wanted 26 = .ok (.getfield 7, 3) := by decide +kernel
theorem dX8_wanted_29 : decode cX8_wanted 29 = .ok (.idiv, 1) := by decide +kernel
theorem dX8_wanted_30 : decode cX8_wanted 30 = .ok (.iload_n 2, 1) := by decide +kernel
theorem dX8_wanted_31 : decode cX8_wanted 31 = .ok (.aload_n 0, 1) := by decide +kernel
theorem dX8_wanted_32 : decode cX8_wanted 32 = .ok (.getfield 7, 3) := by decide +kernel
theorem dX8_wanted_35 : decode cX8_wanted 35 = .ok (.idiv, 1) := by decide +kernel
theorem dX8_wanted_36 : decode cX8_wanted 36 = .ok (.isub, 1) := by decide +kernel
theorem dX8_wanted_37 : decode cX8_wanted 37 = .ok (.istore 4, 2) := by decide +kernel
theorem dX8_wanted_39 : decode cX8_wanted 39 = .ok (.iload_n 3, 1) := by decide +kernel
theorem dX8_wanted_40 : decode cX8_wanted 40 = .ok (.ifCond .le 7, 3) := by decide +kernel
theorem dX8_wanted_43 : decode cX8_wanted 43 = .ok (.iconst 0, 1) := by decide +kernel
theorem dX8_wanted_44 : decode cX8_wanted 44 = .ok (.goto 12, 3) := by decide +kernel
theorem dX8_wanted_47 : decode cX8_wanted 47 = .ok (.iload_n 3, 1) := by decide +kernel
theorem dX8_wanted_48 : decode cX8_wanted 48 = .ok (.ifCond .ge 7, 3) := by decide +kernel
theorem dX8_wanted_51 : decode cX8_wanted 51 = .ok (.iconst 2, 1) := by decide +kernel
theorem dX8_wanted_52 : decode cX8_wanted 52 = .ok (.goto 4, 3) := by decide +kernel
theorem dX8_wanted_55 : decode cX8_wanted 55 = .ok (.iconst (-1), 1) := by decide +kernel
theorem dX8_wanted_56 : decode cX8_wanted 56 = .ok (.istore 5, 2) := by decide +kernel
theorem dX8_wanted_58 : decode cX8_wanted 58 = .ok (.iload 4, 2) := by decide +kernel
theorem dX8_wanted_60 : decode cX8_wanted 60 = .ok (.ifCond .le 7, 3) := by decide +kernel
theorem dX8_wanted_63 : decode cX8_wanted 63 = .ok (.iconst 1, 1) := by decide +kernel
theorem dX8_wanted_64 : decode cX8_wanted 64 = .ok (.goto 13, 3) := by decide +kernel
theorem dX8_wanted_67 : decode cX8_wanted 67 = .ok (.iload 4, 2) := by decide +kernel
theorem dX8_wanted_69 : decode cX8_wanted 69 = .ok (.ifCond .ge 7, 3) := by decide +kernel
theorem dX8_wanted_72 : decode cX8_wanted 72 = .ok (.iconst 3, 1) := by decide +kernel
theorem dX8_wanted_73 : decode cX8_wanted 73 = .ok (.goto 4, 3) := by decide +kernel
theorem dX8_wanted_76 : decode cX8_wanted 76 = .ok (.iconst (-1), 1) := by decide +kernel
theorem dX8_wanted_77 : decode cX8_wanted 77 = .ok (.istore 6, 2) := by decide +kernel
theorem dX8_wanted_79 : decode cX8_wanted 79 = .ok (.aload_n 0, 1) := by decide +kernel
theorem dX8_wanted_80 : decode cX8_wanted 80 = .ok (.getfield 54, 3) := by decide +kernel
theorem dX8_wanted_83 : decode cX8_wanted 83 = .ok (.iload_n 1, 1) := by decide +kernel
theorem dX8_wanted_84 : decode cX8_wanted 84 = .ok (.iaload, 1) := by decide +kernel
theorem dX8_wanted_85 : decode cX8_wanted 85 = .ok (.ifCond .ne 8, 3) := by decide +kernel
theorem dX8_wanted_88 : decode cX8_wanted 88 = .ok (.iload 5, 2) := by decide +kernel
theorem dX8_wanted_90 : decode cX8_wanted 90 = .ok (.goto 5, 3) := by decide +kernel
theorem dX8_wanted_93 : decode cX8_wanted 93 = .ok (.iload 6, 2) := by decide +kernel
theorem dX8_wanted_95 : decode cX8_wanted 95 = .ok (.istore 7, 2) := by decide +kernel
theorem dX8_wanted_97 : decode cX8_wanted 97 = .ok (.aload_n 0, 1) := by decide +kernel
theorem dX8_wanted_98 : decode cX8_wanted 98 = .ok (.getfield 54, 3) := by decide +kernel
theorem dX8_wanted_101 : decode cX8_wanted 101 = .ok (.iload_n 1, 1) := by decide +kernel
theorem dX8_wanted_102 : decode cX8_wanted 102 = .ok (.iaload, 1) := by decide +kernel
theorem dX8_wanted_103 : decode cX8_wanted 103 = .ok (.ifCond .ne 8, 3) := by decide +kernel
theorem dX8_wanted_106 : decode cX8_wanted 106 = .ok (.iload 6, 2) := by decide +kernel
theorem dX8_wanted_108 : decode cX8_wanted 108 = .ok (.goto 5, 3) := by decide +kernel
theorem dX8_wanted_111 : decode cX8_wanted 111 = .ok (.iload 5, 2) := by decide +kernel
theorem dX8_wanted_113 : decode cX8_wanted 113 = .ok (.istore 8, 2) := by decide +kernel
theorem dX8_wanted_115 : decode cX8_wanted 115 = .ok (.iload 7, 2) := by decide +kernel
theorem dX8_wanted_117 : decode cX8_wanted 117 = .ok (.ifCond .lt 8, 3) := by decide +kernel
theorem dX8_wanted_120 : decode cX8_wanted 120 = .ok (.iload 7, 2) := by decide +kernel
theorem dX8_wanted_122 : decode cX8_wanted 122 = .ok (.goto 14, 3) := by decide +kernel
theorem dX8_wanted_125 : decode cX8_wanted 125 = .ok (.iload 8, 2) := by decide +kernel
theorem dX8_wanted_127 : decode cX8_wanted 127 = .ok (.ifCond .lt 8, 3) := by decide +kernel
theorem dX8_wanted_130 : decode cX8_wanted 130 = .ok (.iload 8, 2) := by decide +kernel
theorem dX8_wanted_132 : decode cX8_wanted 132 = .ok (.goto 4, 3) := by decide +kernel
theorem dX8_wanted_135 : decode cX8_wanted 135 = .ok (.iconst 4, 1) := by decide +kernel
theorem dX8_wanted_136 : decode cX8_wanted 136 = .ok (.ireturn, 1) := by decide +kernel
set_option maxRecDepth 20000 in
theorem ggX8_canGo_X8_linkOf : GoodIn wsX8_canGo wsX8_linkOf := goodIn_r _ [6] (by decide +kernel) (by decide +kernel)
set_option maxRecDepth 20000 in
theorem gX8_canGo_X8_linkOf : GoodIn wsX8_canGo (va_wsS RX8 118 yX8_linkOf wsX8_linkOf) := goodIn_app (goodIn_of _ (by decide +kernel)) ggX8_canGo_X8_linkOf
set_option maxRecDepth 20000 in
theorem ggX8_canGo_X8_neighbour : GoodIn wsX8_canGo wsX8_neighbour := goodIn_r _ [10, 11, 12, 13, 14, 15, 16, 17, 18, 19, 20, 21, 22, 23, 24, 25, 26, 27, 28, 29, 30, 31, 32, 33, 34, 35, 36, 37, 38] (by decide +kernel) (by decide +kernel)
set_option maxRecDepth 20000 in
theorem gX8_canGo_X8_neighbour : GoodIn wsX8_canGo (wsV RX8 93 RX8 yX8_neighbour wsX8_neighbour) := goodIn_app (goodIn_of _ (by decide +kernel)) ggX8_canGo_X8_neighbour
theorem dX8_canGo_0 : decode cX8_canGo 0 = .ok (.iload_n 2, 1) := by decide +kernel
theorem dX8_canGo_1 : decode cX8_canGo 1 = .ok (.iconst 4, 1) := by decide +kernel
theorem dX8_canGo_2 : decode cX8_canGo 2 = .ok (.if_icmp .eq 31, 3) := by decide +kernel
theorem dX8_canGo_5 : decode cX8_canGo 5 = .ok (.aload_n 0, 1) := by decide +kernel
theorem dX8_canGo_6 : decode cX8_canGo 6 = .ok (.getfield 26, 3) := by decide +kernel
theorem dX8_canGo_9 : decode cX8_canGo 9 = .ok (.iload_n 1, 1) := by decide +kernel
theorem dX8_canGo_10 : decode cX8_canGo 10 = .ok (.iload_n 2, 1) := by decide +kernel
theorem dX8_canGo_11 : decode cX8_canGo 11 = .ok (.iload_n 3, 1) := by decide +kernel
theorem dX8_canGo_12 : decode cX8_canGo 12 = .ok (.invokestatic 118, 3) := by decide +kernel
theorem dX8_canGo_15 : decode cX8_canGo 15 = .ok (.iaload, 1) := by decide +kernel
theorem dX8_canGo_16 : decode cX8_canGo 16 = .ok (.ifCond .le 21, 3) := by decide +kernel
theorem dX8_canGo_19 : decode cX8_canGo 19 = .ok (.aload_n 0, 1) := by decide +kernel
theorem dX8_canGo_20 : decode cX8_canGo 20 = .ok (.getfield 41, 3) := by decide +kernel
theorem dX8_canGo_23 : decode cX8_canGo 23 = .ok (.aload_n 0, 1) := by decide +kernel
theorem dX8_canGo_24 : decode cX8_canGo 24 = .ok (.iload_n 1, 1) := by decide +kernel
theorem dX8_canGo_25 : decode cX8_canGo 25 = .ok (.iload_n 2, 1) := by decide +kernel
theorem dX8_canGo_26 : decode cX8_canGo 26 = .ok (.invokevirtual 93, 3) := by decide +kernel
theorem dX8_canGo_29 : decode cX8_canGo 29 = .ok (.baload, 1) := by decide +kernel
theorem dX8_canGo_30 : decode cX8_canGo 30 = .ok (.ifCond .ne 7, 3) := by decide +kernel
theorem dX8_canGo_33 : decode cX8_canGo 33 = .ok (.iconst 1, 1) := by decide +kernel
theorem dX8_canGo_34 : decode cX8_canGo 34 = .ok (.goto 4, 3) := by decide +kernel
theorem dX8_canGo_37 : decode cX8_canGo 37 = .ok (.iconst 0, 1) := by decide +kernel
theorem dX8_canGo_38 : decode cX8_canGo 38 = .ok (.ireturn, 1) := by decide +kernel
set_option maxRecDepth 20000 in
theorem ggX8_chooses_X8_wanted : GoodIn wsX8_chooses wsX8_wanted := goodIn_r _ [9, 10, 11, 12, 27, 28, 29, 30, 31, 32, 33, 34, 35, 36, 37, 38, 39, 40, 41, 42, 43, 44, 45, 46, 47, 48, 49, 50, 51, 52] (by decide +kernel) (by decide +kernel)
set_option maxRecDepth 20000 in
theorem gX8_chooses_X8_wanted : GoodIn wsX8_chooses (wsV RX8 121 RX8 yX8_wanted wsX8_wanted) := goodIn_app (goodIn_of _ (by decide +kernel)) ggX8_chooses_X8_wanted
set_option maxRecDepth 20000 in
theorem ggX8_chooses_X8_canGo : GoodIn wsX8_chooses wsX8_canGo := goodIn_r _ [16, 17, 18, 19, 20, 8, 21, 22, 23, 24, 25, 11, 26, 27, 28, 29, 30, 31, 32, 33, 34, 35, 36, 37, 38, 39, 40, 41, 42, 43, 44, 45, 46, 47, 48, 49, 50, 51, 52] (by decide +kernel) (by decide +kernel)
set_option maxRecDepth 20000 in
theorem gX8_chooses_X8_canGo : GoodIn wsX8_chooses (wsV RX8 124 RX8 yX8_canGo wsX8_canGo) := goodIn_app (goodIn_of _ (by decide +kernel)) ggX8_chooses_X8_canGo
theorem dX8_chooses_0 : decode cX8_chooses 0 = .ok (.iload_n 1, 1) := by decide +kernel
theorem dX8_chooses_1 : decode cX8_chooses 1 = .ok (.iconst 5, 1) := by decide +kernel
theorem dX8_chooses_2 : decode cX8_chooses 2 = .ok (.imul, 1) := by decide +kernel
theorem dX8_chooses_3 : decode cX8_chooses 3 = .ok (.iload_n 2, 1) := by decide +kernel
theorem dX8_chooses_4 : decode cX8_chooses 4 = .ok (.iadd, 1) := by decide +kernel
theorem dX8_chooses_5 : decode cX8_chooses 5 = .ok (.istore_n 3, 1) := by decide +kernel
theorem dX8_chooses_6 : decode cX8_chooses 6 = .ok (.aload_n 0, 1) := by decide +kernel
theorem dX8_chooses_7 : decode cX8_chooses 7 = .ok (.getfield 66, 3) := by decide +kernel
theorem dX8_chooses_10 : decode cX8_chooses 10 = .ok (.iload_n 3, 1) := by decide +kernel
theorem dX8_chooses_11 : decode cX8_chooses 11 = .ok (.iconst (-1), 1) := by decide +kernel
theorem dX8_chooses_12 : decode cX8_chooses 12 = .ok (.iastore, 1) := by decide +kernel
theorem dX8_chooses_13 : decode cX8_chooses 13 = .ok (.iconst 0, 1) := by decide +kernel
theorem dX8_chooses_14 : decode cX8_chooses 14 = .ok (.istore 4, 2) := by decide +kernel
theorem dX8_chooses_16 : decode cX8_chooses 16 = .ok (.iload 4, 2) := by decide +kernel
theorem dX8_chooses_18 : decode cX8_chooses 18 = .ok (.bipush 10, 2) := by decide +kernel
theorem dX8_chooses_20 : decode cX8_chooses 20 = .ok (.if_icmp .ge 106, 3) := by decide +kernel
theorem dX8_chooses_23 : decode cX8_chooses 23 = .ok (.aload_n 0, 1) := by decide +kernel
theorem dX8_chooses_24 : decode cX8_chooses 24 = .ok (.getfield 66, 3) := by decide +kernel
theorem dX8_chooses_27 : decode cX8_chooses 27 = .ok (.iload_n 3, 1) := by decide +kernel
theorem dX8_chooses_28 : decode cX8_chooses 28 = .ok (.iaload, 1) := by decide +kernel
theorem dX8_chooses_29 : decode cX8_chooses 29 = .ok (.ifCond .ge 97, 3) := by decide +kernel
theorem dX8_chooses_32 : decode cX8_chooses 32 = .ok (.aload_n 0, 1) := by decide +kernel
theorem dX8_chooses_33 : decode cX8_chooses 33 = .ok (.getfield 32, 3) := by decide +kernel
theorem dX8_chooses_36 : decode cX8_chooses 36 = .ok (.iload_n 3, 1) := by decide +kernel
theorem dX8_chooses_37 : decode cX8_chooses 37 = .ok (.iaload, 1) := by decide +kernel
theorem dX8_chooses_38 : decode cX8_chooses 38 = .ok (.iload 4, 2) := by decide +kernel
theorem dX8_chooses_40 : decode cX8_chooses 40 = .ok (.iadd, 1) := by decide +kernel
theorem dX8_chooses_41 : decode cX8_chooses 41 = .ok (.bipush 10, 2) := by decide +kernel
theorem dX8_chooses_43 : decode cX8_chooses 43 = .ok (.irem, 1) := by decide +kernel
theorem dX8_chooses_44 : decode cX8_chooses 44 = .ok (.istore 5, 2) := by decide +kernel
theorem dX8_chooses_46 : decode cX8_chooses 46 = .ok (.iload_n 1, 1) := by decide +kernel
theorem dX8_chooses_47 : decode cX8_chooses 47 = .ok (.bipush 10, 2) := by decide +kernel
theorem dX8_chooses_49 : decode cX8_chooses 49 = .ok (.imul, 1) := by decide +kernel
theorem dX8_chooses_50 : decode cX8_chooses 50 = .ok (.iload 5, 2) := by decide +kernel
theorem dX8_chooses_52 : decode cX8_chooses 52 = .ok (.iadd, 1) := by decide +kernel
theorem dX8_chooses_53 : decode cX8_chooses 53 = .ok (.istore 6, 2) := by decide +kernel
theorem dX8_chooses_55 : decode cX8_chooses 55 = .ok (.aload_n 0, 1) := by decide +kernel
theorem dX8_chooses_56 : decode cX8_chooses 56 = .ok (.getfield 23, 3) := by decide +kernel
theorem dX8_chooses_59 : decode cX8_chooses 59 = .ok (.iload 6, 2) := by decide +kernel
theorem dX8_chooses_61 : decode cX8_chooses 61 = .ok (.iaload, 1) := by decide +kernel
theorem dX8_chooses_62 : decode cX8_chooses 62 = .ok (.ifCond .le 38, 3) := by decide +kernel
theorem dX8_chooses_65 : decode cX8_chooses 65 = .ok (.aload_n 0, 1) := by decide +kernel
theorem dX8_chooses_66 : decode cX8_chooses 66 = .ok (.aload_n 0, 1) := by decide +kernel
theorem dX8_chooses_67 : decode cX8_chooses 67 = .ok (.getfield 19, 3) := by decide +kernel
theorem dX8_chooses_70 : decode cX8_chooses 70 = .ok (.iconst 3, 1) := by decide +kernel
theorem dX8_chooses_71 : decode cX8_chooses 71 = .ok (.iload 6, 2) := by decide +kernel
theorem dX8_chooses_73 : decode cX8_chooses 73 = .ok (.imul, 1) := by decide +kernel
theorem dX8_chooses_74 : decode cX8_chooses 74 = .ok (.iaload, 1) := by decide +kernel
theorem dX8_chooses_75 : decode cX8_chooses 75 = .ok (.iload_n 1, 1) := by decide +kernel
theorem dX8_chooses_76 : decode cX8_chooses 76 = .ok (.invokevirtual 121, 3) := by decide +kernel
theorem dX8_chooses_79 : decode cX8_chooses 79 = .ok (.iload_n 2, 1) := by decide +kernel
theorem dX8_chooses_80 : decode cX8_chooses 80 = .ok (.if_icmp .ne 20, 3) := by decide +kernel
theorem dX8_chooses_83 : decode cX8_chooses 83 = .ok (.aload_n 0, 1) := by decide +kernel
theorem dX8_chooses_84 : decode cX8_chooses 84 = .ok (.iload_n 1, 1) := by decide +kernel
theorem dX8_chooses_85 : decode cX8_chooses 85 = .ok (.iload_n 2, 1) := by decide +kernel
theorem dX8_chooses_86 : decode cX8_chooses 86 = .ok (.iload 5, 2) := by decide +kernel
theorem dX8_chooses_88 : decode cX8_chooses 88 = .ok (.iconst 2, 1) := by decide +kernel
theorem dX8_chooses_89 : decode cX8_chooses 89 = .ok (.irem, 1) := by decide +kernel
theorem dX8_chooses_90 : decode cX8_chooses 90 = .ok (.invokevirtual 124, 3) := by decide +kernel
theorem dX8_chooses_93 : decode cX8_chooses 93 = .ok (.ifCond .eq 7, 3) := by decide +kernel
theorem dX8_chooses_96 : decode cX8_chooses 96 = .ok (.iconst 1, 1) := by decide +kernel
theorem dX8_chooses_97 : decode cX8_chooses 97 = .ok (.goto 4, 3) := by decide +kernel
theorem dX8_chooses_100 : decode cX8_chooses 100 = .ok (.iconst 0, 1) := by decide +kernel
theorem dX8_chooses_101 : decode cX8_chooses 101 = .ok (.istore 7, 2) := by decide +kernel
theorem dX8_chooses_103 : decode cX8_chooses 103 = .ok (.aload_n 0, 1) := by decide +kernel
theorem dX8_chooses_104 : decode cX8_chooses 104 = .ok (.getfield 66, 3) := by decide +kernel
theorem dX8_chooses_107 : decode cX8_chooses 107 = .ok (.iload_n 3, 1) := by decide +kernel
theorem dX8_chooses_108 : decode cX8_chooses 108 = .ok (.iload 7, 2) := by decide +kernel
theorem dX8_chooses_110 : decode cX8_chooses 110 = .ok (.ifCond .eq 8, 3) := by decide +kernel
theorem dX8_chooses_113 : decode cX8_chooses 113 = .ok (.iload 5, 2) := by decide +kernel
theorem dX8_chooses_115 : decode cX8_chooses 115 = .ok (.goto 4, 3) := by decide +kernel
theorem dX8_chooses_118 : decode cX8_chooses 118 = .ok (.iconst (-1), 1) := by decide +kernel
theorem dX8_chooses_119 : decode cX8_chooses 119 = .ok (.iastore, 1) := by decide +kernel
theorem dX8_chooses_120 : decode cX8_chooses 120 = .ok (.iinc 4 1, 3) := by decide +kernel
theorem dX8_chooses_123 : decode cX8_chooses 123 = .ok (.goto (-107), 3) := by decide +kernel
theorem dX8_chooses_126 : decode cX8_chooses 126 = .ok (.return_, 1) := by decide +kernel
theorem dX8_inSwitch_0 : decode cX8_inSwitch 0 = .ok (.iconst 0, 1) := by decide +kernel
theorem dX8_inSwitch_1 : decode cX8_inSwitch 1 = .ok (.istore_n 2, 1) := by decide +kernel
theorem dX8_inSwitch_2 : decode cX8_inSwitch 2 = .ok (.iconst 0, 1) := by decide +kernel
theorem dX8_inSwitch_3 : decode cX8_inSwitch 3 = .ok (.istore_n 3, 1) := by decide +kernel
theorem dX8_inSwitch_4 : decode cX8_inSwitch 4 = .ok (.iload_n 3, 1) := by decide +kernel
theorem dX8_inSwitch_5 : decode cX8_inSwitch 5 = .ok (.bipush 10, 2) := by decide +kernel
theorem dX8_inSwitch_7 : decode cX8_inSwitch 7 = .ok (.if_icmp .ge 23, 3) := by decide +kernel
theorem dX8_inSwitch_10 : decode cX8_inSwitch 10 = .ok (.iload_n 2, 1) := by decide +kernel
theorem dX8_inSwitch_11 : decode cX8_inSwitch 11 = .ok (.aload_n 0, 1) := by decide +kernel
theorem dX8_inSwitch_12 : decode cX8_inSwitch 12 = .ok (.getfield 23, 3) := by decide +kernel
theorem dX8_inSwitch_15 : decode cX8_inSwitch 15 = .ok (.iload_n 1, 1) := by decide +kernel
theorem dX8_inSwitch_16 : decode cX8_inSwitch 16 = .ok (.bipush 10, 2) := by decide +kernel
theorem dX8_inSwitch_18 : decode cX8_inSwitch 18 = .ok (.imul, 1) := by decide +kernel
theorem dX8_inSwitch_19 : decode cX8_inSwitch 19 = .ok (.iload_n 3, 1) := by decide +kernel
theorem dX8_inSwitch_20 : decode cX8_inSwitch 20 = .ok (.iadd, 1) := by decide +kernel
theorem dX8_inSwitch_21 : decode cX8_inSwitch 21 = .ok (.iaload, 1) := by decide +kernel
theorem dX8_inSwitch_22 : decode cX8_inSwitch 22 = .ok (.iadd, 1) := by decide +kernel
theorem dX8_inSwitch_23 : decode cX8_inSwitch 23 = .ok (.istore_n 2, 1) := by decide +kernel
theorem dX8_inSwitch_24 : decode cX8_inSwitch 24 = .ok (.iinc 3 1, 3) := by decide +kernel
theorem dX8_inSwitch_27 : decode cX8_inSwitch 27 = .ok (.goto (-23), 3) := by decide +kernel
theorem dX8_inSwitch_30 : decode cX8_inSwitch 30 = .ok (.iload_n 2, 1) := by decide +kernel
theorem dX8_inSwitch_31 : decode cX8_inSwitch 31 = .ok (.ireturn, 1) := by decide +kernel
theorem dX8_comeBack_0 : decode cX8_comeBack 0 = .ok (.iconst 0, 1) := by decide +kernel
theorem dX8_comeBack_1 : decode cX8_comeBack 1 = .ok (.istore_n 1, 1) := by decide +kernel
theorem dX8_comeBack_2 : decode cX8_comeBack 2 = .ok (.iload_n 1, 1) := by decide +kernel
theorem dX8_comeBack_3 : decode cX8_comeBack 3 = .ok (.sipush 128, 3) := by decide +kernel
theorem dX8_comeBack_6 : decode cX8_comeBack 6 = .ok (.if_icmp .ge 49, 3) := by decide +kernel
theorem dX8_comeBack_9 : decode cX8_comeBack 9 = .ok (.aload_n 0, 1) := by decide +kernel
theorem dX8_comeBack_10 : decode cX8_comeBack 10 = .ok (.getfield 26, 3) := by decide +kernel
theorem dX8_comeBack_13 : decode cX8_comeBack 13 = .ok (.iload_n 1, 1) := by decide +kernel
theorem dX8_comeBack_14 : decode cX8_comeBack 14 = .ok (.dup2, 1) := by decide +kernel
theorem dX8_comeBack_15 : decode cX8_comeBack 15 = .ok (.iaload, 1) := by decide +kernel
theorem dX8_comeBack_16 : decode cX8_comeBack 16 = .ok (.aload_n 0, 1) := by decide +kernel
theorem dX8_comeBack_17 : decode cX8_comeBack 17 = .ok (.getfield 29, 3) := by decide +kernel
theorem dX8_comeBack_20 : decode cX8_comeBack 20 = .ok (.iconst 5, 1) := by decide +kernel
theorem dX8_comeBack_21 : decode cX8_comeBack 21 = .ok (.iload_n 1, 1) := by decide +kernel
theorem dX8_comeBack_22 : decode cX8_comeBack 22 = .ok (.imul, 1) := by decide +kernel
theorem dX8_comeBack_23 : decode cX8_comeBack 23 = .ok (.aload_n 0, 1) := by decide +kernel
theorem dX8_comeBack_24 : decode cX8_comeBack 24 = .ok (.getfield 100, 3) := by decide +kernel
theorem dX8_comeBack_27 : decode cX8_comeBack 27 = .ok (.iconst 5, 1) := by decide +kernel
theorem dX8_comeBack_28 : decode cX8_comeBack 28 = .ok (.irem, 1) := by decide +kernel
theorem dX8_comeBack_29 : decode cX8_comeBack 29 = .ok (.iadd, 1) := by decide +kernel
theorem dX8_comeBack_30 : decode cX8_comeBack 30 = .ok (.iaload, 1) := by decide +kernel
theorem dX8_comeBack_31 : decode cX8_comeBack 31 = .ok (.iadd, 1) := by decide +kernel
theorem dX8_comeBack_32 : decode cX8_comeBack 32 = .ok (.iastore, 1) := by decide +kernel
theorem dX8_comeBack_33 : decode cX8_comeBack 33 = .ok (.aload_n 0, 1) := by decide +kernel
theorem dX8_comeBack_34 : decode cX8_comeBack 34 = .ok (.getfield 29, 3) := by decide +kernel
theorem dX8_comeBack_37 : decode cX8_comeBack 37 = .ok (.iconst 5, 1) := by decide +kernel
theorem dX8_comeBack_38 : decode cX8_comeBack 38 = .ok (.iload_n 1, 1) := by decide +kernel
theorem dX8_comeBack_39 : decode cX8_comeBack 39 = .ok (.imul, 1) := by decide +kernel
theorem dX8_comeBack_40 : decode cX8_comeBack 40 = .ok (.aload_n 0, 1) := by decide +kernel
theorem dX8_comeBack_41 : decode cX8_comeBack 41 = .ok (.getfield 100, 3) := by decide +kernel
theorem dX8_comeBack_44 : decode cX8_comeBack 44 = .ok (.iconst 5, 1) := by decide +kernel
theorem dX8_comeBack_45 : decode cX8_comeBack 45 = .ok (.irem, 1) := by decide +kernel
theorem dX8_comeBack_46 : decode cX8_comeBack 46 = .ok (.iadd, 1) := by decide +kernel
theorem dX8_comeBack_47 : decode cX8_comeBack 47 = .ok (.iconst 0, 1) := by decide +kernel
theorem dX8_comeBack_48 : decode cX8_comeBack 48 = .ok (.iastore, 1) := by decide +kernel
theorem dX8_comeBack_49 : decode cX8_comeBack 49 = .ok (.iinc 1 1, 3) := by decide +kernel
theorem dX8_comeBack_52 : decode cX8_comeBack 52 = .ok (.goto (-50), 3) := by decide +kernel
theorem dX8_comeBack_55 : decode cX8_comeBack 55 = .ok (.return_, 1) := by decide +kernel
set_option maxRecDepth 20000 in
theorem ggX8_leaves_X8_takes : GoodIn wsX8_leaves wsX8_takes := goodIn_r _ [11, 12, 13, 23, 24, 25, 26, 27, 28, 29, 30, 31, 32, 33, 34, 35, 36, 37, 38, 39, 40, 41, 42, 43, 44, 45, 46, 47, 48] (by decide +kernel) (by decide +kernel)
set_option maxRecDepth 20000 in
theorem gX8_leaves_X8_takes : GoodIn wsX8_leaves (wsV RX8 127 RX8 yX8_takes wsX8_takes) := goodIn_app (goodIn_of _ (by decide +kernel)) ggX8_leaves_X8_takes
set_option maxRecDepth 20000 in
theorem ggX8_leaves_X8_neighbour : GoodIn wsX8_leaves wsX8_neighbour := goodIn_r _ [17, 18, 19, 23, 24, 25, 26, 27, 28, 29, 30, 31, 32, 33, 34, 35, 36, 37, 38, 39, 40, 41, 42, 43, 44, 45, 46, 47, 48] (by decide +kernel) (by decide +kernel)
set_option maxRecDepth 20000 in
theorem gX8_leaves_X8_neighbour : GoodIn wsX8_leaves (wsV RX8 93 RX8 yX8_neighbour wsX8_neighbour) := goodIn_app (goodIn_of _ (by decide +kernel)) ggX8_leaves_X8_neighbour
set_option maxRecDepth 20000 in
theorem ggX8_leaves_X8_linkOf : GoodIn wsX8_leaves wsX8_linkOf := goodIn_r _ [22] (by decide +kernel) (by decide +kernel)
set_option maxRecDepth 20000 in
theorem gX8_leaves_X8_linkOf : GoodIn wsX8_leaves (va_wsS RX8 118 yX8_linkOf wsX8_linkOf) := goodIn_app (goodIn_of _ (by decide +kernel)) ggX8_leaves_X8_linkOf
theorem dX8_leaves_0 : decode cX8_leaves 0 = .ok (.iload_n 1, 1) := by decide +kernel
theorem dX8_leaves_1 : decode cX8_leaves 1 = .ok (.iconst 5, 1) := by decide +kernel
theorem dX8_leaves_2 : decode cX8_leaves 2 = .ok (.imul, 1) := by decide +kernel
theorem dX8_leaves_3 : decode cX8_leaves 3 = .ok (.iload_n 2, 1) := by decide +kernel
theorem dX8_leaves_4 : decode cX8_leaves 4 = .ok (.iadd, 1) := by decide +kernel
theorem dX8_leaves_5 : decode cX8_leaves 5 = .ok (.istore_n 3, 1) := by decide +kernel
theorem dX8_leaves_6 : decode cX8_leaves 6 = .ok (.aload_n 0, 1) := by decide +kernel
theorem dX8_leaves_7 : decode cX8_leaves 7 = .ok (.getfield 66, 3) := by decide +kernel
theorem dX8_leaves_10 : decode cX8_leaves 10 = .ok (.iload_n 3, 1) := by decide +kernel
theorem dX8_leaves_11 : decode cX8_leaves 11 = .ok (.iaload, 1) := by decide +kernel
theorem dX8_leaves_12 : decode cX8_leaves 12 = .ok (.istore 4, 2) := by decide +kernel
theorem dX8_leaves_14 : decode cX8_leaves 14 = .ok (.aload_n 0, 1) := by decide +kernel
theorem dX8_leaves_15 : decode cX8_leaves 15 = .ok (.getfield 32, 3) := by decide +kernel
theorem dX8_leaves_18 : decode cX8_leaves 18 = .ok (.iload_n 3, 1) := by decide +kernel
theorem dX8_leaves_19 : decode cX8_leaves 19 = .ok (.iload 4, 2) := by decide +kernel
theorem dX8_leaves_21 : decode cX8_leaves 21 = .ok (.iconst 1, 1) := by decide +kernel
theorem dX8_leaves_22 : decode cX8_leaves 22 = .ok (.iadd, 1) := by decide +kernel
theorem dX8_leaves_23 : decode cX8_leaves 23 = .ok (.bipush 10, 2) := by decide +kernel
theorem dX8_leaves_25 : decode cX8_leaves 25 = .ok (.irem, 1) := by decide +kernel
theorem dX8_leaves_26 : decode cX8_leaves 26 = .ok (.iastore, 1) := by decide +kernel
theorem dX8_leaves_27 : decode cX8_leaves 27 = .ok (.iload 4, 2) := by decide +kernel
theorem dX8_leaves_29 : decode cX8_leaves 29 = .ok (.iconst 2, 1) := by decide +kernel
theorem dX8_leaves_30 : decode cX8_leaves 30 = .ok (.idiv, 1) := by decide +kernel
theorem dX8_leaves_31 : decode cX8_leaves 31 = .ok (.istore 5, 2) := by decide +kernel
theorem dX8_leaves_33 : decode cX8_leaves 33 = .ok (.iload 4, 2) := by decide +kernel
theorem dX8_leaves_35 : decode cX8_leaves 35 = .ok (.iconst 2, 1) := by decide +kernel
theorem dX8_leaves_36 : decode cX8_leaves 36 = .ok (.irem, 1) := by decide +kernel
theorem dX8_leaves_37 : decode cX8_leaves 37 = .ok (.istore 6, 2) := by decide +kernel
theorem dX8_leaves_39 : decode cX8_leaves 39 = .ok (.aload_n 0, 1) := by decide +kernel
theorem dX8_leaves_40 : decode cX8_leaves 40 = .ok (.getfield 66, 3) := by decide +kernel
theorem dX8_leaves_43 : decode cX8_leaves 43 = .ok (.iload_n 3, 1) := by decide +kernel
theorem dX8_leaves_44 : decode cX8_leaves 44 = .ok (.aload_n 0, 1) := by decide +kernel
theorem dX8_leaves_45 : decode cX8_leaves 45 = .ok (.iload_n 1, 1) := by decide +kernel
theorem dX8_leaves_46 : decode cX8_leaves 46 = .ok (.bipush 10, 2) := by decide +kernel
theorem dX8_leaves_48 : decode cX8_leaves 48 = .ok (.imul, 1) := by decide +kernel
theorem dX8_leaves_49 : decode cX8_leaves 49 = .ok (.iload 4, 2) := by decide +kernel
theorem dX8_leaves_51 : decode cX8_leaves 51 = .ok (.iadd, 1) := by decide +kernel
theorem dX8_leaves_52 : decode cX8_leaves 52 = .ok (.invokevirtual 127, 3) := by decide +kernel
theorem dX8_leaves_55 : decode cX8_leaves 55 = .ok (.iastore, 1) := by decide +kernel
theorem dX8_leaves_56 : decode cX8_leaves 56 = .ok (.iload 5, 2) := by decide +kernel
theorem dX8_leaves_58 : decode cX8_leaves 58 = .ok (.iconst 4, 1) := by decide +kernel
theorem dX8_leaves_59 : decode cX8_leaves 59 = .ok (.if_icmp .ge 50, 3) := by decide +kernel
theorem dX8_leaves_62 : decode cX8_leaves 62 = .ok (.aload_n 0, 1) := by decide +kernel
theorem dX8_leaves_63 : decode cX8_leaves 63 = .ok (.iload_n 1, 1) := by decide +kernel
theorem dX8_leaves_64 : decode cX8_leaves 64 = .ok (.iload 5, 2) := by decide +kernel
theorem dX8_leaves_66 : decode cX8_leaves 66 = .ok (.iconst 2, 1) := by decide +kernel
theorem dX8_leaves_67 : decode cX8_leaves 67 = .ok (.iadd, 1) := by decide +kernel
theorem dX8_leaves_68 : decode cX8_leaves 68 = .ok (.iconst 4, 1) := by decide +kernel
theorem dX8_leaves_69 : decode cX8_leaves 69 = .ok (.irem, 1) := by decide +kernel
theorem dX8_leaves_70 : decode cX8_leaves 70 = .ok (.invokevirtual 93, 3) := by decide +kernel
theorem dX8_leaves_73 : decode cX8_leaves 73 = .ok (.istore 7, 2) := by decide +kernel
theorem dX8_leaves_75 : decode cX8_leaves 75 = .ok (.aload_n 0, 1) := by decide +kernel
theorem dX8_leaves_76 : decode cX8_leaves 76 = .ok (.getfield 29, 3) := by decide +kernel
theorem dX8_leaves_79 : decode cX8_leaves 79 = .ok (.iconst 5, 1) := by decide +kernel
theorem dX8_leaves_80 : decode cX8_leaves 80 = .ok (.iload 7, 2) := by decide +kernel
theorem dX8_leaves_82 : decode cX8_leaves 82 = .ok (.iload 5, 2) := by decide +kernel
theorem dX8_leaves_84 : decode cX8_leaves 84 = .ok (.iload 6, 2) := by decide +kernel
theorem dX8_leaves_86 : decode cX8_leaves 86 = .ok (.invokestatic 118, 3) := by decide +kernel
theorem dX8_leaves_89 : decode cX8_leaves 89 = .ok (.imul, 1) := by decide +kernel
theorem dX8_leaves_90 : decode cX8_leaves 90 = .ok (.aload_n 0, 1) := by decide +kernel
theorem dX8_leaves_91 : decode cX8_leaves 91 = .ok (.getfield 100, 3) := by decide +kernel
theorem dX8_leaves_94 : decode cX8_leaves 94 = .ok (.iconst 1, 1) := by decide +kernel
theorem dX8_leaves_95 : decode cX8_leaves 95 = .ok (.iadd, 1) := by decide +kernel
theorem dX8_leaves_96 : decode cX8_leaves 96 = .ok (.aload_n 0, 1) := by decide +kernel
theorem dX8_leaves_97 : decode cX8_leaves 97 = .ok (.getfield 97, 3) := by decide +kernel
theorem dX8_leaves_100 : decode cX8_leaves 100 = .ok (.iadd, 1) := by decide +kernel
theorem dX8_leaves_101 : decode cX8_leaves 101 = .ok (.iconst 5, 1) := by decide +kernel
theorem dX8_leaves_102 : decode cX8_leaves 102 = .ok (.irem, 1) := by decide +kernel
theorem dX8_leaves_103 : decode cX8_leaves 103 = .ok (.iadd, 1) := by decide +kernel
theorem dX8_leaves_104 : decode cX8_leaves 104 = .ok (.dup2, 1) := by decide +kernel
theorem dX8_leaves_105 : decode cX8_leaves 105 = .ok (.iaload, 1) := by decide +kernel
theorem dX8_leaves_106 : decode cX8_leaves 106 = .ok (.iconst 1, 1) := by decide +kernel
theorem dX8_leaves_107 : decode cX8_leaves 107 = .ok (.iadd, 1) := by decide +kernel
theorem dX8_leaves_108 : decode cX8_leaves 108 = .ok (.iastore, 1) := by decide +kernel
theorem dX8_leaves_109 : decode cX8_leaves 109 = .ok (.iload_n 2, 1) := by decide +kernel
theorem dX8_leaves_110 : decode cX8_leaves 110 = .ok (.iconst 4, 1) := by decide +kernel
theorem dX8_leaves_111 : decode cX8_leaves 111 = .ok (.if_icmp .ge 19, 3) := by decide +kernel
theorem dX8_leaves_114 : decode cX8_leaves 114 = .ok (.aload_n 0, 1) := by decide +kernel
theorem dX8_leaves_115 : decode cX8_leaves 115 = .ok (.getfield 26, 3) := by decide +kernel
theorem dX8_leaves_118 : decode cX8_leaves 118 = .ok (.iload_n 1, 1) := by decide +kernel
theorem dX8_leaves_119 : decode cX8_leaves 119 = .ok (.iload_n 2, 1) := by decide +kernel
theorem dX8_leaves_120 : decode cX8_leaves 120 = .ok (.iload 6, 2) := by decide +kernel
theorem dX8_leaves_122 : decode cX8_leaves 122 = .ok (.invokestatic 118, 3) := by decide +kernel
theorem dX8_leaves_125 : decode cX8_leaves 125 = .ok (.dup2, 1) := by decide +kernel
theorem dX8_leaves_126 : decode cX8_leaves 126 = .ok (.iaload, 1) := by decide +kernel
theorem dX8_leaves_127 : decode cX8_leaves 127 = .ok (.iconst 1, 1) := by decide +kernel
theorem dX8_leaves_128 : decode cX8_leaves 128 = .ok (.isub, 1) := by decide +kernel
theorem dX8_leaves_129 : decode cX8_leaves 129 = .ok (.iastore, 1) := by decide +kernel
theorem dX8_leaves_130 : decode cX8_leaves 130 = .ok (.return_, 1) := by decide +kernel
set_option maxRecDepth 20000 in
theorem ggX8_ticks_X8_comeBack : GoodIn wsX8_ticks wsX8_comeBack := goodIn_r _ [15, 16, 17, 10, 63, 64, 65, 66, 67, 68, 69, 70, 71, 72, 73, 74, 75, 76, 77, 78, 79, 80, 81, 82, 83, 84, 85, 86, 87, 88] (by decide +kernel) (by decide +kernel)
set_option maxRecDepth 20000 in
theorem gX8_ticks_X8_comeBack : GoodIn wsX8_ticks (wsV RX8 131 RX8 yX8_comeBack wsX8_comeBack) := goodIn_app (goodIn_of _ (by decide +kernel)) ggX8_ticks_X8_comeBack
set_option maxRecDepth 20000 in
theorem ggX8_ticks_X8_neighbour : GoodIn wsX8_ticks wsX8_neighbour := goodIn_r _ [21, 1, 2, 63, 64, 65, 66, 67, 68, 69, 70, 71, 72, 73, 74, 75, 76, 77, 78, 79, 80, 81, 82, 83, 84, 85, 86, 87, 88] (by decide +kernel) (by decide +kernel)
set_option maxRecDepth 20000 in
theorem gX8_ticks_X8_neighbour : GoodIn wsX8_ticks (wsV RX8 93 RX8 yX8_neighbour wsX8_neighbour) := goodIn_app (goodIn_of _ (by decide +kernel)) ggX8_ticks_X8_neighbour
set_option maxRecDepth 20000 in
theorem ggX8_ticks_X8_chooses : GoodIn wsX8_ticks wsX8_chooses := goodIn_r _ [25, 3, 26, 27, 28, 29, 30, 31, 14, 32, 33, 1, 34, 35, 36, 37, 38, 16, 39, 40, 41, 42, 18, 19, 20, 21, 2, 63, 64, 65, 66, 67, 68, 69, 70, 71, 72, 73, 74, 75, 76, 77, 78, 79, 80, 81, 82, 83, 84, 85, 86, 87, 88] (by decide +kernel) (by decide +kernel)
set_option maxRecDepth 20000 in
theorem gX8_ticks_X8_chooses : GoodIn wsX8_ticks (wsV RX8 134 RX8 yX8_chooses wsX8_chooses) := goodIn_app (goodIn_of _ (by decide +kernel)) ggX8_ticks_X8_chooses
set_option maxRecDepth 20000 in
theorem ggX8_ticks_X8_leaves : GoodIn wsX8_ticks wsX8_leaves := goodIn_r _ [46, 3, 26, 17, 10, 47, 16, 48, 49, 50, 14, 51, 28, 27, 18, 19, 20, 21, 1, 2, 40, 41, 42, 63, 64, 65, 66, 67, 68, 69, 70, 71, 72, 73, 74, 75, 76, 77, 78, 79, 80, 81, 82, 83, 84, 85, 86, 87, 88] (by decide +kernel) (by decide +kernel)
set_option maxRecDepth 20000 in
theorem gX8_ticks_X8_leaves : GoodIn wsX8_ticks (wsV RX8 137 RX8 yX8_leaves wsX8_leaves) := goodIn_app (goodIn_of _ (by decide +kernel)) ggX8_ticks_X8_leaves
set_option maxRecDepth 20000 in
theorem ggX8_ticks_X8_bufferOf : GoodIn wsX8_ticks wsX8_bufferOf := goodIn_r _ [54] (by decide +kernel) (by decide +kernel)
set_option maxRecDepth 20000 in
theorem gX8_ticks_X8_bufferOf : GoodIn wsX8_ticks (va_wsS RX8 110 yX8_bufferOf wsX8_bufferOf) := goodIn_app (goodIn_of _ (by decide +kernel)) ggX8_ticks_X8_bufferOf
set_option maxRecDepth 20000 in
theorem ggX8_ticks_X8_puts : GoodIn wsX8_ticks wsX8_puts := goodIn_r _ [58, 28, 27, 63, 64, 65, 66, 67, 68, 69, 70, 71, 72, 73, 74, 75, 76, 77, 78, 79, 80, 81, 82, 83, 84, 85, 86, 87, 88] (by decide +kernel) (by decide +kernel)
set_option maxRecDepth 20000 in
theorem gX8_ticks_X8_puts : GoodIn wsX8_ticks (wsV RX8 114 RX8 yX8_puts wsX8_puts) := goodIn_app (goodIn_of _ (by decide +kernel)) ggX8_ticks_X8_puts
set_option maxRecDepth 20000 in
theorem ggX8_ticks_X8_inSwitch : GoodIn wsX8_ticks wsX8_inSwitch := goodIn_r _ [62, 27, 63, 64, 65, 66, 67, 68, 69, 70, 71, 72, 73, 74, 75, 76, 77, 78, 79, 80, 81, 82, 83, 84, 85, 86, 87, 88] (by decide +kernel) (by decide +kernel)
set_option maxRecDepth 20000 in
theorem gX8_ticks_X8_inSwitch : GoodIn wsX8_ticks (wsV RX8 140 RX8 yX8_inSwitch wsX8_inSwitch) := goodIn_app (goodIn_of _ (by decide +kernel)) ggX8_ticks_X8_inSwitch
theorem dX8_ticks_0 : decode cX8_ticks 0 = .ok (.iconst 0, 1) := by decide +kernel
theorem dX8_ticks_1 : decode cX8_ticks 1 = .ok (.istore_n 1, 1) := by decide +kernel
theorem dX8_ticks_2 : decode cX8_ticks 2 = .ok (.aload_n 0, 1) := by decide +kernel
theorem dX8_ticks_3 : decode cX8_ticks 3 = .ok (.invokevirtual 131, 3) := by decide +kernel
theorem dX8_ticks_6 : decode cX8_ticks 6 = .ok (.aload_n 0, 1) := by decide +kernel
theorem dX8_ticks_7 : decode cX8_ticks 7 = .ok (.getfield 7, 3) := by decide +kernel
theorem dX8_ticks_10 : decode cX8_ticks 10 = .ok (.aload_n 0, 1) := by decide +kernel
theorem dX8_ticks_11 : decode cX8_ticks 11 = .ok (.getfield 13, 3) := by decide +kernel
theorem dX8_ticks_14 : decode cX8_ticks 14 = .ok (.imul, 1) := by decide +kernel
theorem dX8_ticks_15 : decode cX8_ticks 15 = .ok (.iconst 5, 1) := by decide +kernel
theorem dX8_ticks_16 : decode cX8_ticks 16 = .ok (.imul, 1) := by decide +kernel
theorem dX8_ticks_17 : decode cX8_ticks 17 = .ok (.istore_n 2, 1) := by decide +kernel
theorem dX8_ticks_18 : decode cX8_ticks 18 = .ok (.iconst 0, 1) := by decide +kernel
theorem dX8_ticks_19 : decode cX8_ticks 19 = .ok (.istore_n 3, 1) := by decide +kernel
theorem dX8_ticks_20 : decode cX8_ticks 20 = .ok (.iload_n 3, 1) := by decide +kernel
theorem dX8_ticks_21 : decode cX8_ticks 21 = .ok (.iload_n 2, 1) := by decide +kernel
theorem dX8_ticks_22 : decode cX8_ticks 22 = .ok (.if_icmp .ge 46, 3) := by decide +kernel
theorem dX8_ticks_25 : decode cX8_ticks 25 = .ok (.aload_n 0, 1) := by decide +kernel
theorem dX8_ticks_26 : decode cX8_ticks 26 = .ok (.getfield 66, 3) := by decide +kernel
theorem dX8_ticks_29 : decode cX8_ticks 29 = .ok (.iload_n 3, 1) := by decide +kernel
theorem dX8_ticks_30 : decode cX8_ticks 30 = .ok (.iconst (-1), 1) := by decide +kernel
theorem dX8_ticks_31 : decode cX8_ticks 31 = .ok (.iastore, 1) := by decide +kernel
theorem dX8_ticks_32 : decode cX8_ticks 32 = .ok (.iload_n 3, 1) := by decide +kernel
theorem dX8_ticks_33 : decode cX8_ticks 33 = .ok (.iconst 5, 1) := by decide +kernel
theorem dX8_ticks_34 : decode cX8_ticks 34 = .ok (.irem, 1) := by decide +kernel
theorem dX8_ticks_35 : decode cX8_ticks 35 = .ok (.iconst 4, 1) := by decide +kernel
theorem dX8_ticks_36 : decode cX8_ticks 36 = .ok (.if_icmp .eq 16, 3) := by decide +kernel
theorem dX8_ticks_39 : decode cX8_ticks 39 = .ok (.aload_n 0, 1) := by decide +kernel
theorem dX8_ticks_40 : decode cX8_ticks 40 = .ok (.iload_n 3, 1) := by decide +kernel
theorem dX8_ticks_41 : decode cX8_ticks 41 = .ok (.iconst 5, 1) := by decide +kernel
theorem dX8_ticks_42 : decode cX8_ticks 42 = .ok (.idiv, 1) := by decide +kernel
theorem dX8_ticks_43 : decode cX8_ticks 43 = .ok (.iload_n 3, 1) := by decide +kernel
theorem dX8_ticks_44 : decode cX8_ticks 44 = .ok (.iconst 5, 1) := by decide +kernel
theorem dX8_ticks_45 : decode cX8_ticks 45 = .ok (.irem, 1) := by decide +kernel
theorem dX8_ticks_46 : decode cX8_ticks 46 = .ok (.invokevirtual 93, 3) := by decide +kernel
theorem dX8_ticks_49 : decode cX8_ticks 49 = .ok (.ifCond .lt 13, 3) := by decide +kernel
theorem dX8_ticks_52 : decode cX8_ticks 52 = .ok (.aload_n 0, 1) := by decide +kernel
theorem dX8_ticks_53 : decode cX8_ticks 53 = .ok (.iload_n 3, 1) := by decide +kernel
theorem dX8_ticks_54 : decode cX8_ticks 54 = .ok (.iconst 5, 1) := by decide +kernel
theorem dX8_ticks_55 : decode cX8_ticks 55 = .ok (.idiv, 1) := by decide +kernel
theorem dX8_ticks_56 : decode cX8_ticks 56 = .ok (.iload_n 3, 1) := by decide +kernel
theorem dX8_ticks_57 : decode cX8_ticks 57 = .ok (.iconst 5, 1) := by decide +kernel
theorem dX8_ticks_58 : decode cX8_ticks 58 = .ok (.irem, 1) := by decide +kernel
theorem dX8_ticks_59 : decode cX8_ticks 59 = .ok (.invokevirtual 134, 3) := by decide +kernel
theorem dX8_ticks_62 : decode cX8_ticks 62 = .ok (.iinc 3 1, 3) := by decide +kernel
theorem dX8_ticks_65 : decode cX8_ticks 65 = .ok (.goto (-45), 3) := by decide +kernel
theorem dX8_ticks_68 : decode cX8_ticks 68 = .ok (.iconst 0, 1) := by decide +kernel
theorem dX8_ticks_69 : decode cX8_ticks 69 = .ok (.istore_n 3, 1) := by decide +kernel
theorem dX8_ticks_70 : decode cX8_ticks 70 = .ok (.iload_n 3, 1) := by decide +kernel
theorem dX8_ticks_71 : decode cX8_ticks 71 = .ok (.iload_n 2, 1) := by decide +kernel
theorem dX8_ticks_72 : decode cX8_ticks 72 = .ok (.if_icmp .ge 28, 3) := by decide +kernel
theorem dX8_ticks_75 : decode cX8_ticks 75 = .ok (.aload_n 0, 1) := by decide +kernel
theorem dX8_ticks_76 : decode cX8_ticks 76 = .ok (.getfield 66, 3) := by decide +kernel
theorem dX8_ticks_79 : decode cX8_ticks 79 = .ok (.iload_n 3, 1) := by decide +kernel
theorem dX8_ticks_80 : decode cX8_ticks 80 = .ok (.iaload, 1) := by decide +kernel
theorem dX8_ticks_81 : decode cX8_ticks 81 = .ok (.ifCond .lt 13, 3) := by decide +kernel
theorem dX8_ticks_84 : decode cX8_ticks 84 = .ok (.aload_n 0, 1) := by decide +kernel
theorem dX8_ticks_85 : decode cX8_ticks 85 = .ok (.iload_n 3, 1) := by decide +kernel
theorem dX8_ticks_86 : decode cX8_ticks 86 = .ok (.iconst 5, 1) := by decide +kernel
theorem dX8_ticks_87 : decode cX8_ticks 87 = .ok (.idiv, 1) := by decide +kernel
theorem dX8_ticks_88 : decode cX8_ticks 88 = .ok (.iload_n 3, 1) := by decide +kernel
theorem dX8_ticks_89 : decode cX8_ticks 89 = .ok (.iconst 5, 1) := by decide +kernel
theorem dX8_ticks_90 : decode cX8_ticks 90 = .ok (.irem, 1) := by decide +kernel
theorem dX8_ticks_91 : decode cX8_ticks 91 = .ok (.invokevirtual 137, 3) := by decide +kernel
theorem dX8_ticks_94 : decode cX8_ticks 94 = .ok (.iinc 3 1, 3) := by decide +kernel
theorem dX8_ticks_97 : decode cX8_ticks 97 = .ok (.goto (-27), 3) := by decide +kernel
theorem dX8_ticks_100 : decode cX8_ticks 100 = .ok (.iconst 0, 1) := by decide +kernel
theorem dX8_ticks_101 : decode cX8_ticks 101 = .ok (.istore_n 3, 1) := by decide +kernel
theorem dX8_ticks_102 : decode cX8_ticks 102 = .ok (.iload_n 3, 1) := by decide +kernel
theorem dX8_ticks_103 : decode cX8_ticks 103 = .ok (.iload_n 2, 1) := by decide +kernel
theorem dX8_ticks_104 : decode cX8_ticks 104 = .ok (.if_icmp .ge 186, 3) := by decide +kernel
theorem dX8_ticks_107 : decode cX8_ticks 107 = .ok (.aload_n 0, 1) := by decide +kernel
theorem dX8_ticks_108 : decode cX8_ticks 108 = .ok (.getfield 66, 3) := by decide +kernel
theorem dX8_ticks_111 : decode cX8_ticks 111 = .ok (.iload_n 3, 1) := by decide +kernel
theorem dX8_ticks_112 : decode cX8_ticks 112 = .ok (.iaload, 1) := by decide +kernel
theorem dX8_ticks_113 : decode cX8_ticks 113 = .ok (.istore 4, 2) := by decide +kernel
theorem dX8_ticks_115 : decode cX8_ticks 115 = .ok (.iload 4, 2) := by decide +kernel
theorem dX8_ticks_117 : decode cX8_ticks 117 = .ok (.ifCond .lt 66, 3) := by decide +kernel
theorem dX8_ticks_120 : decode cX8_ticks 120 = .ok (.iload_n 3, 1) := by decide +kernel
theorem dX8_ticks_121 : decode cX8_ticks 121 = .ok (.iconst 5, 1) := by decide +kernel
theorem dX8_ticks_122 : decode cX8_ticks 122 = .ok (.irem, 1) := by decide +kernel
theorem dX8_ticks_123 : decode cX8_ticks 123 = .ok (.iconst 4, 1) := by decide +kernel
theorem dX8_ticks_124 : decode cX8_ticks 124 = .ok (.if_icmp .ge 59, 3) := by decide +kernel
theorem dX8_ticks_127 : decode cX8_ticks 127 = .ok (.aload_n 0, 1) := by decide +kernel
theorem dX8_ticks_128 : decode cX8_ticks 128 = .ok (.iload_n 3, 1) := by decide +kernel
theorem dX8_ticks_129 : decode cX8_ticks 129 = .ok (.iconst 5, 1) := by decide +kernel
theorem dX8_ticks_130 : decode cX8_ticks 130 = .ok (.idiv, 1) := by decide +kernel
theorem dX8_ticks_131 : decode cX8_ticks 131 = .ok (.iload_n 3, 1) := by decide +kernel
theorem dX8_ticks_132 : decode cX8_ticks 132 = .ok (.iconst 5, 1) := by decide +kernel
theorem dX8_ticks_133 : decode cX8_ticks 133 = .ok (.irem, 1) := by decide +kernel
theorem dX8_ticks_134 : decode cX8_ticks 134 = .ok (.invokevirtual 93, 3) := by decide +kernel
theorem dX8_ticks_137 : decode cX8_ticks 137 = .ok (.istore 5, 2) := by decide +kernel
theorem dX8_ticks_139 : decode cX8_ticks 139 = .ok (.aload_n 0, 1) := by decide +kernel
theorem dX8_ticks_140 : decode cX8_ticks 140 = .ok (.iload 5, 2) := by decide +kernel
theorem dX8_ticks_142 : decode cX8_ticks 142 = .ok (.iload_n 3, 1) := by decide +kernel
theorem dX8_ticks_143 : decode cX8_ticks 143 = .ok (.iconst 5, 1) := by decide +kernel
theorem dX8_ticks_144 : decode cX8_ticks 144 = .ok (.irem, 1) := by decide +kernel
theorem dX8_ticks_145 : decode cX8_ticks 145 = .ok (.aload_n 0, 1) := by decide +kernel
theorem dX8_ticks_146 : decode cX8_ticks 146 = .ok (.getfield 51, 3) := by decide +kernel
theorem dX8_ticks_149 : decode cX8_ticks 149 = .ok (.iload 4, 2) := by decide +kernel
theorem dX8_ticks_151 : decode cX8_ticks 151 = .ok (.iaload, 1) := by decide +kernel
theorem dX8_ticks_152 : decode cX8_ticks 152 = .ok (.invokestatic 110, 3) := by decide +kernel
theorem dX8_ticks_155 : decode cX8_ticks 155 = .ok (.iload 4, 2) := by decide +kernel
theorem dX8_ticks_157 : decode cX8_ticks 157 = .ok (.invokevirtual 114, 3) := by decide +kernel
theorem dX8_ticks_160 : decode cX8_ticks 160 = .ok (.aload_n 0, 1) := by decide +kernel
theorem dX8_ticks_161 : decode cX8_ticks 161 = .ok (.getfield 57, 3) := by decide +kernel
theorem dX8_ticks_164 : decode cX8_ticks 164 = .ok (.iload 4, 2) := by decide +kernel
theorem dX8_ticks_166 : decode cX8_ticks 166 = .ok (.iload 5, 2) := by decide +kernel
theorem dX8_ticks_168 : decode cX8_ticks 168 = .ok (.iastore, 1) := by decide +kernel
theorem dX8_ticks_169 : decode cX8_ticks 169 = .ok (.aload_n 0, 1) := by decide +kernel
theorem dX8_ticks_170 : decode cX8_ticks 170 = .ok (.getfield 60, 3) := by decide +kernel
theorem dX8_ticks_173 : decode cX8_ticks 173 = .ok (.iload 4, 2) := by decide +kernel
theorem dX8_ticks_175 : decode cX8_ticks 175 = .ok (.dup2, 1) := by decide +kernel
theorem dX8_ticks_176 : decode cX8_ticks 176 = .ok (.iaload, 1) := by decide +kernel
theorem dX8_ticks_177 : decode cX8_ticks 177 = .ok (.iconst 1, 1) := by decide +kernel
theorem dX8_ticks_178 : decode cX8_ticks 178 = .ok (.iadd, 1) := by decide +kernel
theorem dX8_ticks_179 : decode cX8_ticks 179 = .ok (.iastore, 1) := by decide +kernel
theorem dX8_ticks_180 : decode cX8_ticks 180 = .ok (.goto 104, 3) := by decide +kernel
theorem dX8_ticks_183 : decode cX8_ticks 183 = .ok (.iload 4, 2) := by decide +kernel
theorem dX8_ticks_185 : decode cX8_ticks 185 = .ok (.ifCond .lt 99, 3) := by decide +kernel
theorem dX8_ticks_188 : decode cX8_ticks 188 = .ok (.aload_n 0, 1) := by decide +kernel
theorem dX8_ticks_189 : decode cX8_ticks 189 = .ok (.getfield 57, 3) := by decide +kernel
theorem dX8_ticks_192 : decode cX8_ticks 192 = .ok (.iload 4, 2) := by decide +kernel
theorem dX8_ticks_194 : decode cX8_ticks 194 = .ok (.iconst (-1), 1) := by decide +kernel
theorem dX8_ticks_195 : decode cX8_ticks 195 = .ok (.iastore, 1) := by decide +kernel
theorem dX8_ticks_196 : decode cX8_ticks 196 = .ok (.aload_n 0, 1) := by decide +kernel
theorem dX8_ticks_197 : decode cX8_ticks 197 = .ok (.getfield 48, 3) := by decide +kernel
theorem dX8_ticks_200 : decode cX8_ticks 200 = .ok (.iload 4, 2) := by decide +kernel
theorem dX8_ticks_202 : decode cX8_ticks 202 = .ok (.iaload, 1) := by decide +kernel
theorem dX8_ticks_203 : decode cX8_ticks 203 = .ok (.istore 5, 2) := by decide +kernel
theorem dX8_ticks_205 : decode cX8_ticks 205 = .ok (.iconst 2, 1) := by decide +kernel
theorem dX8_ticks_206 : decode cX8_ticks 206 = .ok (.aload_n 0, 1) := by decide +kernel
theorem dX8_ticks_207 : decode cX8_ticks 207 = .ok (.getfield 35, 3) := by decide +kernel
theorem dX8_ticks_210 : decode cX8_ticks 210 = .ok (.iload 5, 2) := by decide +kernel
theorem dX8_ticks_212 : decode cX8_ticks 212 = .ok (.iaload, 1) := by decide +kernel
theorem dX8_ticks_213 : decode cX8_ticks 213 = .ok (.imul, 1) := by decide +kernel
theorem dX8_ticks_214 : decode cX8_ticks 214 = .ok (.bipush 16, 2) := by decide +kernel
theorem dX8_ticks_216 : decode cX8_ticks 216 = .ok (.if_icmp .ge 15, 3) := by decide +kernel
theorem dX8_ticks_219 : decode cX8_ticks 219 = .ok (.iconst 2, 1) := by decide +kernel
theorem dX8_ticks_220 : decode cX8_ticks 220 = .ok (.aload_n 0, 1) := by decide +kernel
theorem dX8_ticks_221 : decode cX8_ticks 221 = .ok (.getfield 35, 3) := by decide +kernel
theorem dX8_ticks_224 : decode cX8_ticks 224 = .ok (.iload 5, 2) := by decide +kernel
theorem dX8_ticks_226 : decode cX8_ticks 226 = .ok (.iaload, 1) := by decide +kernel
theorem dX8_ticks_227 : decode cX8_ticks 227 = .ok (.imul, 1) := by decide +kernel
theorem dX8_ticks_228 : decode cX8_ticks 228 = .ok (.goto 5, 3) := by decide +kernel
theorem dX8_ticks_231 : decode cX8_ticks 231 = .ok (.bipush 16, 2) := by decide +kernel
theorem dX8_ticks_233 : decode cX8_ticks 233 = .ok (.istore 6, 2) := by decide +kernel
theorem dX8_ticks_235 : decode cX8_ticks 235 = .ok (.aload_n 0, 1) := by decide +kernel
theorem dX8_ticks_236 : decode cX8_ticks 236 = .ok (.getfield 35, 3) := by decide +kernel
theorem dX8_ticks_239 : decode cX8_ticks 239 = .ok (.iload 5, 2) := by decide +kernel
theorem dX8_ticks_241 : decode cX8_ticks 241 = .ok (.aload_n 0, 1) := by decide +kernel
theorem dX8_ticks_242 : decode cX8_ticks 242 = .ok (.getfield 63, 3) := by decide +kernel
theorem dX8_ticks_245 : decode cX8_ticks 245 = .ok (.iload 4, 2) := by decide +kernel
theorem dX8_ticks_247 : decode cX8_ticks 247 = .ok (.baload, 1) := by decide +kernel
theorem dX8_ticks_248 : decode cX8_ticks 248 = .ok (.ifCond .eq 8, 3) := by decide +kernel
theorem dX8_ticks_251 : decode cX8_ticks 251 = .ok (.iload 6, 2) := by decide +kernel
theorem dX8_ticks_253 : decode cX8_ticks 253 = .ok (.goto 27, 3) := by decide +kernel
theorem dX8_ticks_256 : decode cX8_ticks 256 = .ok (.aload_n 0, 1) := by decide +kernel
theorem dX8_ticks_257 : decode cX8_ticks 257 = .ok (.getfield 35, 3) := by decide +kernel
theorem dX8_ticks_260 : decode cX8_ticks 260 = .ok (.iload 5, 2) := by decide +kernel
theorem dX8_ticks_262 : decode cX8_ticks 262 = .ok (.iaload, 1) := by decide +kernel
theorem dX8_ticks_263 : decode cX8_ticks 263 = .ok (.iconst 1, 1) := by decide +kernel
theorem dX8_ticks_264 : decode cX8_ticks 264 = .ok (.if_icmp .le 15, 3) := by decide +kernel
theorem dX8_ticks_267 : decode cX8_ticks 267 = .ok (.aload_n 0, 1) := by decide +kernel
theorem dX8_ticks_268 : decode cX8_ticks 268 = .ok (.getfield 35, 3) := by decide +kernel
theorem dX8_ticks_271 : decode cX8_ticks 271 = .ok (.iload 5, 2) := by decide +kernel
theorem dX8_ticks_273 : decode cX8_ticks 273 = .ok (.iaload, 1) := by decide +kernel
theorem dX8_ticks_274 : decode cX8_ticks 274 = .ok (.iconst 1, 1) := by decide +kernel
theorem dX8_ticks_275 : decode cX8_ticks 275 = .ok (.isub, 1) := by decide +kernel
theorem dX8_ticks_276 : decode cX8_ticks 276 = .ok (.goto 4, 3) := by decide +kernel
theorem dX8_ticks_279 : decode cX8_ticks 279 = .ok (.iconst 1, 1) := by decide +kernel
theorem dX8_ticks_280 : decode cX8_ticks 280 = .ok (.iastore, 1) := by decide +kernel
theorem dX8_ticks_281 : decode cX8_ticks 281 = .ok (.iinc 1 1, 3) := by decide +kernel
theorem dX8_ticks_284 : decode cX8_ticks 284 = .ok (.iinc 3 1, 3) := by decide +kernel
theorem dX8_ticks_287 : decode cX8_ticks 287 = .ok (.goto (-185), 3) := by decide +kernel
theorem dX8_ticks_290 : decode cX8_ticks 290 = .ok (.iconst 0, 1) := by decide +kernel
theorem dX8_ticks_291 : decode cX8_ticks 291 = .ok (.istore_n 3, 1) := by decide +kernel
theorem dX8_ticks_292 : decode cX8_ticks 292 = .ok (.iload_n 3, 1) := by decide +kernel
theorem dX8_ticks_293 : decode cX8_ticks 293 = .ok (.iload_n 2, 1) := by decide +kernel
theorem dX8_ticks_294 : decode cX8_ticks 294 = .ok (.if_icmp .ge 55, 3) := by decide +kernel
theorem dX8_ticks_297 : decode cX8_ticks 297 = .ok (.aload_n 0, 1) := by decide +kernel
theorem dX8_ticks_298 : decode cX8_ticks 298 = .ok (.getfield 66, 3) := by decide +kernel
theorem dX8_ticks_301 : decode cX8_ticks 301 = .ok (.iload_n 3, 1) := by decide +kernel
theorem dX8_ticks_302 : decode cX8_ticks 302 = .ok (.iaload, 1) := by decide +kernel
theorem dX8_ticks_303 : decode cX8_ticks 303 = .ok (.istore 4, 2) := by decide +kernel
theorem dX8_ticks_305 : decode cX8_ticks 305 = .ok (.iload 4, 2) := by decide +kernel
theorem dX8_ticks_307 : decode cX8_ticks 307 = .ok (.ifCond .lt 36, 3) := by decide +kernel
theorem dX8_ticks_310 : decode cX8_ticks 310 = .ok (.aload_n 0, 1) := by decide +kernel
theorem dX8_ticks_311 : decode cX8_ticks 311 = .ok (.getfield 57, 3) := by decide +kernel
theorem dX8_ticks_314 : decode cX8_ticks 314 = .ok (.iload 4, 2) := by decide +kernel
theorem dX8_ticks_316 : decode cX8_ticks 316 = .ok (.iaload, 1) := by decide +kernel
theorem dX8_ticks_317 : decode cX8_ticks 317 = .ok (.ifCond .lt 26, 3) := by decide +kernel
theorem dX8_ticks_320 : decode cX8_ticks 320 = .ok (.aload_n 0, 1) := by decide +kernel
theorem dX8_ticks_321 : decode cX8_ticks 321 = .ok (.aload_n 0, 1) := by decide +kernel
theorem dX8_ticks_322 : decode cX8_ticks 322 = .ok (.getfield 57, 3) := by decide +kernel
theorem dX8_ticks_325 : decode cX8_ticks 325 = .ok (.iload 4, 2) := by decide +kernel
theorem dX8_ticks_327 : decode cX8_ticks 327 = .ok (.iaload, 1) := by decide +kernel
theorem dX8_ticks_328 : decode cX8_ticks 328 = .ok (.invokevirtual 140, 3) := by decide +kernel
theorem dX8_ticks_331 : decode cX8_ticks 331 = .ok (.iconst 4, 1) := by decide +kernel
theorem dX8_ticks_332 : decode cX8_ticks 332 = .ok (.if_icmp .lt 11, 3) := by decide +kernel
theorem dX8_ticks_335 : decode cX8_ticks 335 = .ok (.aload_n 0, 1) := by decide +kernel
theorem dX8_ticks_336 : decode cX8_ticks 336 = .ok (.getfield 63, 3) := by decide +kernel
theorem dX8_ticks_339 : decode cX8_ticks 339 = .ok (.iload 4, 2) := by decide +kernel
theorem dX8_ticks_341 : decode cX8_ticks 341 = .ok (.iconst 1, 1) := by decide +kernel
theorem dX8_ticks_342 : decode cX8_ticks 342 = .ok (.bastore, 1) := by decide +kernel
theorem dX8_ticks_343 : decode cX8_ticks 343 = .ok (.iinc 3 1, 3) := by decide +kernel
theorem dX8_ticks_346 : decode cX8_ticks 346 = .ok (.goto (-54), 3) := by decide +kernel
theorem dX8_ticks_349 : decode cX8_ticks 349 = .ok (.aload_n 0, 1) := by decide +kernel
theorem dX8_ticks_350 : decode cX8_ticks 350 = .ok (.dup, 1) := by decide +kernel
theorem dX8_ticks_351 : decode cX8_ticks 351 = .ok (.getfield 100, 3) := by decide +kernel
theorem dX8_ticks_354 : decode cX8_ticks 354 = .ok (.iconst 1, 1) := by decide +kernel
theorem dX8_ticks_355 : decode cX8_ticks 355 = .ok (.iadd, 1) := by decide +kernel
theorem dX8_ticks_356 : decode cX8_ticks 356 = .ok (.putfield 100, 3) := by decide +kernel
theorem dX8_ticks_359 : decode cX8_ticks 359 = .ok (.iload_n 1, 1) := by decide +kernel
theorem dX8_ticks_360 : decode cX8_ticks 360 = .ok (.ireturn, 1) := by decide +kernel
set_option maxRecDepth 20000 in
theorem ggX8_run_X8_isWithin : GoodIn wsX8_run wsX8_isWithin := goodIn_r _ [5] (by decide +kernel) (by decide +kernel)
set_option maxRecDepth 20000 in
theorem gX8_run_X8_isWithin : GoodIn wsX8_run (va_wsS RX8 89 yX8_isWithin wsX8_isWithin) := goodIn_app (goodIn_of _ (by decide +kernel)) ggX8_run_X8_isWithin
set_option maxRecDepth 20000 in
theorem ggX8_run_X8_goes : GoodIn wsX8_run wsX8_goes := goodIn_r _ [9, 10, 76, 77, 78, 79, 80, 81, 82, 83, 84, 85, 86, 87, 88, 89, 90, 91, 92, 93, 94, 95, 96, 97, 98, 99, 100, 101] (by decide +kernel) (by decide +kernel)
set_option maxRecDepth 20000 in
theorem gX8_run_X8_goes : GoodIn wsX8_run (wsV RX8 106 RX8 yX8_goes wsX8_goes) := goodIn_app (goodIn_of _ (by decide +kernel)) ggX8_run_X8_goes
set_option maxRecDepth 20000 in
theorem ggX8_run_X8_ticks : GoodIn wsX8_run wsX8_ticks := goodIn_r _ [14, 15, 16, 17, 18, 19, 20, 21, 22, 23, 24, 25, 26, 27, 4, 28, 29, 30, 31, 32, 33, 34, 35, 36, 37, 38, 39, 40, 41, 42, 43, 44, 45, 46, 47, 48, 49, 50, 51, 52, 53, 54, 55, 56, 57, 58, 59, 60, 61, 62, 63, 64, 65, 66, 67, 68, 69, 70, 71, 72, 73, 74, 75, 76, 77, 78, 79, 80, 81, 82, 83, 84, 85, 86, 87, 88, 89, 90, 91, 92, 93, 94, 95, 96, 97, 98, 99, 100, 101] (by decide +kernel) (by decide +kernel)
set_option maxRecDepth 20000 in
theorem gX8_run_X8_ticks : GoodIn wsX8_run (wsV RX8 143 RX8 yX8_ticks wsX8_ticks) := goodIn_app (goodIn_of _ (by decide +kernel)) ggX8_run_X8_ticks
theorem dX8_run_0 : decode cX8_run 0 = .ok (.aload_n 0, 1) := by decide +kernel
theorem dX8_run_1 : decode cX8_run 1 = .ok (.iload_n 1, 1) := by decide +kernel
theorem dX8_run_2 : decode cX8_run 2 = .ok (.iconst 1, 1) := by decide +kernel
theorem dX8_run_3 : decode cX8_run 3 = .ok (.bipush 50, 2) := by decide +kernel
theorem dX8_run_5 : decode cX8_run 5 = .ok (.invokestatic 89, 3) := by decide +kernel
theorem dX8_run_8 : decode cX8_run 8 = .ok (.iconst 1, 1) := by decide +kernel
theorem dX8_run_9 : decode cX8_run 9 = .ok (.iconst 1, 1) := by decide +kernel
theorem dX8_run_10 : decode cX8_run 10 = .ok (.invokevirtual 106, 3) := by decide +kernel
theorem dX8_run_13 : decode cX8_run 13 = .ok (.ifCond .ne 5, 3) := by decide +kernel
theorem dX8_run_16 : decode cX8_run 16 = .ok (.iconst 0, 1) := by decide +kernel
theorem dX8_run_17 : decode cX8_run 17 = .ok (.ireturn, 1) := by decide +kernel
theorem dX8_run_18 : decode cX8_run 18 = .ok (.iconst 0, 1) := by decide +kernel
theorem dX8_run_19 : decode cX8_run 19 = .ok (.istore_n 2, 1) := by decide +kernel
theorem dX8_run_20 : decode cX8_run 20 = .ok (.iconst 0, 1) := by decide +kernel
theorem dX8_run_21 : decode cX8_run 21 = .ok (.istore_n 3, 1) := by decide +kernel
theorem dX8_run_22 : decode cX8_run 22 = .ok (.iload_n 3, 1) := by decide +kernel
theorem dX8_run_23 : decode cX8_run 23 = .ok (.iload_n 1, 1) := by decide +kernel
theorem dX8_run_24 : decode cX8_run 24 = .ok (.if_icmp .ge 16, 3) := by decide +kernel
theorem dX8_run_27 : decode cX8_run 27 = .ok (.iload_n 2, 1) := by decide +kernel
theorem dX8_run_28 : decode cX8_run 28 = .ok (.aload_n 0, 1) := by decide +kernel
theorem dX8_run_29 : decode cX8_run 29 = .ok (.invokevirtual 143, 3) := by decide +kernel
theorem dX8_run_32 : decode cX8_run 32 = .ok (.iadd, 1) := by decide +kernel
theorem dX8_run_33 : decode cX8_run 33 = .ok (.istore_n 2, 1) := by decide +kernel
theorem dX8_run_34 : decode cX8_run 34 = .ok (.iinc 3 1, 3) := by decide +kernel
theorem dX8_run_37 : decode cX8_run 37 = .ok (.goto (-15), 3) := by decide +kernel
theorem dX8_run_40 : decode cX8_run 40 = .ok (.aload_n 0, 1) := by decide +kernel
theorem dX8_run_41 : decode cX8_run 41 = .ok (.dup, 1) := by decide +kernel
theorem dX8_run_42 : decode cX8_run 42 = .ok (.getfield 103, 3) := by decide +kernel
theorem dX8_run_45 : decode cX8_run 45 = .ok (.iload_n 2, 1) := by decide +kernel
theorem dX8_run_46 : decode cX8_run 46 = .ok (.iadd, 1) := by decide +kernel
theorem dX8_run_47 : decode cX8_run 47 = .ok (.putfield 103, 3) := by decide +kernel
theorem dX8_run_50 : decode cX8_run 50 = .ok (.iload_n 2, 1) := by decide +kernel
theorem dX8_run_51 : decode cX8_run 51 = .ok (.ireturn, 1) := by decide +kernel
set_option maxRecDepth 20000 in
theorem ggX8_pause_X8_isSwitch : GoodIn wsX8_pause wsX8_isSwitch := goodIn_r _ [6, 7, 8, 14, 15, 16, 17, 18, 19, 20, 21, 22, 23, 24, 25, 26, 27, 28, 29, 30, 31, 32, 33, 34, 35, 36, 37, 38, 39] (by decide +kernel) (by decide +kernel)
set_option maxRecDepth 20000 in
theorem gX8_pause_X8_isSwitch : GoodIn wsX8_pause (wsV RX8 85 RX8 yX8_isSwitch wsX8_isSwitch) := goodIn_app (goodIn_of _ (by decide +kernel)) ggX8_pause_X8_isSwitch
set_option maxRecDepth 20000 in
theorem ggX8_pause_X8_goes : GoodIn wsX8_pause wsX8_goes := goodIn_r _ [12, 13, 14, 15, 16, 17, 18, 19, 20, 21, 22, 23, 24, 25, 26, 27, 28, 29, 30, 31, 32, 33, 34, 35, 36, 37, 38, 39] (by decide +kernel) (by decide +kernel)
set_option maxRecDepth 20000 in
theorem gX8_pause_X8_goes : GoodIn wsX8_pause (wsV RX8 106 RX8 yX8_goes wsX8_goes) := goodIn_app (goodIn_of _ (by decide +kernel)) ggX8_pause_X8_goes
theorem dX8_pause_0 : decode cX8_pause 0 = .ok (.aload_n 0, 1) := by decide +kernel
theorem dX8_pause_1 : decode cX8_pause 1 = .ok (.aload_n 0, 1) := by decide +kernel
theorem dX8_pause_2 : decode cX8_pause 2 = .ok (.iload_n 1, 1) := by decide +kernel
theorem dX8_pause_3 : decode cX8_pause 3 = .ok (.invokevirtual 85, 3) := by decide +kernel
theorem dX8_pause_6 : decode cX8_pause 6 = .ok (.iconst 1, 1) := by decide +kernel
theorem dX8_pause_7 : decode cX8_pause 7 = .ok (.iconst 1, 1) := by decide +kernel
theorem dX8_pause_8 : decode cX8_pause 8 = .ok (.invokevirtual 106, 3) := by decide +kernel
theorem dX8_pause_11 : decode cX8_pause 11 = .ok (.ifCond .ne 5, 3) := by decide +kernel
theorem dX8_pause_14 : decode cX8_pause 14 = .ok (.iconst 0, 1) := by decide +kernel
theorem dX8_pause_15 : decode cX8_pause 15 = .ok (.ireturn, 1) := by decide +kernel
theorem dX8_pause_16 : decode cX8_pause 16 = .ok (.aload_n 0, 1) := by decide +kernel
theorem dX8_pause_17 : decode cX8_pause 17 = .ok (.getfield 41, 3) := by decide +kernel
theorem dX8_pause_20 : decode cX8_pause 20 = .ok (.iload_n 1, 1) := by decide +kernel
theorem dX8_pause_21 : decode cX8_pause 21 = .ok (.baload, 1) := by decide +kernel
theorem dX8_pause_22 : decode cX8_pause 22 = .ok (.istore_n 3, 1) := by decide +kernel
theorem dX8_pause_23 : decode cX8_pause 23 = .ok (.aload_n 0, 1) := by decide +kernel
theorem dX8_pause_24 : decode cX8_pause 24 = .ok (.getfield 41, 3) := by decide +kernel
theorem dX8_pause_27 : decode cX8_pause 27 = .ok (.iload_n 1, 1) := by decide +kernel
theorem dX8_pause_28 : decode cX8_pause 28 = .ok (.iload_n 2, 1) := by decide +kernel
theorem dX8_pause_29 : decode cX8_pause 29 = .ok (.bastore, 1) := by decide +kernel
theorem dX8_pause_30 : decode cX8_pause 30 = .ok (.iload_n 3, 1) := by decide +kernel
theorem dX8_pause_31 : decode cX8_pause 31 = .ok (.ireturn, 1) := by decide +kernel
set_option maxRecDepth 20000 in
theorem ggX8_lose_X8_isLink : GoodIn wsX8_lose wsX8_isLink := goodIn_r _ [6, 7, 8, 9, 5, 10, 11, 12, 13, 14, 15, 16, 17, 18, 19, 28, 29, 30, 31, 32, 33, 34, 35, 36, 37, 38, 39, 40, 41, 42, 43, 44, 45, 46, 47, 48, 49, 50, 51, 52, 53] (by decide +kernel) (by decide +kernel)
set_option maxRecDepth 20000 in
theorem gX8_lose_X8_isLink : GoodIn wsX8_lose (wsV RX8 147 RX8 yX8_isLink wsX8_isLink) := goodIn_app (goodIn_of _ (by decide +kernel)) ggX8_lose_X8_isLink
set_option maxRecDepth 20000 in
theorem ggX8_lose_X8_isWithin : GoodIn wsX8_lose wsX8_isWithin := goodIn_r _ [15] (by decide +kernel) (by decide +kernel)
set_option maxRecDepth 20000 in
theorem gX8_lose_X8_isWithin : GoodIn wsX8_lose (va_wsS RX8 89 yX8_isWithin wsX8_isWithin) := goodIn_app (goodIn_of _ (by decide +kernel)) ggX8_lose_X8_isWithin
set_option maxRecDepth 20000 in
theorem ggX8_lose_X8_linkOf : GoodIn wsX8_lose wsX8_linkOf := goodIn_r _ [22] (by decide +kernel) (by decide +kernel)
set_option maxRecDepth 20000 in
theorem gX8_lose_X8_linkOf : GoodIn wsX8_lose (va_wsS RX8 118 yX8_linkOf wsX8_linkOf) := goodIn_app (goodIn_of _ (by decide +kernel)) ggX8_lose_X8_linkOf
set_option maxRecDepth 20000 in
theorem ggX8_lose_X8_goes : GoodIn wsX8_lose wsX8_goes := goodIn_r _ [26, 27, 28, 29, 30, 31, 32, 33, 34, 35, 36, 37, 38, 39, 40, 41, 42, 43, 44, 45, 46, 47, 48, 49, 50, 51, 52, 53] (by decide +kernel) (by decide +kernel)
set_option maxRecDepth 20000 in
theorem gX8_lose_X8_goes : GoodIn wsX8_lose (wsV RX8 106 RX8 yX8_goes wsX8_goes) := goodIn_app (goodIn_of _ (by decide +kernel)) ggX8_lose_X8_goes
theorem dX8_lose_0 : decode cX8_lose 0 = .ok (.aload_n 0, 1) := by decide +kernel
theorem dX8_lose_1 : decode cX8_lose 1 = .ok (.iload_n 1, 1) := by decide +kernel
theorem dX8_lose_2 : decode cX8_lose 2 = .ok (.iload_n 2, 1) := by decide +kernel
theorem dX8_lose_3 : decode cX8_lose 3 = .ok (.invokevirtual 147, 3) := by decide +kernel
theorem dX8_lose_6 : decode cX8_lose 6 = .ok (.istore 4, 2) := by decide +kernel
end
section
theorem dX8_lose_8 : decode cX8_lose 8 = .ok (.iload_n 3, 1) := by decide +kernel
theorem dX8_lose_9 : decode cX8_lose 9 = .ok (.iconst 0, 1) := by decide +kernel
theorem dX8_lose_10 : decode cX8_lose 10 = .ok (.iconst 1, 1) := by decide +kernel
theorem dX8_lose_11 : decode cX8_lose 11 = .ok (.invokestatic 89, 3) := by decide +kernel
theorem dX8_lose_14 : decode cX8_lose 14 = .ok (.istore 5, 2) := by decide +kernel
theorem dX8_lose_16 : decode cX8_lose 16 = .ok (.aload_n 0, 1) := by decide +kernel
theorem dX8_lose_17 : decode cX8_lose 17 = .ok (.iload 4, 2) := by decide +kernel
theorem dX8_lose_19 : decode cX8_lose 19 = .ok (.iload 5, 2) := by decide +kernel
theorem dX8_lose_21 : decode cX8_lose 21 = .ok (.iload 4, 2) := by decide +kernel
theorem dX8_lose_23 : decode cX8_lose 23 = .ok (.ifCond .eq 26, 3) := by decide +kernel
theorem dX8_lose_26 : decode cX8_lose 26 = .ok (.iload 5, 2) := by decide +kernel
theorem dX8_lose_28 : decode cX8_lose 28 = .ok (.ifCond .eq 21, 3) := by decide +kernel
theorem dX8_lose_31 : decode cX8_lose 31 = .ok (.aload_n 0, 1) := by decide +kernel
theorem dX8_lose_32 : decode cX8_lose 32 = .ok (.getfield 26, 3) := by decide +kernel
theorem dX8_lose_35 : decode cX8_lose 35 = .ok (.iload_n 1, 1) := by decide +kernel
theorem dX8_lose_36 : decode cX8_lose 36 = .ok (.iload_n 2, 1) := by decide +kernel
theorem dX8_lose_37 : decode cX8_lose 37 = .ok (.iload_n 3, 1) := by decide +kernel
theorem dX8_lose_38 : decode cX8_lose 38 = .ok (.invokestatic 118, 3) := by decide +kernel
theorem dX8_lose_41 : decode cX8_lose 41 = .ok (.iaload, 1) := by decide +kernel
theorem dX8_lose_42 : decode cX8_lose 42 = .ok (.ifCond .le 7, 3) := by decide +kernel
theorem dX8_lose_45 : decode cX8_lose 45 = .ok (.iconst 1, 1) := by decide +kernel
theorem dX8_lose_46 : decode cX8_lose 46 = .ok (.goto 4, 3) := by decide +kernel
theorem dX8_lose_49 : decode cX8_lose 49 = .ok (.iconst 0, 1) := by decide +kernel
theorem dX8_lose_50 : decode cX8_lose 50 = .ok (.invokevirtual 106, 3) := by decide +kernel
theorem dX8_lose_53 : decode cX8_lose 53 = .ok (.ifCond .ne 5, 3) := by decide +kernel
theorem dX8_lose_56 : decode cX8_lose 56 = .ok (.iconst 0, 1) := by decide +kernel
theorem dX8_lose_57 : decode cX8_lose 57 = .ok (.ireturn, 1) := by decide +kernel
theorem dX8_lose_58 : decode cX8_lose 58 = .ok (.aload_n 0, 1) := by decide +kernel
theorem dX8_lose_59 : decode cX8_lose 59 = .ok (.getfield 26, 3) := by decide +kernel
theorem dX8_lose_62 : decode cX8_lose 62 = .ok (.iload_n 1, 1) := by decide +kernel
theorem dX8_lose_63 : decode cX8_lose 63 = .ok (.iload_n 2, 1) := by decide +kernel
theorem dX8_lose_64 : decode cX8_lose 64 = .ok (.iload_n 3, 1) := by decide +kernel
theorem dX8_lose_65 : decode cX8_lose 65 = .ok (.invokestatic 118, 3) := by decide +kernel
theorem dX8_lose_68 : decode cX8_lose 68 = .ok (.dup2, 1) := by decide +kernel
theorem dX8_lose_69 : decode cX8_lose 69 = .ok (.iaload, 1) := by decide +kernel
theorem dX8_lose_70 : decode cX8_lose 70 = .ok (.iconst 1, 1) := by decide +kernel
theorem dX8_lose_71 : decode cX8_lose 71 = .ok (.isub, 1) := by decide +kernel
theorem dX8_lose_72 : decode cX8_lose 72 = .ok (.iastore, 1) := by decide +kernel
theorem dX8_lose_73 : decode cX8_lose 73 = .ok (.aload_n 0, 1) := by decide +kernel
theorem dX8_lose_74 : decode cX8_lose 74 = .ok (.getfield 26, 3) := by decide +kernel
theorem dX8_lose_77 : decode cX8_lose 77 = .ok (.iload_n 1, 1) := by decide +kernel
theorem dX8_lose_78 : decode cX8_lose 78 = .ok (.iload_n 2, 1) := by decide +kernel
theorem dX8_lose_79 : decode cX8_lose 79 = .ok (.iload_n 3, 1) := by decide +kernel
theorem dX8_lose_80 : decode cX8_lose 80 = .ok (.invokestatic 118, 3) := by decide +kernel
theorem dX8_lose_83 : decode cX8_lose 83 = .ok (.iaload, 1) := by decide +kernel
theorem dX8_lose_84 : decode cX8_lose 84 = .ok (.ireturn, 1) := by decide +kernel
set_option maxRecDepth 20000 in
theorem ggX8_recover_X8_neighbour : GoodIn wsX8_recover wsX8_neighbour := goodIn_r _ [12, 2, 3, 16, 17, 18, 19, 20, 21, 22, 23, 24, 25, 26, 27, 28, 29, 30, 31, 32, 33, 34, 35, 36, 37, 38, 39, 40, 41] (by decide +kernel) (by decide +kernel)
set_option maxRecDepth 20000 in
theorem gX8_recover_X8_neighbour : GoodIn wsX8_recover (wsV RX8 93 RX8 yX8_neighbour wsX8_neighbour) := goodIn_app (goodIn_of _ (by decide +kernel)) ggX8_recover_X8_neighbour
set_option maxRecDepth 20000 in
theorem ggX8_recover_X8_bufferOf : GoodIn wsX8_recover wsX8_bufferOf := goodIn_r _ [15] (by decide +kernel) (by decide +kernel)
set_option maxRecDepth 20000 in
theorem gX8_recover_X8_bufferOf : GoodIn wsX8_recover (va_wsS RX8 110 yX8_bufferOf wsX8_bufferOf) := goodIn_app (goodIn_of _ (by decide +kernel)) ggX8_recover_X8_bufferOf
theorem dX8_recover_0 : decode cX8_recover 0 = .ok (.aload_n 0, 1) := by decide +kernel
theorem dX8_recover_1 : decode cX8_recover 1 = .ok (.iconst 0, 1) := by decide +kernel
theorem dX8_recover_2 : decode cX8_recover 2 = .ok (.putfield 79, 3) := by decide +kernel
theorem dX8_recover_5 : decode cX8_recover 5 = .ok (.iconst 0, 1) := by decide +kernel
theorem dX8_recover_6 : decode cX8_recover 6 = .ok (.istore_n 1, 1) := by decide +kernel
theorem dX8_recover_7 : decode cX8_recover 7 = .ok (.iconst 0, 1) := by decide +kernel
theorem dX8_recover_8 : decode cX8_recover 8 = .ok (.istore_n 2, 1) := by decide +kernel
theorem dX8_recover_9 : decode cX8_recover 9 = .ok (.iload_n 2, 1) := by decide +kernel
theorem dX8_recover_10 : decode cX8_recover 10 = .ok (.aload_n 0, 1) := by decide +kernel
theorem dX8_recover_11 : decode cX8_recover 11 = .ok (.getfield 7, 3) := by decide +kernel
theorem dX8_recover_14 : decode cX8_recover 14 = .ok (.aload_n 0, 1) := by decide +kernel
theorem dX8_recover_15 : decode cX8_recover 15 = .ok (.getfield 13, 3) := by decide +kernel
theorem dX8_recover_18 : decode cX8_recover 18 = .ok (.imul, 1) := by decide +kernel
theorem dX8_recover_19 : decode cX8_recover 19 = .ok (.iconst 4, 1) := by decide +kernel
theorem dX8_recover_20 : decode cX8_recover 20 = .ok (.imul, 1) := by decide +kernel
theorem dX8_recover_21 : decode cX8_recover 21 = .ok (.iconst 2, 1) := by decide +kernel
theorem dX8_recover_22 : decode cX8_recover 22 = .ok (.imul, 1) := by decide +kernel
theorem dX8_recover_23 : decode cX8_recover 23 = .ok (.if_icmp .ge 110, 3) := by decide +kernel
theorem dX8_recover_26 : decode cX8_recover 26 = .ok (.iload_n 2, 1) := by decide +kernel
theorem dX8_recover_27 : decode cX8_recover 27 = .ok (.iconst 2, 1) := by decide +kernel
theorem dX8_recover_28 : decode cX8_recover 28 = .ok (.idiv, 1) := by decide +kernel
theorem dX8_recover_29 : decode cX8_recover 29 = .ok (.iconst 4, 1) := by decide +kernel
theorem dX8_recover_30 : decode cX8_recover 30 = .ok (.idiv, 1) := by decide +kernel
theorem dX8_recover_31 : decode cX8_recover 31 = .ok (.istore_n 3, 1) := by decide +kernel
theorem dX8_recover_32 : decode cX8_recover 32 = .ok (.iload_n 2, 1) := by decide +kernel
theorem dX8_recover_33 : decode cX8_recover 33 = .ok (.iconst 2, 1) := by decide +kernel
theorem dX8_recover_34 : decode cX8_recover 34 = .ok (.idiv, 1) := by decide +kernel
theorem dX8_recover_35 : decode cX8_recover 35 = .ok (.iconst 4, 1) := by decide +kernel
theorem dX8_recover_36 : decode cX8_recover 36 = .ok (.irem, 1) := by decide +kernel
theorem dX8_recover_37 : decode cX8_recover 37 = .ok (.istore 4, 2) := by decide +kernel
theorem dX8_recover_39 : decode cX8_recover 39 = .ok (.aload_n 0, 1) := by decide +kernel
theorem dX8_recover_40 : decode cX8_recover 40 = .ok (.iload_n 3, 1) := by decide +kernel
theorem dX8_recover_41 : decode cX8_recover 41 = .ok (.iload 4, 2) := by decide +kernel
theorem dX8_recover_43 : decode cX8_recover 43 = .ok (.invokevirtual 93, 3) := by decide +kernel
theorem dX8_recover_46 : decode cX8_recover 46 = .ok (.ifCond .lt 81, 3) := by decide +kernel
theorem dX8_recover_49 : decode cX8_recover 49 = .ok (.aload_n 0, 1) := by decide +kernel
theorem dX8_recover_50 : decode cX8_recover 50 = .ok (.getfield 16, 3) := by decide +kernel
theorem dX8_recover_53 : decode cX8_recover 53 = .ok (.aload_n 0, 1) := by decide +kernel
theorem dX8_recover_54 : decode cX8_recover 54 = .ok (.getfield 23, 3) := by decide +kernel
theorem dX8_recover_57 : decode cX8_recover 57 = .ok (.aload_n 0, 1) := by decide +kernel
theorem dX8_recover_58 : decode cX8_recover 58 = .ok (.iload_n 3, 1) := by decide +kernel
theorem dX8_recover_59 : decode cX8_recover 59 = .ok (.iload 4, 2) := by decide +kernel
theorem dX8_recover_61 : decode cX8_recover 61 = .ok (.invokevirtual 93, 3) := by decide +kernel
theorem dX8_recover_64 : decode cX8_recover 64 = .ok (.iload 4, 2) := by decide +kernel
theorem dX8_recover_66 : decode cX8_recover 66 = .ok (.iload_n 2, 1) := by decide +kernel
theorem dX8_recover_67 : decode cX8_recover 67 = .ok (.iconst 2, 1) := by decide +kernel
theorem dX8_recover_68 : decode cX8_recover 68 = .ok (.irem, 1) := by decide +kernel
theorem dX8_recover_69 : decode cX8_recover 69 = .ok (.invokestatic 110, 3) := by decide +kernel
theorem dX8_recover_72 : decode cX8_recover 72 = .ok (.iaload, 1) := by decide +kernel
theorem dX8_recover_73 : decode cX8_recover 73 = .ok (.isub, 1) := by decide +kernel
theorem dX8_recover_74 : decode cX8_recover 74 = .ok (.istore 5, 2) := by decide +kernel
theorem dX8_recover_76 : decode cX8_recover 76 = .ok (.iconst 0, 1) := by decide +kernel
theorem dX8_recover_77 : decode cX8_recover 77 = .ok (.istore 6, 2) := by decide +kernel
theorem dX8_recover_79 : decode cX8_recover 79 = .ok (.iload 6, 2) := by decide +kernel
theorem dX8_recover_81 : decode cX8_recover 81 = .ok (.iconst 5, 1) := by decide +kernel
theorem dX8_recover_82 : decode cX8_recover 82 = .ok (.if_icmp .ge 25, 3) := by decide +kernel
theorem dX8_recover_85 : decode cX8_recover 85 = .ok (.iload 5, 2) := by decide +kernel
theorem dX8_recover_87 : decode cX8_recover 87 = .ok (.aload_n 0, 1) := by decide +kernel
theorem dX8_recover_88 : decode cX8_recover 88 = .ok (.getfield 29, 3) := by decide +kernel
theorem dX8_recover_91 : decode cX8_recover 91 = .ok (.iconst 5, 1) := by decide +kernel
theorem dX8_recover_92 : decode cX8_recover 92 = .ok (.iload_n 2, 1) := by decide +kernel
theorem dX8_recover_93 : decode cX8_recover 93 = .ok (.imul, 1) := by decide +kernel
theorem dX8_recover_94 : decode cX8_recover 94 = .ok (.iload 6, 2) := by decide +kernel
theorem dX8_recover_96 : decode cX8_recover 96 = .ok (.iadd, 1) := by decide +kernel
theorem dX8_recover_97 : decode cX8_recover 97 = .ok (.iaload, 1) := by decide +kernel
theorem dX8_recover_98 : decode cX8_recover 98 = .ok (.isub, 1) := by decide +kernel
theorem dX8_recover_99 : decode cX8_recover 99 = .ok (.istore 5, 2) := by decide +kernel
theorem dX8_recover_101 : decode cX8_recover 101 = .ok (.iinc 6 1, 3) := by decide +kernel
theorem dX8_recover_104 : decode cX8_recover 104 = .ok (.goto (-25), 3) := by decide +kernel
theorem dX8_recover_107 : decode cX8_recover 107 = .ok (.iload_n 1, 1) := by decide +kernel
theorem dX8_recover_108 : decode cX8_recover 108 = .ok (.iload 5, 2) := by decide +kernel
theorem dX8_recover_110 : decode cX8_recover 110 = .ok (.aload_n 0, 1) := by decide +kernel
theorem dX8_recover_111 : decode cX8_recover 111 = .ok (.getfield 26, 3) := by decide +kernel
theorem dX8_recover_114 : decode cX8_recover 114 = .ok (.iload_n 2, 1) := by decide +kernel
theorem dX8_recover_115 : decode cX8_recover 115 = .ok (.iaload, 1) := by decide +kernel
theorem dX8_recover_116 : decode cX8_recover 116 = .ok (.isub, 1) := by decide +kernel
theorem dX8_recover_117 : decode cX8_recover 117 = .ok (.iadd, 1) := by decide +kernel
theorem dX8_recover_118 : decode cX8_recover 118 = .ok (.istore_n 1, 1) := by decide +kernel
theorem dX8_recover_119 : decode cX8_recover 119 = .ok (.aload_n 0, 1) := by decide +kernel
theorem dX8_recover_120 : decode cX8_recover 120 = .ok (.getfield 26, 3) := by decide +kernel
theorem dX8_recover_123 : decode cX8_recover 123 = .ok (.iload_n 2, 1) := by decide +kernel
theorem dX8_recover_124 : decode cX8_recover 124 = .ok (.iload 5, 2) := by decide +kernel
theorem dX8_recover_126 : decode cX8_recover 126 = .ok (.iastore, 1) := by decide +kernel
theorem dX8_recover_127 : decode cX8_recover 127 = .ok (.iinc 2 1, 3) := by decide +kernel
theorem dX8_recover_130 : decode cX8_recover 130 = .ok (.goto (-121), 3) := by decide +kernel
theorem dX8_recover_133 : decode cX8_recover 133 = .ok (.iload_n 1, 1) := by decide +kernel
theorem dX8_recover_134 : decode cX8_recover 134 = .ok (.ireturn, 1) := by decide +kernel
theorem dX8_tick_0 : decode cX8_tick 0 = .ok (.aload_n 0, 1) := by decide +kernel
theorem dX8_tick_1 : decode cX8_tick 1 = .ok (.iconst 0, 1) := by decide +kernel
theorem dX8_tick_2 : decode cX8_tick 2 = .ok (.putfield 79, 3) := by decide +kernel
theorem dX8_tick_5 : decode cX8_tick 5 = .ok (.aload_n 0, 1) := by decide +kernel
theorem dX8_tick_6 : decode cX8_tick 6 = .ok (.getfield 100, 3) := by decide +kernel
theorem dX8_tick_9 : decode cX8_tick 9 = .ok (.ireturn, 1) := by decide +kernel
theorem dX8_packets_0 : decode cX8_packets 0 = .ok (.aload_n 0, 1) := by decide +kernel
theorem dX8_packets_1 : decode cX8_packets 1 = .ok (.iconst 0, 1) := by decide +kernel
theorem dX8_packets_2 : decode cX8_packets 2 = .ok (.putfield 79, 3) := by decide +kernel
theorem dX8_packets_5 : decode cX8_packets 5 = .ok (.aload_n 0, 1) := by decide +kernel
theorem dX8_packets_6 : decode cX8_packets 6 = .ok (.getfield 82, 3) := by decide +kernel
theorem dX8_packets_9 : decode cX8_packets 9 = .ok (.ireturn, 1) := by decide +kernel
theorem dX8_arrived_0 : decode cX8_arrived 0 = .ok (.aload_n 0, 1) := by decide +kernel
theorem dX8_arrived_1 : decode cX8_arrived 1 = .ok (.iconst 0, 1) := by decide +kernel
theorem dX8_arrived_2 : decode cX8_arrived 2 = .ok (.putfield 79, 3) := by decide +kernel
theorem dX8_arrived_5 : decode cX8_arrived 5 = .ok (.aload_n 0, 1) := by decide +kernel
theorem dX8_arrived_6 : decode cX8_arrived 6 = .ok (.getfield 103, 3) := by decide +kernel
theorem dX8_arrived_9 : decode cX8_arrived 9 = .ok (.ireturn, 1) := by decide +kernel
set_option maxRecDepth 20000 in
theorem ggX8_credits_X8_isLink : GoodIn wsX8_credits wsX8_isLink := goodIn_r _ [6, 7, 8, 9, 5, 10, 11, 12, 13, 14, 15, 16, 17, 18, 19, 28, 29, 30, 31, 32, 33, 34, 35, 36, 37, 38, 39, 40, 41, 42, 43, 44, 45, 46, 47, 48, 49, 50, 51, 52, 53] (by decide +kernel) (by decide +kernel)
set_option maxRecDepth 20000 in
theorem gX8_credits_X8_isLink : GoodIn wsX8_credits (wsV RX8 147 RX8 yX8_isLink wsX8_isLink) := goodIn_app (goodIn_of _ (by decide +kernel)) ggX8_credits_X8_isLink
set_option maxRecDepth 20000 in
theorem ggX8_credits_X8_isWithin : GoodIn wsX8_credits wsX8_isWithin := goodIn_r _ [15] (by decide +kernel) (by decide +kernel)
set_option maxRecDepth 20000 in
theorem gX8_credits_X8_isWithin : GoodIn wsX8_credits (va_wsS RX8 89 yX8_isWithin wsX8_isWithin) := goodIn_app (goodIn_of _ (by decide +kernel)) ggX8_credits_X8_isWithin
set_option maxRecDepth 20000 in
theorem ggX8_credits_X8_goes : GoodIn wsX8_credits wsX8_goes := goodIn_r _ [23, 24, 28, 29, 30, 31, 32, 33, 34, 35, 36, 37, 38, 39, 40, 41, 42, 43, 44, 45, 46, 47, 48, 49, 50, 51, 52, 53] (by decide +kernel) (by decide +kernel)
set_option maxRecDepth 20000 in
theorem gX8_credits_X8_goes : GoodIn wsX8_credits (wsV RX8 106 RX8 yX8_goes wsX8_goes) := goodIn_app (goodIn_of _ (by decide +kernel)) ggX8_credits_X8_goes
set_option maxRecDepth 20000 in
theorem ggX8_credits_X8_linkOf : GoodIn wsX8_credits wsX8_linkOf := goodIn_r _ [27] (by decide +kernel) (by decide +kernel)
set_option maxRecDepth 20000 in
theorem gX8_credits_X8_linkOf : GoodIn wsX8_credits (va_wsS RX8 118 yX8_linkOf wsX8_linkOf) := goodIn_app (goodIn_of _ (by decide +kernel)) ggX8_credits_X8_linkOf
theorem dX8_credits_0 : decode cX8_credits 0 = .ok (.aload_n 0, 1) := by decide +kernel
theorem dX8_credits_1 : decode cX8_credits 1 = .ok (.aload_n 0, 1) := by decide +kernel
theorem dX8_credits_2 : decode cX8_credits 2 = .ok (.iload_n 1, 1) := by decide +kernel
theorem dX8_credits_3 : decode cX8_credits 3 = .ok (.iload_n 2, 1) := by decide +kernel
theorem dX8_credits_4 : decode cX8_credits 4 = .ok (.invokevirtual 147, 3) := by decide +kernel
theorem dX8_credits_7 : decode cX8_credits 7 = .ok (.iload_n 3, 1) := by decide +kernel
theorem dX8_credits_8 : decode cX8_credits 8 = .ok (.iconst 0, 1) := by decide +kernel
theorem dX8_credits_9 : decode cX8_credits 9 = .ok (.iconst 1, 1) := by decide +kernel
theorem dX8_credits_10 : decode cX8_credits 10 = .ok (.invokestatic 89, 3) := by decide +kernel
theorem dX8_credits_13 : decode cX8_credits 13 = .ok (.iconst 1, 1) := by decide +kernel
theorem dX8_credits_14 : decode cX8_credits 14 = .ok (.invokevirtual 106, 3) := by decide +kernel
theorem dX8_credits_17 : decode cX8_credits 17 = .ok (.ifCond .eq 17, 3) := by decide +kernel
theorem dX8_credits_20 : decode cX8_credits 20 = .ok (.aload_n 0, 1) := by decide +kernel
theorem dX8_credits_21 : decode cX8_credits 21 = .ok (.getfield 26, 3) := by decide +kernel
theorem dX8_credits_24 : decode cX8_credits 24 = .ok (.iload_n 1, 1) := by decide +kernel
theorem dX8_credits_25 : decode cX8_credits 25 = .ok (.iload_n 2, 1) := by decide +kernel
theorem dX8_credits_26 : decode cX8_credits 26 = .ok (.iload_n 3, 1) := by decide +kernel
theorem dX8_credits_27 : decode cX8_credits 27 = .ok (.invokestatic 118, 3) := by decide +kernel
theorem dX8_credits_30 : decode cX8_credits 30 = .ok (.iaload, 1) := by decide +kernel
theorem dX8_credits_31 : decode cX8_credits 31 = .ok (.goto 4, 3) := by decide +kernel
theorem dX8_credits_34 : decode cX8_credits 34 = .ok (.iconst 0, 1) := by decide +kernel
theorem dX8_credits_35 : decode cX8_credits 35 = .ok (.ireturn, 1) := by decide +kernel
set_option maxRecDepth 20000 in
theorem ggX8_inBuffer_X8_isSwitch : GoodIn wsX8_inBuffer wsX8_isSwitch := goodIn_r _ [6, 7, 8, 20, 21, 22, 23, 24, 25, 26, 27, 28, 29, 30, 31, 32, 33, 34, 35, 36, 37, 38, 39, 40, 41, 42, 43, 44, 45] (by decide +kernel) (by decide +kernel)
set_option maxRecDepth 20000 in
theorem gX8_inBuffer_X8_isSwitch : GoodIn wsX8_inBuffer (wsV RX8 85 RX8 yX8_isSwitch wsX8_isSwitch) := goodIn_app (goodIn_of _ (by decide +kernel)) ggX8_inBuffer_X8_isSwitch
set_option maxRecDepth 20000 in
theorem ggX8_inBuffer_X8_isWithin : GoodIn wsX8_inBuffer wsX8_isWithin := goodIn_r _ [11] (by decide +kernel) (by decide +kernel)
set_option maxRecDepth 20000 in
theorem gX8_inBuffer_X8_isWithin : GoodIn wsX8_inBuffer (va_wsS RX8 89 yX8_isWithin wsX8_isWithin) := goodIn_app (goodIn_of _ (by decide +kernel)) ggX8_inBuffer_X8_isWithin
set_option maxRecDepth 20000 in
theorem ggX8_inBuffer_X8_goes : GoodIn wsX8_inBuffer wsX8_goes := goodIn_r _ [15, 16, 20, 21, 22, 23, 24, 25, 26, 27, 28, 29, 30, 31, 32, 33, 34, 35, 36, 37, 38, 39, 40, 41, 42, 43, 44, 45] (by decide +kernel) (by decide +kernel)
set_option maxRecDepth 20000 in
theorem gX8_inBuffer_X8_goes : GoodIn wsX8_inBuffer (wsV RX8 106 RX8 yX8_goes wsX8_goes) := goodIn_app (goodIn_of _ (by decide +kernel)) ggX8_inBuffer_X8_goes
set_option maxRecDepth 20000 in
theorem ggX8_inBuffer_X8_bufferOf : GoodIn wsX8_inBuffer wsX8_bufferOf := goodIn_r _ [19] (by decide +kernel) (by decide +kernel)
set_option maxRecDepth 20000 in
theorem gX8_inBuffer_X8_bufferOf : GoodIn wsX8_inBuffer (va_wsS RX8 110 yX8_bufferOf wsX8_bufferOf) := goodIn_app (goodIn_of _ (by decide +kernel)) ggX8_inBuffer_X8_bufferOf
theorem dX8_inBuffer_0 : decode cX8_inBuffer 0 = .ok (.aload_n 0, 1) := by decide +kernel
theorem dX8_inBuffer_1 : decode cX8_inBuffer 1 = .ok (.aload_n 0, 1) := by decide +kernel
theorem dX8_inBuffer_2 : decode cX8_inBuffer 2 = .ok (.iload_n 1, 1) := by decide +kernel
theorem dX8_inBuffer_3 : decode cX8_inBuffer 3 = .ok (.invokevirtual 85, 3) := by decide +kernel
theorem dX8_inBuffer_6 : decode cX8_inBuffer 6 = .ok (.iload_n 2, 1) := by decide +kernel
theorem dX8_inBuffer_7 : decode cX8_inBuffer 7 = .ok (.iconst 0, 1) := by decide +kernel
theorem dX8_inBuffer_8 : decode cX8_inBuffer 8 = .ok (.iconst 4, 1) := by decide +kernel
theorem dX8_inBuffer_9 : decode cX8_inBuffer 9 = .ok (.invokestatic 89, 3) := by decide +kernel
theorem dX8_inBuffer_12 : decode cX8_inBuffer 12 = .ok (.ifCond .eq 16, 3) := by decide +kernel
theorem dX8_inBuffer_15 : decode cX8_inBuffer 15 = .ok (.iload_n 3, 1) := by decide +kernel
theorem dX8_inBuffer_16 : decode cX8_inBuffer 16 = .ok (.iconst 0, 1) := by decide +kernel
theorem dX8_inBuffer_17 : decode cX8_inBuffer 17 = .ok (.iconst 1, 1) := by decide +kernel
theorem dX8_inBuffer_18 : decode cX8_inBuffer 18 = .ok (.invokestatic 89, 3) := by decide +kernel
theorem dX8_inBuffer_21 : decode cX8_inBuffer 21 = .ok (.ifCond .eq 7, 3) := by decide +kernel
theorem dX8_inBuffer_24 : decode cX8_inBuffer 24 = .ok (.iconst 1, 1) := by decide +kernel
theorem dX8_inBuffer_25 : decode cX8_inBuffer 25 = .ok (.goto 4, 3) := by decide +kernel
theorem dX8_inBuffer_28 : decode cX8_inBuffer 28 = .ok (.iconst 0, 1) := by decide +kernel
theorem dX8_inBuffer_29 : decode cX8_inBuffer 29 = .ok (.iconst 1, 1) := by decide +kernel
theorem dX8_inBuffer_30 : decode cX8_inBuffer 30 = .ok (.invokevirtual 106, 3) := by decide +kernel
theorem dX8_inBuffer_33 : decode cX8_inBuffer 33 = .ok (.ifCond .eq 17, 3) := by decide +kernel
theorem dX8_inBuffer_36 : decode cX8_inBuffer 36 = .ok (.aload_n 0, 1) := by decide +kernel
theorem dX8_inBuffer_37 : decode cX8_inBuffer 37 = .ok (.getfield 23, 3) := by decide +kernel
theorem dX8_inBuffer_40 : decode cX8_inBuffer 40 = .ok (.iload_n 1, 1) := by decide +kernel
theorem dX8_inBuffer_41 : decode cX8_inBuffer 41 = .ok (.iload_n 2, 1) := by decide +kernel
theorem dX8_inBuffer_42 : decode cX8_inBuffer 42 = .ok (.iload_n 3, 1) := by decide +kernel
theorem dX8_inBuffer_43 : decode cX8_inBuffer 43 = .ok (.invokestatic 110, 3) := by decide +kernel
theorem dX8_inBuffer_46 : decode cX8_inBuffer 46 = .ok (.iaload, 1) := by decide +kernel
theorem dX8_inBuffer_47 : decode cX8_inBuffer 47 = .ok (.goto 4, 3) := by decide +kernel
theorem dX8_inBuffer_50 : decode cX8_inBuffer 50 = .ok (.iconst 0, 1) := by decide +kernel
theorem dX8_inBuffer_51 : decode cX8_inBuffer 51 = .ok (.ireturn, 1) := by decide +kernel
set_option maxRecDepth 20000 in
theorem ggX8_gap_X8_isSwitch : GoodIn wsX8_gap wsX8_isSwitch := goodIn_r _ [6, 7, 8, 14, 15, 16, 17, 18, 19, 20, 21, 22, 23, 24, 25, 26, 27, 28, 29, 30, 31, 32, 33, 34, 35, 36, 37, 38, 39] (by decide +kernel) (by decide +kernel)
set_option maxRecDepth 20000 in
theorem gX8_gap_X8_isSwitch : GoodIn wsX8_gap (wsV RX8 85 RX8 yX8_isSwitch wsX8_isSwitch) := goodIn_app (goodIn_of _ (by decide +kernel)) ggX8_gap_X8_isSwitch
set_option maxRecDepth 20000 in
theorem ggX8_gap_X8_goes : GoodIn wsX8_gap wsX8_goes := goodIn_r _ [12, 13, 14, 15, 16, 17, 18, 19, 20, 21, 22, 23, 24, 25, 26, 27, 28, 29, 30, 31, 32, 33, 34, 35, 36, 37, 38, 39] (by decide +kernel) (by decide +kernel)
set_option maxRecDepth 20000 in
theorem gX8_gap_X8_goes : GoodIn wsX8_gap (wsV RX8 106 RX8 yX8_goes wsX8_goes) := goodIn_app (goodIn_of _ (by decide +kernel)) ggX8_gap_X8_goes
theorem dX8_gap_0 : decode cX8_gap 0 = .ok (.aload_n 0, 1) := by decide +kernel
theorem dX8_gap_1 : decode cX8_gap 1 = .ok (.aload_n 0, 1) := by decide +kernel
theorem dX8_gap_2 : decode cX8_gap 2 = .ok (.iload_n 1, 1) := by decide +kernel
theorem dX8_gap_3 : decode cX8_gap 3 = .ok (.invokevirtual 85, 3) := by decide +kernel
theorem dX8_gap_6 : decode cX8_gap 6 = .ok (.iconst 1, 1) := by decide +kernel
theorem dX8_gap_7 : decode cX8_gap 7 = .ok (.iconst 1, 1) := by decide +kernel
theorem dX8_gap_8 : decode cX8_gap 8 = .ok (.invokevirtual 106, 3) := by decide +kernel
theorem dX8_gap_11 : decode cX8_gap 11 = .ok (.ifCond .eq 12, 3) := by decide +kernel
theorem dX8_gap_14 : decode cX8_gap 14 = .ok (.aload_n 0, 1) := by decide +kernel
theorem dX8_gap_15 : decode cX8_gap 15 = .ok (.getfield 35, 3) := by decide +kernel
theorem dX8_gap_18 : decode cX8_gap 18 = .ok (.iload_n 1, 1) := by decide +kernel
theorem dX8_gap_19 : decode cX8_gap 19 = .ok (.iaload, 1) := by decide +kernel
theorem dX8_gap_20 : decode cX8_gap 20 = .ok (.goto 4, 3) := by decide +kernel
theorem dX8_gap_23 : decode cX8_gap 23 = .ok (.iconst 0, 1) := by decide +kernel
theorem dX8_gap_24 : decode cX8_gap 24 = .ok (.ireturn, 1) := by decide +kernel
set_option maxRecDepth 20000 in
theorem ggX8_placeOf_X8_isPacket : GoodIn wsX8_placeOf wsX8_isPacket := goodIn_r _ [6, 7, 13, 14, 15, 16, 17, 18, 19, 20, 21, 22, 23, 24, 25, 26, 27, 28, 29, 30, 31, 32, 33, 34, 35, 36, 37, 38] (by decide +kernel) (by decide +kernel)
set_option maxRecDepth 20000 in
theorem gX8_placeOf_X8_isPacket : GoodIn wsX8_placeOf (wsV RX8 151 RX8 yX8_isPacket wsX8_isPacket) := goodIn_app (goodIn_of _ (by decide +kernel)) ggX8_placeOf_X8_isPacket
set_option maxRecDepth 20000 in
theorem ggX8_placeOf_X8_goes : GoodIn wsX8_placeOf wsX8_goes := goodIn_r _ [11, 12, 13, 14, 15, 16, 17, 18, 19, 20, 21, 22, 23, 24, 25, 26, 27, 28, 29, 30, 31, 32, 33, 34, 35, 36, 37, 38] (by decide +kernel) (by decide +kernel)
set_option maxRecDepth 20000 in
theorem gX8_placeOf_X8_goes : GoodIn wsX8_placeOf (wsV RX8 106 RX8 yX8_goes wsX8_goes) := goodIn_app (goodIn_of _ (by decide +kernel)) ggX8_placeOf_X8_goes
theorem dX8_placeOf_0 : decode cX8_placeOf 0 = .ok (.aload_n 0, 1) := by decide +kernel
theorem dX8_placeOf_1 : decode cX8_placeOf 1 = .ok (.aload_n 0, 1) := by decide +kernel
theorem dX8_placeOf_2 : decode cX8_placeOf 2 = .ok (.iload_n 1, 1) := by decide +kernel
theorem dX8_placeOf_3 : decode cX8_placeOf 3 = .ok (.invokevirtual 151, 3) := by decide +kernel
theorem dX8_placeOf_6 : decode cX8_placeOf 6 = .ok (.iconst 1, 1) := by decide +kernel
theorem dX8_placeOf_7 : decode cX8_placeOf 7 = .ok (.iconst 1, 1) := by decide +kernel
theorem dX8_placeOf_8 : decode cX8_placeOf 8 = .ok (.invokevirtual 106, 3) := by decide +kernel
theorem dX8_placeOf_11 : decode cX8_placeOf 11 = .ok (.ifCond .eq 12, 3) := by decide +kernel
theorem dX8_placeOf_14 : decode cX8_placeOf 14 = .ok (.aload_n 0, 1) := by decide +kernel
theorem dX8_placeOf_15 : decode cX8_placeOf 15 = .ok (.getfield 57, 3) := by decide +kernel
theorem dX8_placeOf_18 : decode cX8_placeOf 18 = .ok (.iload_n 1, 1) := by decide +kernel
theorem dX8_placeOf_19 : decode cX8_placeOf 19 = .ok (.iaload, 1) := by decide +kernel
theorem dX8_placeOf_20 : decode cX8_placeOf 20 = .ok (.goto 4, 3) := by decide +kernel
theorem dX8_placeOf_23 : decode cX8_placeOf 23 = .ok (.iconst 0, 1) := by decide +kernel
theorem dX8_placeOf_24 : decode cX8_placeOf 24 = .ok (.ireturn, 1) := by decide +kernel
set_option maxRecDepth 20000 in
theorem ggX8_hops_X8_isPacket : GoodIn wsX8_hops wsX8_isPacket := goodIn_r _ [6, 7, 13, 14, 15, 16, 17, 18, 19, 20, 21, 22, 23, 24, 25, 26, 27, 28, 29, 30, 31, 32, 33, 34, 35, 36, 37, 38] (by decide +kernel) (by decide +kernel)
set_option maxRecDepth 20000 in
theorem gX8_hops_X8_isPacket : GoodIn wsX8_hops (wsV RX8 151 RX8 yX8_isPacket wsX8_isPacket) := goodIn_app (goodIn_of _ (by decide +kernel)) ggX8_hops_X8_isPacket
set_option maxRecDepth 20000 in
theorem ggX8_hops_X8_goes : GoodIn wsX8_hops wsX8_goes := goodIn_r _ [11, 12, 13, 14, 15, 16, 17, 18, 19, 20, 21, 22, 23, 24, 25, 26, 27, 28, 29, 30, 31, 32, 33, 34, 35, 36, 37, 38] (by decide +kernel) (by decide +kernel)
set_option maxRecDepth 20000 in
theorem gX8_hops_X8_goes : GoodIn wsX8_hops (wsV RX8 106 RX8 yX8_goes wsX8_goes) := goodIn_app (goodIn_of _ (by decide +kernel)) ggX8_hops_X8_goes
theorem dX8_hops_0 : decode cX8_hops 0 = .ok (.aload_n 0, 1) := by decide +kernel
theorem dX8_hops_1 : decode cX8_hops 1 = .ok (.aload_n 0, 1) := by decide +kernel
theorem dX8_hops_2 : decode cX8_hops 2 = .ok (.iload_n 1, 1) := by decide +kernel
theorem dX8_hops_3 : decode cX8_hops 3 = .ok (.invokevirtual 151, 3) := by decide +kernel
theorem dX8_hops_6 : decode cX8_hops 6 = .ok (.iconst 1, 1) := by decide +kernel
theorem dX8_hops_7 : decode cX8_hops 7 = .ok (.iconst 1, 1) := by decide +kernel
theorem dX8_hops_8 : decode cX8_hops 8 = .ok (.invokevirtual 106, 3) := by decide +kernel
theorem dX8_hops_11 : decode cX8_hops 11 = .ok (.ifCond .eq 12, 3) := by decide +kernel
theorem dX8_hops_14 : decode cX8_hops 14 = .ok (.aload_n 0, 1) := by decide +kernel
theorem dX8_hops_15 : decode cX8_hops 15 = .ok (.getfield 60, 3) := by decide +kernel
theorem dX8_hops_18 : decode cX8_hops 18 = .ok (.iload_n 1, 1) := by decide +kernel
theorem dX8_hops_19 : decode cX8_hops 19 = .ok (.iaload, 1) := by decide +kernel
theorem dX8_hops_20 : decode cX8_hops 20 = .ok (.goto 4, 3) := by decide +kernel
theorem dX8_hops_23 : decode cX8_hops 23 = .ok (.iconst 0, 1) := by decide +kernel
theorem dX8_hops_24 : decode cX8_hops 24 = .ok (.ireturn, 1) := by decide +kernel
set_option maxRecDepth 20000 in
theorem ggX8_isMarked_X8_isPacket : GoodIn wsX8_isMarked wsX8_isPacket := goodIn_r _ [6, 7, 13, 14, 15, 16, 17, 18, 19, 20, 21, 22, 23, 24, 25, 26, 27, 28, 29, 30, 31, 32, 33, 34, 35, 36, 37, 38] (by decide +kernel) (by decide +kernel)
set_option maxRecDepth 20000 in
theorem gX8_isMarked_X8_isPacket : GoodIn wsX8_isMarked (wsV RX8 151 RX8 yX8_isPacket wsX8_isPacket) := goodIn_app (goodIn_of _ (by decide +kernel)) ggX8_isMarked_X8_isPacket
set_option maxRecDepth 20000 in
theorem ggX8_isMarked_X8_goes : GoodIn wsX8_isMarked wsX8_goes := goodIn_r _ [11, 12, 13, 14, 15, 16, 17, 18, 19, 20, 21, 22, 23, 24, 25, 26, 27, 28, 29, 30, 31, 32, 33, 34, 35, 36, 37, 38] (by decide +kernel) (by decide +kernel)
set_option maxRecDepth 20000 in
theorem gX8_isMarked_X8_goes : GoodIn wsX8_isMarked (wsV RX8 106 RX8 yX8_goes wsX8_goes) := goodIn_app (goodIn_of _ (by decide +kernel)) ggX8_isMarked_X8_goes
theorem dX8_isMarked_0 : decode cX8_isMarked 0 = .ok (.aload_n 0, 1) := by decide +kernel
theorem dX8_isMarked_1 : decode cX8_isMarked 1 = .ok (.aload_n 0, 1) := by decide +kernel
theorem dX8_isMarked_2 : decode cX8_isMarked 2 = .ok (.iload_n 1, 1) := by decide +kernel
theorem dX8_isMarked_3 : decode cX8_isMarked 3 = .ok (.invokevirtual 151, 3) := by decide +kernel
theorem dX8_isMarked_6 : decode cX8_isMarked 6 = .ok (.iconst 1, 1) := by decide +kernel
theorem dX8_isMarked_7 : decode cX8_isMarked 7 = .ok (.iconst 1, 1) := by decide +kernel
theorem dX8_isMarked_8 : decode cX8_isMarked 8 = .ok (.invokevirtual 106, 3) := by decide +kernel
theorem dX8_isMarked_11 : decode cX8_isMarked 11 = .ok (.ifCond .eq 16, 3) := by decide +kernel
theorem dX8_isMarked_14 : decode cX8_isMarked 14 = .ok (.aload_n 0, 1) := by decide +kernel
theorem dX8_isMarked_15 : decode cX8_isMarked 15 = .ok (.getfield 63, 3) := by decide +kernel
theorem dX8_isMarked_18 : decode cX8_isMarked 18 = .ok (.iload_n 1, 1) := by decide +kernel
theorem dX8_isMarked_19 : decode cX8_isMarked 19 = .ok (.baload, 1) := by decide +kernel
theorem dX8_isMarked_20 : decode cX8_isMarked 20 = .ok (.ifCond .eq 7, 3) := by decide +kernel
theorem dX8_isMarked_23 : decode cX8_isMarked 23 = .ok (.iconst 1, 1) := by decide +kernel
theorem dX8_isMarked_24 : decode cX8_isMarked 24 = .ok (.goto 4, 3) := by decide +kernel
theorem dX8_isMarked_27 : decode cX8_isMarked 27 = .ok (.iconst 0, 1) := by decide +kernel
theorem dX8_isMarked_28 : decode cX8_isMarked 28 = .ok (.ireturn, 1) := by decide +kernel
set_option maxRecDepth 20000 in
theorem ggX8_wants_X8_isPacket : GoodIn wsX8_wants wsX8_isPacket := goodIn_r _ [6, 7, 20, 21, 22, 23, 24, 25, 26, 27, 28, 29, 30, 31, 32, 33, 34, 35, 36, 37, 38, 39, 40, 41, 42, 43, 44, 45] (by decide +kernel) (by decide +kernel)
set_option maxRecDepth 20000 in
theorem gX8_wants_X8_isPacket : GoodIn wsX8_wants (wsV RX8 151 RX8 yX8_isPacket wsX8_isPacket) := goodIn_app (goodIn_of _ (by decide +kernel)) ggX8_wants_X8_isPacket
set_option maxRecDepth 20000 in
theorem ggX8_wants_X8_goes : GoodIn wsX8_wants wsX8_goes := goodIn_r _ [11, 12, 20, 21, 22, 23, 24, 25, 26, 27, 28, 29, 30, 31, 32, 33, 34, 35, 36, 37, 38, 39, 40, 41, 42, 43, 44, 45] (by decide +kernel) (by decide +kernel)
set_option maxRecDepth 20000 in
theorem gX8_wants_X8_goes : GoodIn wsX8_wants (wsV RX8 106 RX8 yX8_goes wsX8_goes) := goodIn_app (goodIn_of _ (by decide +kernel)) ggX8_wants_X8_goes
set_option maxRecDepth 20000 in
theorem ggX8_wants_X8_wanted : GoodIn wsX8_wants wsX8_wanted := goodIn_r _ [16, 17, 18, 19, 20, 21, 22, 23, 24, 25, 26, 27, 28, 29, 30, 31, 32, 33, 34, 35, 36, 37, 38, 39, 40, 41, 42, 43, 44, 45] (by decide +kernel) (by decide +kernel)
set_option maxRecDepth 20000 in
theorem gX8_wants_X8_wanted : GoodIn wsX8_wants (wsV RX8 121 RX8 yX8_wanted wsX8_wanted) := goodIn_app (goodIn_of _ (by decide +kernel)) ggX8_wants_X8_wanted
theorem dX8_wants_0 : decode cX8_wants 0 = .ok (.aload_n 0, 1) := by decide +kernel
theorem dX8_wants_1 : decode cX8_wants 1 = .ok (.aload_n 0, 1) := by decide +kernel
theorem dX8_wants_2 : decode cX8_wants 2 = .ok (.iload_n 1, 1) := by decide +kernel
theorem dX8_wants_3 : decode cX8_wants 3 = .ok (.invokevirtual 151, 3) := by decide +kernel
theorem dX8_wants_6 : decode cX8_wants 6 = .ok (.iconst 1, 1) := by decide +kernel
theorem dX8_wants_7 : decode cX8_wants 7 = .ok (.iconst 1, 1) := by decide +kernel
theorem dX8_wants_8 : decode cX8_wants 8 = .ok (.invokevirtual 106, 3) := by decide +kernel
theorem dX8_wants_11 : decode cX8_wants 11 = .ok (.ifCond .ne 5, 3) := by decide +kernel
theorem dX8_wants_14 : decode cX8_wants 14 = .ok (.iconst 0, 1) := by decide +kernel
theorem dX8_wants_15 : decode cX8_wants 15 = .ok (.ireturn, 1) := by decide +kernel
theorem dX8_wants_16 : decode cX8_wants 16 = .ok (.aload_n 0, 1) := by decide +kernel
theorem dX8_wants_17 : decode cX8_wants 17 = .ok (.getfield 57, 3) := by decide +kernel
theorem dX8_wants_20 : decode cX8_wants 20 = .ok (.iload_n 1, 1) := by decide +kernel
theorem dX8_wants_21 : decode cX8_wants 21 = .ok (.iaload, 1) := by decide +kernel
theorem dX8_wants_22 : decode cX8_wants 22 = .ok (.ifCond .ge 7, 3) := by decide +kernel
theorem dX8_wants_25 : decode cX8_wants 25 = .ok (.iconst (-1), 1) := by decide +kernel
theorem dX8_wants_26 : decode cX8_wants 26 = .ok (.goto 14, 3) := by decide +kernel
theorem dX8_wants_29 : decode cX8_wants 29 = .ok (.aload_n 0, 1) := by decide +kernel
theorem dX8_wants_30 : decode cX8_wants 30 = .ok (.iload_n 1, 1) := by decide +kernel
theorem dX8_wants_31 : decode cX8_wants 31 = .ok (.aload_n 0, 1) := by decide +kernel
theorem dX8_wants_32 : decode cX8_wants 32 = .ok (.getfield 57, 3) := by decide +kernel
theorem dX8_wants_35 : decode cX8_wants 35 = .ok (.iload_n 1, 1) := by decide +kernel
theorem dX8_wants_36 : decode cX8_wants 36 = .ok (.iaload, 1) := by decide +kernel
theorem dX8_wants_37 : decode cX8_wants 37 = .ok (.invokevirtual 121, 3) := by decide +kernel
theorem dX8_wants_40 : decode cX8_wants 40 = .ok (.ireturn, 1) := by decide +kernel
set_option maxRecDepth 20000 in
theorem ggX8_waitsFor_X8_wanted : GoodIn wsX8_waitsFor wsX8_wanted := goodIn_r _ [8, 9, 10, 11, 20, 21, 22, 23, 24, 25, 26, 27, 28, 29, 30, 31, 32, 33, 34, 35, 36, 37, 38, 39, 40, 41, 42, 43, 44, 45] (by decide +kernel) (by decide +kernel)
set_option maxRecDepth 20000 in
theorem gX8_waitsFor_X8_wanted : GoodIn wsX8_waitsFor (wsV RX8 121 RX8 yX8_wanted wsX8_wanted) := goodIn_app (goodIn_of _ (by decide +kernel)) ggX8_waitsFor_X8_wanted
set_option maxRecDepth 20000 in
theorem ggX8_waitsFor_X8_neighbour : GoodIn wsX8_waitsFor wsX8_neighbour := goodIn_r _ [15, 10, 16, 20, 21, 22, 23, 24, 25, 26, 27, 28, 29, 30, 31, 32, 33, 34, 35, 36, 37, 38, 39, 40, 41, 42, 43, 44, 45] (by decide +kernel) (by decide +kernel)
set_option maxRecDepth 20000 in
theorem gX8_waitsFor_X8_neighbour : GoodIn wsX8_waitsFor (wsV RX8 93 RX8 yX8_neighbour wsX8_neighbour) := goodIn_app (goodIn_of _ (by decide +kernel)) ggX8_waitsFor_X8_neighbour
set_option maxRecDepth 20000 in
theorem ggX8_waitsFor_X8_bufferOf : GoodIn wsX8_waitsFor wsX8_bufferOf := goodIn_r _ [19] (by decide +kernel) (by decide +kernel)
set_option maxRecDepth 20000 in
theorem gX8_waitsFor_X8_bufferOf : GoodIn wsX8_waitsFor (va_wsS RX8 110 yX8_bufferOf wsX8_bufferOf) := goodIn_app (goodIn_of _ (by decide +kernel)) ggX8_waitsFor_X8_bufferOf
theorem dX8_waitsFor_0 : decode cX8_waitsFor 0 = .ok (.aload_n 0, 1) := by decide +kernel
theorem dX8_waitsFor_1 : decode cX8_waitsFor 1 = .ok (.getfield 23, 3) := by decide +kernel
theorem dX8_waitsFor_4 : decode cX8_waitsFor 4 = .ok (.iload_n 1, 1) := by decide +kernel
theorem dX8_waitsFor_5 : decode cX8_waitsFor 5 = .ok (.iaload, 1) := by decide +kernel
theorem dX8_waitsFor_6 : decode cX8_waitsFor 6 = .ok (.ifCond .ne 5, 3) := by decide +kernel
theorem dX8_waitsFor_9 : decode cX8_waitsFor 9 = .ok (.iconst (-1), 1) := by decide +kernel
theorem dX8_waitsFor_10 : decode cX8_waitsFor 10 = .ok (.ireturn, 1) := by decide +kernel
theorem dX8_waitsFor_11 : decode cX8_waitsFor 11 = .ok (.iload_n 1, 1) := by decide +kernel
theorem dX8_waitsFor_12 : decode cX8_waitsFor 12 = .ok (.bipush 10, 2) := by decide +kernel
theorem dX8_waitsFor_14 : decode cX8_waitsFor 14 = .ok (.idiv, 1) := by decide +kernel
theorem dX8_waitsFor_15 : decode cX8_waitsFor 15 = .ok (.istore_n 2, 1) := by decide +kernel
theorem dX8_waitsFor_16 : decode cX8_waitsFor 16 = .ok (.aload_n 0, 1) := by decide +kernel
theorem dX8_waitsFor_17 : decode cX8_waitsFor 17 = .ok (.aload_n 0, 1) := by decide +kernel
theorem dX8_waitsFor_18 : decode cX8_waitsFor 18 = .ok (.getfield 19, 3) := by decide +kernel
theorem dX8_waitsFor_21 : decode cX8_waitsFor 21 = .ok (.iconst 3, 1) := by decide +kernel
theorem dX8_waitsFor_22 : decode cX8_waitsFor 22 = .ok (.iload_n 1, 1) := by decide +kernel
theorem dX8_waitsFor_23 : decode cX8_waitsFor 23 = .ok (.imul, 1) := by decide +kernel
theorem dX8_waitsFor_24 : decode cX8_waitsFor 24 = .ok (.iaload, 1) := by decide +kernel
theorem dX8_waitsFor_25 : decode cX8_waitsFor 25 = .ok (.iload_n 2, 1) := by decide +kernel
theorem dX8_waitsFor_26 : decode cX8_waitsFor 26 = .ok (.invokevirtual 121, 3) := by decide +kernel
theorem dX8_waitsFor_29 : decode cX8_waitsFor 29 = .ok (.istore_n 3, 1) := by decide +kernel
theorem dX8_waitsFor_30 : decode cX8_waitsFor 30 = .ok (.iload_n 3, 1) := by decide +kernel
theorem dX8_waitsFor_31 : decode cX8_waitsFor 31 = .ok (.iconst 4, 1) := by decide +kernel
theorem dX8_waitsFor_32 : decode cX8_waitsFor 32 = .ok (.if_icmp .ne 5, 3) := by decide +kernel
theorem dX8_waitsFor_35 : decode cX8_waitsFor 35 = .ok (.iconst (-1), 1) := by decide +kernel
theorem dX8_waitsFor_36 : decode cX8_waitsFor 36 = .ok (.ireturn, 1) := by decide +kernel
theorem dX8_waitsFor_37 : decode cX8_waitsFor 37 = .ok (.aload_n 0, 1) := by decide +kernel
theorem dX8_waitsFor_38 : decode cX8_waitsFor 38 = .ok (.iload_n 2, 1) := by decide +kernel
theorem dX8_waitsFor_39 : decode cX8_waitsFor 39 = .ok (.iload_n 3, 1) := by decide +kernel
theorem dX8_waitsFor_40 : decode cX8_waitsFor 40 = .ok (.invokevirtual 93, 3) := by decide +kernel
theorem dX8_waitsFor_43 : decode cX8_waitsFor 43 = .ok (.iload_n 3, 1) := by decide +kernel
theorem dX8_waitsFor_44 : decode cX8_waitsFor 44 = .ok (.iload_n 1, 1) := by decide +kernel
theorem dX8_waitsFor_45 : decode cX8_waitsFor 45 = .ok (.iconst 2, 1) := by decide +kernel
theorem dX8_waitsFor_46 : decode cX8_waitsFor 46 = .ok (.irem, 1) := by decide +kernel
theorem dX8_waitsFor_47 : decode cX8_waitsFor 47 = .ok (.invokestatic 110, 3) := by decide +kernel
theorem dX8_waitsFor_50 : decode cX8_waitsFor 50 = .ok (.istore 4, 2) := by decide +kernel
theorem dX8_waitsFor_52 : decode cX8_waitsFor 52 = .ok (.aload_n 0, 1) := by decide +kernel
theorem dX8_waitsFor_53 : decode cX8_waitsFor 53 = .ok (.getfield 23, 3) := by decide +kernel
theorem dX8_waitsFor_56 : decode cX8_waitsFor 56 = .ok (.iload 4, 2) := by decide +kernel
theorem dX8_waitsFor_58 : decode cX8_waitsFor 58 = .ok (.iaload, 1) := by decide +kernel
theorem dX8_waitsFor_59 : decode cX8_waitsFor 59 = .ok (.aload_n 0, 1) := by decide +kernel
theorem dX8_waitsFor_60 : decode cX8_waitsFor 60 = .ok (.getfield 16, 3) := by decide +kernel
theorem dX8_waitsFor_63 : decode cX8_waitsFor 63 = .ok (.if_icmp .ne 8, 3) := by decide +kernel
theorem dX8_waitsFor_66 : decode cX8_waitsFor 66 = .ok (.iload 4, 2) := by decide +kernel
theorem dX8_waitsFor_68 : decode cX8_waitsFor 68 = .ok (.goto 4, 3) := by decide +kernel
theorem dX8_waitsFor_71 : decode cX8_waitsFor 71 = .ok (.iconst (-1), 1) := by decide +kernel
theorem dX8_waitsFor_72 : decode cX8_waitsFor 72 = .ok (.ireturn, 1) := by decide +kernel
set_option maxRecDepth 20000 in
theorem ggX8_circle_X8_waitsFor : GoodIn wsX8_circle wsX8_waitsFor := goodIn_r _ [8, 9, 10, 11, 12, 13, 14, 7, 15, 16, 2, 17, 18, 19, 20, 21, 3, 22, 23, 24, 25, 26, 27, 28, 29, 30, 31, 32, 33, 34, 35, 36, 37, 38, 39, 40, 41, 42, 43, 44, 45, 46, 47, 48, 49, 50] (by decide +kernel) (by decide +kernel)
set_option maxRecDepth 20000 in
theorem gX8_circle_X8_waitsFor : GoodIn wsX8_circle (wsV RX8 154 RX8 yX8_waitsFor wsX8_waitsFor) := goodIn_app (goodIn_of _ (by decide +kernel)) ggX8_circle_X8_waitsFor
theorem dX8_circle_0 : decode cX8_circle 0 = .ok (.aload_n 0, 1) := by decide +kernel
theorem dX8_circle_1 : decode cX8_circle 1 = .ok (.iconst 0, 1) := by decide +kernel
theorem dX8_circle_2 : decode cX8_circle 2 = .ok (.putfield 79, 3) := by decide +kernel
theorem dX8_circle_5 : decode cX8_circle 5 = .ok (.aload_n 0, 1) := by decide +kernel
theorem dX8_circle_6 : decode cX8_circle 6 = .ok (.getfield 7, 3) := by decide +kernel
theorem dX8_circle_9 : decode cX8_circle 9 = .ok (.aload_n 0, 1) := by decide +kernel
theorem dX8_circle_10 : decode cX8_circle 10 = .ok (.getfield 13, 3) := by decide +kernel
theorem dX8_circle_13 : decode cX8_circle 13 = .ok (.imul, 1) := by decide +kernel
theorem dX8_circle_14 : decode cX8_circle 14 = .ok (.bipush 10, 2) := by decide +kernel
theorem dX8_circle_16 : decode cX8_circle 16 = .ok (.imul, 1) := by decide +kernel
theorem dX8_circle_17 : decode cX8_circle 17 = .ok (.istore_n 1, 1) := by decide +kernel
theorem dX8_circle_18 : decode cX8_circle 18 = .ok (.iconst 0, 1) := by decide +kernel
theorem dX8_circle_19 : decode cX8_circle 19 = .ok (.istore_n 2, 1) := by decide +kernel
theorem dX8_circle_20 : decode cX8_circle 20 = .ok (.iconst 0, 1) := by decide +kernel
theorem dX8_circle_21 : decode cX8_circle 21 = .ok (.istore_n 3, 1) := by decide +kernel
theorem dX8_circle_22 : decode cX8_circle 22 = .ok (.iload_n 3, 1) := by decide +kernel
theorem dX8_circle_23 : decode cX8_circle 23 = .ok (.iload_n 1, 1) := by decide +kernel
theorem dX8_circle_24 : decode cX8_circle 24 = .ok (.if_icmp .ge 64, 3) := by decide +kernel
theorem dX8_circle_27 : decode cX8_circle 27 = .ok (.aload_n 0, 1) := by decide +kernel
theorem dX8_circle_28 : decode cX8_circle 28 = .ok (.iload_n 3, 1) := by decide +kernel
theorem dX8_circle_29 : decode cX8_circle 29 = .ok (.invokevirtual 154, 3) := by decide +kernel
theorem dX8_circle_32 : decode cX8_circle 32 = .ok (.istore 4, 2) := by decide +kernel
theorem dX8_circle_34 : decode cX8_circle 34 = .ok (.iconst 0, 1) := by decide +kernel
theorem dX8_circle_35 : decode cX8_circle 35 = .ok (.istore 5, 2) := by decide +kernel
theorem dX8_circle_37 : decode cX8_circle 37 = .ok (.iload 5, 2) := by decide +kernel
theorem dX8_circle_39 : decode cX8_circle 39 = .ok (.iload_n 1, 1) := by decide +kernel
theorem dX8_circle_40 : decode cX8_circle 40 = .ok (.if_icmp .ge 28, 3) := by decide +kernel
theorem dX8_circle_43 : decode cX8_circle 43 = .ok (.iload 4, 2) := by decide +kernel
theorem dX8_circle_45 : decode cX8_circle 45 = .ok (.ifCond .lt 23, 3) := by decide +kernel
theorem dX8_circle_48 : decode cX8_circle 48 = .ok (.iload 4, 2) := by decide +kernel
theorem dX8_circle_50 : decode cX8_circle 50 = .ok (.iload_n 3, 1) := by decide +kernel
theorem dX8_circle_51 : decode cX8_circle 51 = .ok (.if_icmp .eq 17, 3) := by decide +kernel
theorem dX8_circle_54 : decode cX8_circle 54 = .ok (.aload_n 0, 1) := by decide +kernel
theorem dX8_circle_55 : decode cX8_circle 55 = .ok (.iload 4, 2) := by decide +kernel
theorem dX8_circle_57 : decode cX8_circle 57 = .ok (.invokevirtual 154, 3) := by decide +kernel
theorem dX8_circle_60 : decode cX8_circle 60 = .ok (.istore 4, 2) := by decide +kernel
theorem dX8_circle_62 : decode cX8_circle 62 = .ok (.iinc 5 1, 3) := by decide +kernel
theorem dX8_circle_65 : decode cX8_circle 65 = .ok (.goto (-28), 3) := by decide +kernel
theorem dX8_circle_68 : decode cX8_circle 68 = .ok (.iload_n 2, 1) := by decide +kernel
theorem dX8_circle_69 : decode cX8_circle 69 = .ok (.iload 4, 2) := by decide +kernel
theorem dX8_circle_71 : decode cX8_circle 71 = .ok (.iload_n 3, 1) := by decide +kernel
theorem dX8_circle_72 : decode cX8_circle 72 = .ok (.if_icmp .ne 7, 3) := by decide +kernel
theorem dX8_circle_75 : decode cX8_circle 75 = .ok (.iconst 1, 1) := by decide +kernel
theorem dX8_circle_76 : decode cX8_circle 76 = .ok (.goto 4, 3) := by decide +kernel
theorem dX8_circle_79 : decode cX8_circle 79 = .ok (.iconst 0, 1) := by decide +kernel
theorem dX8_circle_80 : decode cX8_circle 80 = .ok (.iadd, 1) := by decide +kernel
theorem dX8_circle_81 : decode cX8_circle 81 = .ok (.istore_n 2, 1) := by decide +kernel
theorem dX8_circle_82 : decode cX8_circle 82 = .ok (.iinc 3 1, 3) := by decide +kernel
theorem dX8_circle_85 : decode cX8_circle 85 = .ok (.goto (-63), 3) := by decide +kernel
theorem dX8_circle_88 : decode cX8_circle 88 = .ok (.iload_n 2, 1) := by decide +kernel
theorem dX8_circle_89 : decode cX8_circle 89 = .ok (.ireturn, 1) := by decide +kernel
set_option maxRecDepth 20000 in
theorem ggX8_lays_X8_wanted : GoodIn wsX8_lays wsX8_wanted := goodIn_r _ [11, 12, 2, 13, 21, 22, 23, 24, 25, 26, 27, 28, 29, 30, 31, 32, 33, 34, 35, 36, 37, 38, 39, 40, 41, 42, 43, 44, 45, 46] (by decide +kernel) (by decide +kernel)
set_option maxRecDepth 20000 in
theorem gX8_lays_X8_wanted : GoodIn wsX8_lays (wsV RX8 121 RX8 yX8_wanted wsX8_wanted) := goodIn_app (goodIn_of _ (by decide +kernel)) ggX8_lays_X8_wanted
set_option maxRecDepth 20000 in
theorem ggX8_lays_X8_neighbour : GoodIn wsX8_lays wsX8_neighbour := goodIn_r _ [17, 2, 3, 21, 22, 23, 24, 25, 26, 27, 28, 29, 30, 31, 32, 33, 34, 35, 36, 37, 38, 39, 40, 41, 42, 43, 44, 45, 46] (by decide +kernel) (by decide +kernel)
set_option maxRecDepth 20000 in
theorem gX8_lays_X8_neighbour : GoodIn wsX8_lays (wsV RX8 93 RX8 yX8_neighbour wsX8_neighbour) := goodIn_app (goodIn_of _ (by decide +kernel)) ggX8_lays_X8_neighbour
set_option maxRecDepth 20000 in
theorem ggX8_lays_X8_bufferOf : GoodIn wsX8_lays wsX8_bufferOf := goodIn_r _ [20] (by decide +kernel) (by decide +kernel)
set_option maxRecDepth 20000 in
theorem gX8_lays_X8_bufferOf : GoodIn wsX8_lays (va_wsS RX8 110 yX8_bufferOf wsX8_bufferOf) := goodIn_app (goodIn_of _ (by decide +kernel)) ggX8_lays_X8_bufferOf
theorem dX8_lays_0 : decode cX8_lays 0 = .ok (.iconst 0, 1) := by decide +kernel
theorem dX8_lays_1 : decode cX8_lays 1 = .ok (.istore_n 1, 1) := by decide +kernel
theorem dX8_lays_2 : decode cX8_lays 2 = .ok (.iload_n 1, 1) := by decide +kernel
theorem dX8_lays_3 : decode cX8_lays 3 = .ok (.sipush 25600, 3) := by decide +kernel
theorem dX8_lays_6 : decode cX8_lays 6 = .ok (.if_icmp .ge 16, 3) := by decide +kernel
theorem dX8_lays_9 : decode cX8_lays 9 = .ok (.aload_n 0, 1) := by decide +kernel
theorem dX8_lays_10 : decode cX8_lays 10 = .ok (.getfield 69, 3) := by decide +kernel
theorem dX8_lays_13 : decode cX8_lays 13 = .ok (.iload_n 1, 1) := by decide +kernel
theorem dX8_lays_14 : decode cX8_lays 14 = .ok (.iconst 0, 1) := by decide +kernel
theorem dX8_lays_15 : decode cX8_lays 15 = .ok (.bastore, 1) := by decide +kernel
theorem dX8_lays_16 : decode cX8_lays 16 = .ok (.iinc 1 1, 3) := by decide +kernel
theorem dX8_lays_19 : decode cX8_lays 19 = .ok (.goto (-17), 3) := by decide +kernel
theorem dX8_lays_22 : decode cX8_lays 22 = .ok (.iconst 0, 1) := by decide +kernel
theorem dX8_lays_23 : decode cX8_lays 23 = .ok (.istore_n 1, 1) := by decide +kernel
theorem dX8_lays_24 : decode cX8_lays 24 = .ok (.iload_n 1, 1) := by decide +kernel
theorem dX8_lays_25 : decode cX8_lays 25 = .ok (.aload_n 0, 1) := by decide +kernel
theorem dX8_lays_26 : decode cX8_lays 26 = .ok (.getfield 7, 3) := by decide +kernel
theorem dX8_lays_29 : decode cX8_lays 29 = .ok (.aload_n 0, 1) := by decide +kernel
theorem dX8_lays_30 : decode cX8_lays 30 = .ok (.getfield 13, 3) := by decide +kernel
theorem dX8_lays_33 : decode cX8_lays 33 = .ok (.imul, 1) := by decide +kernel
theorem dX8_lays_34 : decode cX8_lays 34 = .ok (.bipush 10, 2) := by decide +kernel
theorem dX8_lays_36 : decode cX8_lays 36 = .ok (.imul, 1) := by decide +kernel
theorem dX8_lays_37 : decode cX8_lays 37 = .ok (.if_icmp .ge 116, 3) := by decide +kernel
theorem dX8_lays_40 : decode cX8_lays 40 = .ok (.iconst 0, 1) := by decide +kernel
theorem dX8_lays_41 : decode cX8_lays 41 = .ok (.istore_n 2, 1) := by decide +kernel
theorem dX8_lays_42 : decode cX8_lays 42 = .ok (.iload_n 2, 1) := by decide +kernel
theorem dX8_lays_43 : decode cX8_lays 43 = .ok (.aload_n 0, 1) := by decide +kernel
theorem dX8_lays_44 : decode cX8_lays 44 = .ok (.getfield 23, 3) := by decide +kernel
theorem dX8_lays_47 : decode cX8_lays 47 = .ok (.iload_n 1, 1) := by decide +kernel
theorem dX8_lays_48 : decode cX8_lays 48 = .ok (.iaload, 1) := by decide +kernel
theorem dX8_lays_49 : decode cX8_lays 49 = .ok (.if_icmp .ge 98, 3) := by decide +kernel
theorem dX8_lays_52 : decode cX8_lays 52 = .ok (.aload_n 0, 1) := by decide +kernel
theorem dX8_lays_53 : decode cX8_lays 53 = .ok (.getfield 19, 3) := by decide +kernel
theorem dX8_lays_56 : decode cX8_lays 56 = .ok (.iconst 3, 1) := by decide +kernel
theorem dX8_lays_57 : decode cX8_lays 57 = .ok (.iload_n 1, 1) := by decide +kernel
theorem dX8_lays_58 : decode cX8_lays 58 = .ok (.imul, 1) := by decide +kernel
theorem dX8_lays_59 : decode cX8_lays 59 = .ok (.iload_n 2, 1) := by decide +kernel
theorem dX8_lays_60 : decode cX8_lays 60 = .ok (.iadd, 1) := by decide +kernel
theorem dX8_lays_61 : decode cX8_lays 61 = .ok (.iaload, 1) := by decide +kernel
theorem dX8_lays_62 : decode cX8_lays 62 = .ok (.istore_n 3, 1) := by decide +kernel
theorem dX8_lays_63 : decode cX8_lays 63 = .ok (.iload_n 1, 1) := by decide +kernel
theorem dX8_lays_64 : decode cX8_lays 64 = .ok (.istore 4, 2) := by decide +kernel
theorem dX8_lays_66 : decode cX8_lays 66 = .ok (.aload_n 0, 1) := by decide +kernel
theorem dX8_lays_67 : decode cX8_lays 67 = .ok (.iload_n 3, 1) := by decide +kernel
theorem dX8_lays_68 : decode cX8_lays 68 = .ok (.iload_n 1, 1) := by decide +kernel
theorem dX8_lays_69 : decode cX8_lays 69 = .ok (.bipush 10, 2) := by decide +kernel
theorem dX8_lays_71 : decode cX8_lays 71 = .ok (.idiv, 1) := by decide +kernel
theorem dX8_lays_72 : decode cX8_lays 72 = .ok (.invokevirtual 121, 3) := by decide +kernel
theorem dX8_lays_75 : decode cX8_lays 75 = .ok (.istore 5, 2) := by decide +kernel
theorem dX8_lays_77 : decode cX8_lays 77 = .ok (.iload 5, 2) := by decide +kernel
theorem dX8_lays_79 : decode cX8_lays 79 = .ok (.iconst 4, 1) := by decide +kernel
theorem dX8_lays_80 : decode cX8_lays 80 = .ok (.if_icmp .ge 61, 3) := by decide +kernel
theorem dX8_lays_83 : decode cX8_lays 83 = .ok (.aload_n 0, 1) := by decide +kernel
theorem dX8_lays_84 : decode cX8_lays 84 = .ok (.iload 4, 2) := by decide +kernel
theorem dX8_lays_86 : decode cX8_lays 86 = .ok (.bipush 10, 2) := by decide +kernel
theorem dX8_lays_88 : decode cX8_lays 88 = .ok (.idiv, 1) := by decide +kernel
theorem dX8_lays_89 : decode cX8_lays 89 = .ok (.iload 5, 2) := by decide +kernel
theorem dX8_lays_91 : decode cX8_lays 91 = .ok (.invokevirtual 93, 3) := by decide +kernel
theorem dX8_lays_94 : decode cX8_lays 94 = .ok (.iload 5, 2) := by decide +kernel
theorem dX8_lays_96 : decode cX8_lays 96 = .ok (.aload_n 0, 1) := by decide +kernel
theorem dX8_lays_97 : decode cX8_lays 97 = .ok (.getfield 51, 3) := by decide +kernel
theorem dX8_lays_100 : decode cX8_lays 100 = .ok (.iload_n 3, 1) := by decide +kernel
theorem dX8_lays_101 : decode cX8_lays 101 = .ok (.iaload, 1) := by decide +kernel
theorem dX8_lays_102 : decode cX8_lays 102 = .ok (.invokestatic 110, 3) := by decide +kernel
theorem dX8_lays_105 : decode cX8_lays 105 = .ok (.istore 6, 2) := by decide +kernel
theorem dX8_lays_107 : decode cX8_lays 107 = .ok (.aload_n 0, 1) := by decide +kernel
theorem dX8_lays_108 : decode cX8_lays 108 = .ok (.getfield 69, 3) := by decide +kernel
theorem dX8_lays_111 : decode cX8_lays 111 = .ok (.sipush 160, 3) := by decide +kernel
theorem dX8_lays_114 : decode cX8_lays 114 = .ok (.iload 4, 2) := by decide +kernel
theorem dX8_lays_116 : decode cX8_lays 116 = .ok (.imul, 1) := by decide +kernel
theorem dX8_lays_117 : decode cX8_lays 117 = .ok (.iload 6, 2) := by decide +kernel
theorem dX8_lays_119 : decode cX8_lays 119 = .ok (.iadd, 1) := by decide +kernel
theorem dX8_lays_120 : decode cX8_lays 120 = .ok (.iconst 1, 1) := by decide +kernel
theorem dX8_lays_121 : decode cX8_lays 121 = .ok (.bastore, 1) := by decide +kernel
theorem dX8_lays_122 : decode cX8_lays 122 = .ok (.iload 6, 2) := by decide +kernel
theorem dX8_lays_124 : decode cX8_lays 124 = .ok (.istore 4, 2) := by decide +kernel
theorem dX8_lays_126 : decode cX8_lays 126 = .ok (.aload_n 0, 1) := by decide +kernel
theorem dX8_lays_127 : decode cX8_lays 127 = .ok (.iload_n 3, 1) := by decide +kernel
theorem dX8_lays_128 : decode cX8_lays 128 = .ok (.iload 4, 2) := by decide +kernel
theorem dX8_lays_130 : decode cX8_lays 130 = .ok (.bipush 10, 2) := by decide +kernel
theorem dX8_lays_132 : decode cX8_lays 132 = .ok (.idiv, 1) := by decide +kernel
theorem dX8_lays_133 : decode cX8_lays 133 = .ok (.invokevirtual 121, 3) := by decide +kernel
theorem dX8_lays_136 : decode cX8_lays 136 = .ok (.istore 5, 2) := by decide +kernel
theorem dX8_lays_138 : decode cX8_lays 138 = .ok (.goto (-61), 3) := by decide +kernel
theorem dX8_lays_141 : decode cX8_lays 141 = .ok (.iinc 2 1, 3) := by decide +kernel
theorem dX8_lays_144 : decode cX8_lays 144 = .ok (.goto (-102), 3) := by decide +kernel
theorem dX8_lays_147 : decode cX8_lays 147 = .ok (.iinc 1 1, 3) := by decide +kernel
theorem dX8_lays_150 : decode cX8_lays 150 = .ok (.goto (-126), 3) := by decide +kernel
theorem dX8_lays_153 : decode cX8_lays 153 = .ok (.return_, 1) := by decide +kernel
set_option maxRecDepth 20000 in
theorem ggX8_mayCircle_X8_lays : GoodIn wsX8_mayCircle wsX8_lays := goodIn_r _ [10, 5, 2, 3, 11, 12, 13, 14, 15, 16, 9, 17, 18, 19, 20, 21, 22, 23, 24, 25, 26, 27, 28, 29, 30, 31, 32, 33, 34, 35, 36, 37, 38, 39, 40, 41, 42, 43, 44, 45, 46, 47, 48, 49, 50, 51, 52] (by decide +kernel) (by decide +kernel)
set_option maxRecDepth 20000 in
theorem gX8_mayCircle_X8_lays : GoodIn wsX8_mayCircle (wsV RX8 157 RX8 yX8_lays wsX8_lays) := goodIn_app (goodIn_of _ (by decide +kernel)) ggX8_mayCircle_X8_lays
theorem dX8_mayCircle_0 : decode cX8_mayCircle 0 = .ok (.aload_n 0, 1) := by decide +kernel
theorem dX8_mayCircle_1 : decode cX8_mayCircle 1 = .ok (.iconst 0, 1) := by decide +kernel
theorem dX8_mayCircle_2 : decode cX8_mayCircle 2 = .ok (.putfield 79, 3) := by decide +kernel
theorem dX8_mayCircle_5 : decode cX8_mayCircle 5 = .ok (.aload_n 0, 1) := by decide +kernel
theorem dX8_mayCircle_6 : decode cX8_mayCircle 6 = .ok (.invokevirtual 157, 3) := by decide +kernel
theorem dX8_mayCircle_9 : decode cX8_mayCircle 9 = .ok (.aload_n 0, 1) := by decide +kernel
theorem dX8_mayCircle_10 : decode cX8_mayCircle 10 = .ok (.getfield 7, 3) := by decide +kernel
theorem dX8_mayCircle_13 : decode cX8_mayCircle 13 = .ok (.aload_n 0, 1) := by decide +kernel
theorem dX8_mayCircle_14 : decode cX8_mayCircle 14 = .ok (.getfield 13, 3) := by decide +kernel
theorem dX8_mayCircle_17 : decode cX8_mayCircle 17 = .ok (.imul, 1) := by decide +kernel
theorem dX8_mayCircle_18 : decode cX8_mayCircle 18 = .ok (.bipush 10, 2) := by decide +kernel
theorem dX8_mayCircle_20 : decode cX8_mayCircle 20 = .ok (.imul, 1) := by decide +kernel
theorem dX8_mayCircle_21 : decode cX8_mayCircle 21 = .ok (.istore_n 1, 1) := by decide +kernel
theorem dX8_mayCircle_22 : decode cX8_mayCircle 22 = .ok (.iconst 0, 1) := by decide +kernel
theorem dX8_mayCircle_23 : decode cX8_mayCircle 23 = .ok (.istore_n 2, 1) := by decide +kernel
theorem dX8_mayCircle_24 : decode cX8_mayCircle 24 = .ok (.iload_n 2, 1) := by decide +kernel
theorem dX8_mayCircle_25 : decode cX8_mayCircle 25 = .ok (.iload_n 1, 1) := by decide +kernel
theorem dX8_mayCircle_26 : decode cX8_mayCircle 26 = .ok (.if_icmp .ge 16, 3) := by decide +kernel
theorem dX8_mayCircle_29 : decode cX8_mayCircle 29 = .ok (.aload_n 0, 1) := by decide +kernel
theorem dX8_mayCircle_30 : decode cX8_mayCircle 30 = .ok (.getfield 72, 3) := by decide +kernel
theorem dX8_mayCircle_33 : decode cX8_mayCircle 33 = .ok (.iload_n 2, 1) := by decide +kernel
theorem dX8_mayCircle_34 : decode cX8_mayCircle 34 = .ok (.iconst 0, 1) := by decide +kernel
theorem dX8_mayCircle_35 : decode cX8_mayCircle 35 = .ok (.bastore, 1) := by decide +kernel
theorem dX8_mayCircle_36 : decode cX8_mayCircle 36 = .ok (.iinc 2 1, 3) := by decide +kernel
theorem dX8_mayCircle_39 : decode cX8_mayCircle 39 = .ok (.goto (-15), 3) := by decide +kernel
theorem dX8_mayCircle_42 : decode cX8_mayCircle 42 = .ok (.iload_n 1, 1) := by decide +kernel
theorem dX8_mayCircle_43 : decode cX8_mayCircle 43 = .ok (.istore_n 2, 1) := by decide +kernel
theorem dX8_mayCircle_44 : decode cX8_mayCircle 44 = .ok (.iconst 1, 1) := by decide +kernel
theorem dX8_mayCircle_45 : decode cX8_mayCircle 45 = .ok (.istore_n 3, 1) := by decide +kernel
theorem dX8_mayCircle_46 : decode cX8_mayCircle 46 = .ok (.iload_n 3, 1) := by decide +kernel
theorem dX8_mayCircle_47 : decode cX8_mayCircle 47 = .ok (.ifCond .eq 112, 3) := by decide +kernel
theorem dX8_mayCircle_50 : decode cX8_mayCircle 50 = .ok (.iconst 0, 1) := by decide +kernel
theorem dX8_mayCircle_51 : decode cX8_mayCircle 51 = .ok (.istore_n 3, 1) := by decide +kernel
theorem dX8_mayCircle_52 : decode cX8_mayCircle 52 = .ok (.iconst 0, 1) := by decide +kernel
theorem dX8_mayCircle_53 : decode cX8_mayCircle 53 = .ok (.istore 4, 2) := by decide +kernel
theorem dX8_mayCircle_55 : decode cX8_mayCircle 55 = .ok (.iload 4, 2) := by decide +kernel
theorem dX8_mayCircle_57 : decode cX8_mayCircle 57 = .ok (.iload_n 1, 1) := by decide +kernel
theorem dX8_mayCircle_58 : decode cX8_mayCircle 58 = .ok (.if_icmp .ge 98, 3) := by decide +kernel
theorem dX8_mayCircle_61 : decode cX8_mayCircle 61 = .ok (.aload_n 0, 1) := by decide +kernel
theorem dX8_mayCircle_62 : decode cX8_mayCircle 62 = .ok (.getfield 72, 3) := by decide +kernel
theorem dX8_mayCircle_65 : decode cX8_mayCircle 65 = .ok (.iload 4, 2) := by decide +kernel
theorem dX8_mayCircle_67 : decode cX8_mayCircle 67 = .ok (.baload, 1) := by decide +kernel
theorem dX8_mayCircle_68 : decode cX8_mayCircle 68 = .ok (.ifCond .ne 7, 3) := by decide +kernel
theorem dX8_mayCircle_71 : decode cX8_mayCircle 71 = .ok (.iconst 1, 1) := by decide +kernel
theorem dX8_mayCircle_72 : decode cX8_mayCircle 72 = .ok (.goto 4, 3) := by decide +kernel
theorem dX8_mayCircle_75 : decode cX8_mayCircle 75 = .ok (.iconst 0, 1) := by decide +kernel
theorem dX8_mayCircle_76 : decode cX8_mayCircle 76 = .ok (.istore 5, 2) := by decide +kernel
theorem dX8_mayCircle_78 : decode cX8_mayCircle 78 = .ok (.iconst 0, 1) := by decide +kernel
theorem dX8_mayCircle_79 : decode cX8_mayCircle 79 = .ok (.istore 6, 2) := by decide +kernel
theorem dX8_mayCircle_81 : decode cX8_mayCircle 81 = .ok (.iload 6, 2) := by decide +kernel
theorem dX8_mayCircle_83 : decode cX8_mayCircle 83 = .ok (.iload_n 1, 1) := by decide +kernel
theorem dX8_mayCircle_84 : decode cX8_mayCircle 84 = .ok (.if_icmp .ge 48, 3) := by decide +kernel
theorem dX8_mayCircle_87 : decode cX8_mayCircle 87 = .ok (.iload 5, 2) := by decide +kernel
theorem dX8_mayCircle_89 : decode cX8_mayCircle 89 = .ok (.ifCond .eq 43, 3) := by decide +kernel
theorem dX8_mayCircle_92 : decode cX8_mayCircle 92 = .ok (.aload_n 0, 1) := by decide +kernel
theorem dX8_mayCircle_93 : decode cX8_mayCircle 93 = .ok (.getfield 69, 3) := by decide +kernel
theorem dX8_mayCircle_96 : decode cX8_mayCircle 96 = .ok (.sipush 160, 3) := by decide +kernel
theorem dX8_mayCircle_99 : decode cX8_mayCircle 99 = .ok (.iload 4, 2) := by decide +kernel
theorem dX8_mayCircle_101 : decode cX8_mayCircle 101 = .ok (.imul, 1) := by decide +kernel
theorem dX8_mayCircle_102 : decode cX8_mayCircle 102 = .ok (.iload 6, 2) := by decide +kernel
theorem dX8_mayCircle_104 : decode cX8_mayCircle 104 = .ok (.iadd, 1) := by decide +kernel
theorem dX8_mayCircle_105 : decode cX8_mayCircle 105 = .ok (.baload, 1) := by decide +kernel
theorem dX8_mayCircle_106 : decode cX8_mayCircle 106 = .ok (.ifCond .eq 13, 3) := by decide +kernel
theorem dX8_mayCircle_109 : decode cX8_mayCircle 109 = .ok (.aload_n 0, 1) := by decide +kernel
theorem dX8_mayCircle_110 : decode cX8_mayCircle 110 = .ok (.getfield 72, 3) := by decide +kernel
theorem dX8_mayCircle_113 : decode cX8_mayCircle 113 = .ok (.iload 6, 2) := by decide +kernel
theorem dX8_mayCircle_115 : decode cX8_mayCircle 115 = .ok (.baload, 1) := by decide +kernel
theorem dX8_mayCircle_116 : decode cX8_mayCircle 116 = .ok (.ifCond .eq 7, 3) := by decide +kernel
theorem dX8_mayCircle_119 : decode cX8_mayCircle 119 = .ok (.iconst 1, 1) := by decide +kernel
theorem dX8_mayCircle_120 : decode cX8_mayCircle 120 = .ok (.goto 4, 3) := by decide +kernel
theorem dX8_mayCircle_123 : decode cX8_mayCircle 123 = .ok (.iconst 0, 1) := by decide +kernel
theorem dX8_mayCircle_124 : decode cX8_mayCircle 124 = .ok (.istore 5, 2) := by decide +kernel
theorem dX8_mayCircle_126 : decode cX8_mayCircle 126 = .ok (.iinc 6 1, 3) := by decide +kernel
theorem dX8_mayCircle_129 : decode cX8_mayCircle 129 = .ok (.goto (-48), 3) := by decide +kernel
theorem dX8_mayCircle_132 : decode cX8_mayCircle 132 = .ok (.iload 5, 2) := by decide +kernel
theorem dX8_mayCircle_134 : decode cX8_mayCircle 134 = .ok (.ifCond .eq 16, 3) := by decide +kernel
theorem dX8_mayCircle_137 : decode cX8_mayCircle 137 = .ok (.aload_n 0, 1) := by decide +kernel
theorem dX8_mayCircle_138 : decode cX8_mayCircle 138 = .ok (.getfield 72, 3) := by decide +kernel
theorem dX8_mayCircle_141 : decode cX8_mayCircle 141 = .ok (.iload 4, 2) := by decide +kernel
theorem dX8_mayCircle_143 : decode cX8_mayCircle 143 = .ok (.iconst 1, 1) := by decide +kernel
theorem dX8_mayCircle_144 : decode cX8_mayCircle 144 = .ok (.bastore, 1) := by decide +kernel
theorem dX8_mayCircle_145 : decode cX8_mayCircle 145 = .ok (.iconst 1, 1) := by decide +kernel
theorem dX8_mayCircle_146 : decode cX8_mayCircle 146 = .ok (.istore_n 3, 1) := by decide +kernel
theorem dX8_mayCircle_147 : decode cX8_mayCircle 147 = .ok (.iinc 2 (-1), 3) := by decide +kernel
theorem dX8_mayCircle_150 : decode cX8_mayCircle 150 = .ok (.iinc 4 1, 3) := by decide +kernel
theorem dX8_mayCircle_153 : decode cX8_mayCircle 153 = .ok (.goto (-98), 3) := by decide +kernel
theorem dX8_mayCircle_156 : decode cX8_mayCircle 156 = .ok (.goto (-110), 3) := by decide +kernel
theorem dX8_mayCircle_159 : decode cX8_mayCircle 159 = .ok (.iload_n 2, 1) := by decide +kernel
theorem dX8_mayCircle_160 : decode cX8_mayCircle 160 = .ok (.ifCond .le 7, 3) := by decide +kernel
theorem dX8_mayCircle_163 : decode cX8_mayCircle 163 = .ok (.iconst 1, 1) := by decide +kernel
theorem dX8_mayCircle_164 : decode cX8_mayCircle 164 = .ok (.goto 4, 3) := by decide +kernel
theorem dX8_mayCircle_167 : decode cX8_mayCircle 167 = .ok (.iconst 0, 1) := by decide +kernel
theorem dX8_mayCircle_168 : decode cX8_mayCircle 168 = .ok (.ireturn, 1) := by decide +kernel
theorem dJ9_max_7cf53_0 : decode cJ9_max_7cf53 0 = .ok (.iload_n 0, 1) := by decide +kernel
theorem dJ9_max_7cf53_1 : decode cJ9_max_7cf53 1 = .ok (.iload_n 1, 1) := by decide +kernel
theorem dJ9_max_7cf53_2 : decode cJ9_max_7cf53 2 = .ok (.if_icmp .lt 7, 3) := by decide +kernel
theorem dJ9_max_7cf53_5 : decode cJ9_max_7cf53 5 = .ok (.iload_n 0, 1) := by decide +kernel
theorem dJ9_max_7cf53_6 : decode cJ9_max_7cf53 6 = .ok (.goto 4, 3) := by decide +kernel
theorem dJ9_max_7cf53_9 : decode cJ9_max_7cf53 9 = .ok (.iload_n 1, 1) := by decide +kernel
theorem dJ9_max_7cf53_10 : decode cJ9_max_7cf53 10 = .ok (.ireturn, 1) := by decide +kernel
theorem dJ9_min_7cf53_0 : decode cJ9_min_7cf53 0 = .ok (.iload_n 0, 1) := by decide +kernel
theorem dJ9_min_7cf53_1 : decode cJ9_min_7cf53 1 = .ok (.iload_n 1, 1) := by decide +kernel
theorem dJ9_min_7cf53_2 : decode cJ9_min_7cf53 2 = .ok (.if_icmp .gt 7, 3) := by decide +kernel
theorem dJ9_min_7cf53_5 : decode cJ9_min_7cf53 5 = .ok (.iload_n 0, 1) := by decide +kernel
theorem dJ9_min_7cf53_6 : decode cJ9_min_7cf53 6 = .ok (.goto 4, 3) := by decide +kernel
theorem dJ9_min_7cf53_9 : decode cJ9_min_7cf53 9 = .ok (.iload_n 1, 1) := by decide +kernel
theorem dJ9_min_7cf53_10 : decode cJ9_min_7cf53 10 = .ok (.ireturn, 1) := by decide +kernel
set_option maxRecDepth 20000 in
theorem ggL_begin_X7_begin : GoodIn wsL_begin wsX7_begin := goodIn_ca (goodIn_r _ [6, 7, 8, 9, 10, 11, 12, 5, 13, 14, 15, 16, 17, 18, 19, 20, 21, 22, 23, 24, 25, 26, 27, 28, 29, 30, 31, 32, 33, 34, 35, 36, 37, 38, 39, 40, 41, 42, 43, 44, 45, 46, 47, 48, 49, 50, 51, 52, 53, 54, 55, 56, 57, 58, 59, 60, 61, 62, 63, 64, 65, 66, 67, 68, 69, 70, 71, 72, 73, 74, 75, 76, 77, 78, 79, 80, 81, 82, 83, 84, 85, 86, 87, 88, 89, 90, 91, 92, 93, 94, 95, 96, 97, 98, 99, 100, 101, 102, 103, 104, 105, 106, 107, 108, 109, 110, 111, 112, 113] (by decide +kernel) (by decide +kernel)) (goodIn_sub (fun _ h => List.mem_cons_of_mem _ (List.mem_append_right _ h)) (by decide +kernel))
set_option maxRecDepth 20000 in
theorem gL_begin_X7_begin : GoodIn wsL_begin (wsV RL 7 RX7 yX7_begin wsX7_begin) := goodIn_app (goodIn_of _ (by decide +kernel)) ggL_begin_X7_begin
theorem dL_begin_0 : decode cL_begin 0 = .ok (.aload 5, 2) := by decide +kernel
theorem dL_begin_2 : decode cL_begin 2 = .ok (.iconst 0, 1) := by decide +kernel
theorem dL_begin_3 : decode cL_begin 3 = .ok (.aload_n 0, 1) := by decide +kernel
theorem dL_begin_4 : decode cL_begin 4 = .ok (.iload_n 1, 1) := by decide +kernel
theorem dL_begin_5 : decode cL_begin 5 = .ok (.iload_n 2, 1) := by decide +kernel
theorem dL_begin_6 : decode cL_begin 6 = .ok (.iload_n 3, 1) := by decide +kernel
theorem dL_begin_7 : decode cL_begin 7 = .ok (.iload 4, 2) := by decide +kernel
theorem dL_begin_9 : decode cL_begin 9 = .ok (.invokevirtual 7, 3) := by decide +kernel
theorem dL_begin_12 : decode cL_begin 12 = .ok (.i2l, 1) := by decide +kernel
theorem dL_begin_13 : decode cL_begin 13 = .ok (.lastore, 1) := by decide +kernel
theorem dL_begin_14 : decode cL_begin 14 = .ok (.goto 7, 3) := by decide +kernel
theorem dL_begin_17 : decode cL_begin 17 = .ok (.astore 6, 2) := by decide +kernel
theorem dL_begin_19 : decode cL_begin 19 = .ok (.iconst 1, 1) := by decide +kernel
theorem dL_begin_20 : decode cL_begin 20 = .ok (.ireturn, 1) := by decide +kernel
theorem dL_begin_21 : decode cL_begin 21 = .ok (.iconst 0, 1) := by decide +kernel
theorem dL_begin_22 : decode cL_begin 22 = .ok (.ireturn, 1) := by decide +kernel
set_option maxRecDepth 20000 in
theorem ggL_send_X7_send : GoodIn wsL_send wsX7_send := goodIn_ca (goodIn_ca (goodIn_ca (goodIn_r _ [8, 9, 10, 11, 12, 13, 14, 15, 16, 17, 18, 19, 7, 20, 21, 22, 23, 24, 25, 26, 27, 28, 29, 30, 31, 32, 33, 34, 35, 36, 37, 38, 39, 40, 41, 42, 43, 44, 45, 46, 47, 48, 49, 50, 51, 52, 53, 54, 55, 56, 57, 58, 59, 60, 61, 62, 63, 64, 65, 66, 67, 68, 69, 70, 71, 72, 73, 74, 75, 76, 77, 78, 79, 80, 81, 82, 83, 84, 85, 86, 87, 88, 89, 90, 91, 92, 93, 94, 95, 96, 97, 98, 99, 100, 101, 102, 103, 104, 105, 106, 107, 108, 109, 110, 111, 112, 113, 114, 115, 116, 117, 118, 119, 120, 121, 122, 123, 124, 125, 126, 127, 128, 129, 130] (by decide +kernel) (by decide +kernel)) (goodIn_sub (fun _ h => List.mem_cons_of_mem _ (List.mem_append_left _ (List.mem_append_left _ (List.mem_append_right _ h)))) (by decide +kernel))) (goodIn_sub (fun _ h => List.mem_cons_of_mem _ (List.mem_append_left _ (List.mem_append_right _ h))) (by decide +kernel))) (goodIn_sub (fun _ h => List.mem_cons_of_mem _ (List.mem_append_right _ h)) (by decide +kernel))
set_option maxRecDepth 20000 in
theorem gL_send_X7_send : GoodIn wsL_send (wsV RL 15 RX7 yX7_send wsX7_send) := goodIn_app (goodIn_of _ (by decide +kernel)) ggL_send_X7_send
theorem dL_send_0 : decode cL_send 0 = .ok (.aload 5, 2) := by decide +kernel
theorem dL_send_2 : decode cL_send 2 = .ok (.iconst 0, 1) := by decide +kernel
theorem dL_send_3 : decode cL_send 3 = .ok (.aload_n 0, 1) := by decide +kernel
theorem dL_send_4 : decode cL_send 4 = .ok (.iload_n 1, 1) := by decide +kernel
theorem dL_send_5 : decode cL_send 5 = .ok (.iload_n 2, 1) := by decide +kernel
theorem dL_send_6 : decode cL_send 6 = .ok (.iload_n 3, 1) := by decide +kernel
theorem dL_send_7 : decode cL_send 7 = .ok (.iload 4, 2) := by decide +kernel
theorem dL_send_9 : decode cL_send 9 = .ok (.invokevirtual 15, 3) := by decide +kernel
theorem dL_send_12 : decode cL_send 12 = .ok (.i2l, 1) := by decide +kernel
theorem dL_send_13 : decode cL_send 13 = .ok (.lastore, 1) := by decide +kernel
theorem dL_send_14 : decode cL_send 14 = .ok (.goto 15, 3) := by decide +kernel
theorem dL_send_17 : decode cL_send 17 = .ok (.astore 6, 2) := by decide +kernel
theorem dL_send_19 : decode cL_send 19 = .ok (.iconst 1, 1) := by decide +kernel
theorem dL_send_20 : decode cL_send 20 = .ok (.ireturn, 1) := by decide +kernel
theorem dL_send_21 : decode cL_send 21 = .ok (.astore 6, 2) := by decide +kernel
theorem dL_send_23 : decode cL_send 23 = .ok (.iconst 2, 1) := by decide +kernel
theorem dL_send_24 : decode cL_send 24 = .ok (.ireturn, 1) := by decide +kernel
theorem dL_send_25 : decode cL_send 25 = .ok (.astore 6, 2) := by decide +kernel
theorem dL_send_27 : decode cL_send 27 = .ok (.iconst 3, 1) := by decide +kernel
theorem dL_send_28 : decode cL_send 28 = .ok (.ireturn, 1) := by decide +kernel
theorem dL_send_29 : decode cL_send 29 = .ok (.iconst 0, 1) := by decide +kernel
theorem dL_send_30 : decode cL_send 30 = .ok (.ireturn, 1) := by decide +kernel
set_option maxRecDepth 20000 in
theorem ggL_run_X7_run : GoodIn wsL_run wsX7_run := goodIn_ca (goodIn_r _ [6, 7, 8, 9, 10, 11, 12, 5, 13, 14, 15, 16, 17, 18, 19, 20, 21, 22, 23, 24, 25, 26, 27, 28, 29, 30, 31, 32, 33, 34, 35, 36, 37, 38, 39, 40, 41, 42, 43, 44, 45, 46, 47, 48, 49, 50, 51, 52, 53, 54, 55, 56, 57, 58, 59, 60, 61, 62, 63, 64, 65, 66, 67, 68, 69, 70, 71, 72, 73, 74, 75, 76, 77, 78, 79, 80, 81, 82, 83, 84, 85, 86, 87, 88, 89, 90, 91, 92, 93, 94, 95, 96, 97, 98, 99, 100, 101, 102, 103, 104, 105, 106, 107, 108, 109, 110, 111, 112, 113, 114, 115, 116, 117, 118, 119, 120, 121, 122, 123, 124, 125, 126, 127, 128, 129, 130, 131, 132, 133, 134, 135, 136, 137, 138, 139, 140, 141, 142, 143, 144, 145, 146, 147, 148, 149, 150, 151, 152, 153, 154, 155, 156, 157, 158, 159, 160, 161, 162, 163, 164, 165, 166, 167, 168, 169, 170, 171, 172, 173, 174, 175, 176, 177, 178, 179, 180, 181, 182, 183, 184, 185, 186, 187, 188, 189, 190, 191, 192, 193, 194, 195, 196, 197, 198, 199, 200, 201, 202, 203, 204, 205, 206, 207, 208, 209, 210, 211, 212, 213, 214, 215] (by decide +kernel) (by decide +kernel)) (goodIn_sub (fun _ h => List.mem_cons_of_mem _ (List.mem_append_right _ h)) (by decide +kernel))
set_option maxRecDepth 20000 in
theorem gL_run_X7_run : GoodIn wsL_run (wsV RL 22 RX7 yX7_run wsX7_run) := goodIn_app (goodIn_of _ (by decide +kernel)) ggL_run_X7_run
theorem dL_run_0 : decode cL_run 0 = .ok (.aload_n 2, 1) := by decide +kernel
theorem dL_run_1 : decode cL_run 1 = .ok (.iconst 0, 1) := by decide +kernel
theorem dL_run_2 : decode cL_run 2 = .ok (.aload_n 0, 1) := by decide +kernel
theorem dL_run_3 : decode cL_run 3 = .ok (.iload_n 1, 1) := by decide +kernel
theorem dL_run_4 : decode cL_run 4 = .ok (.invokevirtual 22, 3) := by decide +kernel
theorem dL_run_7 : decode cL_run 7 = .ok (.i2l, 1) := by decide +kernel
theorem dL_run_8 : decode cL_run 8 = .ok (.lastore, 1) := by decide +kernel
theorem dL_run_9 : decode cL_run 9 = .ok (.goto 6, 3) := by decide +kernel
theorem dL_run_12 : decode cL_run 12 = .ok (.astore_n 3, 1) := by decide +kernel
theorem dL_run_13 : decode cL_run 13 = .ok (.iconst 1, 1) := by decide +kernel
theorem dL_run_14 : decode cL_run 14 = .ok (.ireturn, 1) := by decide +kernel
theorem dL_run_15 : decode cL_run 15 = .ok (.iconst 0, 1) := by decide +kernel
theorem dL_run_16 : decode cL_run 16 = .ok (.ireturn, 1) := by decide +kernel
set_option maxRecDepth 20000 in
theorem ggL_pause_X7_pause : GoodIn wsL_pause wsX7_pause := goodIn_ca (goodIn_r _ [6, 7, 8, 9, 10, 5, 11, 12, 13, 14, 15, 16, 17, 18, 19, 20, 21, 22, 23, 24, 25, 26, 27, 28, 29, 30, 31, 32, 33, 34, 35, 36, 37, 38, 39, 40, 41, 42, 43, 44, 45, 46, 47, 48, 49, 50, 51, 52] (by decide +kernel) (by decide +kernel)) (goodIn_sub (fun _ h => List.mem_cons_of_mem _ (List.mem_append_right _ h)) (by decide +kernel))
set_option maxRecDepth 20000 in
theorem gL_pause_X7_pause : GoodIn wsL_pause (wsV RL 26 RX7 yX7_pause wsX7_pause) := goodIn_app (goodIn_of _ (by decide +kernel)) ggL_pause_X7_pause
theorem dL_pause_0 : decode cL_pause 0 = .ok (.aload_n 3, 1) := by decide +kernel
theorem dL_pause_1 : decode cL_pause 1 = .ok (.iconst 0, 1) := by decide +kernel
theorem dL_pause_2 : decode cL_pause 2 = .ok (.aload_n 0, 1) := by decide +kernel
theorem dL_pause_3 : decode cL_pause 3 = .ok (.iload_n 1, 1) := by decide +kernel
theorem dL_pause_4 : decode cL_pause 4 = .ok (.iload_n 2, 1) := by decide +kernel
theorem dL_pause_5 : decode cL_pause 5 = .ok (.invokevirtual 26, 3) := by decide +kernel
theorem dL_pause_8 : decode cL_pause 8 = .ok (.ifCond .eq 7, 3) := by decide +kernel
theorem dL_pause_11 : decode cL_pause 11 = .ok (.lconst 1, 1) := by decide +kernel
theorem dL_pause_12 : decode cL_pause 12 = .ok (.goto 4, 3) := by decide +kernel
theorem dL_pause_15 : decode cL_pause 15 = .ok (.lconst 0, 1) := by decide +kernel
theorem dL_pause_16 : decode cL_pause 16 = .ok (.lastore, 1) := by decide +kernel
theorem dL_pause_17 : decode cL_pause 17 = .ok (.goto 7, 3) := by decide +kernel
theorem dL_pause_20 : decode cL_pause 20 = .ok (.astore 4, 2) := by decide +kernel
theorem dL_pause_22 : decode cL_pause 22 = .ok (.iconst 1, 1) := by decide +kernel
theorem dL_pause_23 : decode cL_pause 23 = .ok (.ireturn, 1) := by decide +kernel
theorem dL_pause_24 : decode cL_pause 24 = .ok (.iconst 0, 1) := by decide +kernel
theorem dL_pause_25 : decode cL_pause 25 = .ok (.ireturn, 1) := by decide +kernel
set_option maxRecDepth 20000 in
theorem ggL_lose_X7_lose : GoodIn wsL_lose wsX7_lose := goodIn_ca (goodIn_ca (goodIn_ca (goodIn_r _ [8, 9, 10, 11, 12, 13, 14, 7, 15, 16, 17, 18, 19, 20, 21, 22, 23, 24, 25, 26, 27, 28, 29, 30, 31, 32, 33, 34, 35, 36, 37, 38, 39, 40, 41, 42, 43, 44, 45, 46, 47, 48, 49, 50, 51, 52, 53, 54, 55, 56, 57, 58, 59, 60, 61, 62, 63, 64, 65, 66, 67, 68, 69, 70, 71, 72, 73, 74, 75, 76, 77, 78, 79, 80, 81, 82, 83, 84, 85, 86, 87, 88, 89, 90, 91, 92, 93, 94, 95, 96, 97, 98] (by decide +kernel) (by decide +kernel)) (goodIn_sub (fun _ h => List.mem_cons_of_mem _ (List.mem_append_left _ (List.mem_append_left _ (List.mem_append_right _ h)))) (by decide +kernel))) (goodIn_sub (fun _ h => List.mem_cons_of_mem _ (List.mem_append_left _ (List.mem_append_right _ h))) (by decide +kernel))) (goodIn_sub (fun _ h => List.mem_cons_of_mem _ (List.mem_append_right _ h)) (by decide +kernel))
set_option maxRecDepth 20000 in
theorem gL_lose_X7_lose : GoodIn wsL_lose (wsV RL 30 RX7 yX7_lose wsX7_lose) := goodIn_app (goodIn_of _ (by decide +kernel)) ggL_lose_X7_lose
theorem dL_lose_0 : decode cL_lose 0 = .ok (.aload 4, 2) := by decide +kernel
theorem dL_lose_2 : decode cL_lose 2 = .ok (.iconst 0, 1) := by decide +kernel
theorem dL_lose_3 : decode cL_lose 3 = .ok (.aload_n 0, 1) := by decide +kernel
theorem dL_lose_4 : decode cL_lose 4 = .ok (.iload_n 1, 1) := by decide +kernel
theorem dL_lose_5 : decode cL_lose 5 = .ok (.iload_n 2, 1) := by decide +kernel
theorem dL_lose_6 : decode cL_lose 6 = .ok (.iload_n 3, 1) := by decide +kernel
theorem dL_lose_7 : decode cL_lose 7 = .ok (.invokevirtual 30, 3) := by decide +kernel
theorem dL_lose_10 : decode cL_lose 10 = .ok (.i2l, 1) := by decide +kernel
theorem dL_lose_11 : decode cL_lose 11 = .ok (.lastore, 1) := by decide +kernel
theorem dL_lose_12 : decode cL_lose 12 = .ok (.goto 15, 3) := by decide +kernel
theorem dL_lose_15 : decode cL_lose 15 = .ok (.astore 5, 2) := by decide +kernel
theorem dL_lose_17 : decode cL_lose 17 = .ok (.iconst 1, 1) := by decide +kernel
theorem dL_lose_18 : decode cL_lose 18 = .ok (.ireturn, 1) := by decide +kernel
theorem dL_lose_19 : decode cL_lose 19 = .ok (.astore 5, 2) := by decide +kernel
theorem dL_lose_21 : decode cL_lose 21 = .ok (.iconst 2, 1) := by decide +kernel
theorem dL_lose_22 : decode cL_lose 22 = .ok (.ireturn, 1) := by decide +kernel
theorem dL_lose_23 : decode cL_lose 23 = .ok (.astore 5, 2) := by decide +kernel
theorem dL_lose_25 : decode cL_lose 25 = .ok (.iconst 3, 1) := by decide +kernel
theorem dL_lose_26 : decode cL_lose 26 = .ok (.ireturn, 1) := by decide +kernel
theorem dL_lose_27 : decode cL_lose 27 = .ok (.iconst 0, 1) := by decide +kernel
theorem dL_lose_28 : decode cL_lose 28 = .ok (.ireturn, 1) := by decide +kernel
set_option maxRecDepth 20000 in
theorem ggL_credits_X7_credits : GoodIn wsL_credits wsX7_credits := goodIn_ca (goodIn_ca (goodIn_r _ [7, 8, 9, 10, 11, 6, 12, 13, 14, 15, 16, 17, 18, 19, 20, 21, 22, 23, 24, 25, 26, 27, 28, 29, 30, 31, 32, 33, 34, 35, 36, 37, 38, 39, 40, 41, 42, 43, 44, 45, 46, 47, 48, 49, 50, 51, 52, 53, 54, 55, 56, 57, 58, 59, 60, 61, 62, 63, 64, 65, 66, 67, 68, 69, 70, 71, 72, 73, 74, 75, 76, 77, 78, 79, 80, 81, 82] (by decide +kernel) (by decide +kernel)) (goodIn_sub (fun _ h => List.mem_cons_of_mem _ (List.mem_append_left _ (List.mem_append_right _ h))) (by decide +kernel))) (goodIn_sub (fun _ h => List.mem_cons_of_mem _ (List.mem_append_right _ h)) (by decide +kernel))
set_option maxRecDepth 20000 in
theorem gL_credits_X7_credits : GoodIn wsL_credits (wsV RL 34 RX7 yX7_credits wsX7_credits) := goodIn_app (goodIn_of _ (by decide +kernel)) ggL_credits_X7_credits
theorem dL_credits_0 : decode cL_credits 0 = .ok (.aload 4, 2) := by decide +kernel
theorem dL_credits_2 : decode cL_credits 2 = .ok (.iconst 0, 1) := by decide +kernel
theorem dL_credits_3 : decode cL_credits 3 = .ok (.aload_n 0, 1) := by decide +kernel
theorem dL_credits_4 : decode cL_credits 4 = .ok (.iload_n 1, 1) := by decide +kernel
theorem dL_credits_5 : decode cL_credits 5 = .ok (.iload_n 2, 1) := by decide +kernel
theorem dL_credits_6 : decode cL_credits 6 = .ok (.iload_n 3, 1) := by decide +kernel
theorem dL_credits_7 : decode cL_credits 7 = .ok (.invokevirtual 34, 3) := by decide +kernel
theorem dL_credits_10 : decode cL_credits 10 = .ok (.i2l, 1) := by decide +kernel
theorem dL_credits_11 : decode cL_credits 11 = .ok (.lastore, 1) := by decide +kernel
theorem dL_credits_12 : decode cL_credits 12 = .ok (.goto 11, 3) := by decide +kernel
theorem dL_credits_15 : decode cL_credits 15 = .ok (.astore 5, 2) := by decide +kernel
theorem dL_credits_17 : decode cL_credits 17 = .ok (.iconst 1, 1) := by decide +kernel
theorem dL_credits_18 : decode cL_credits 18 = .ok (.ireturn, 1) := by decide +kernel
theorem dL_credits_19 : decode cL_credits 19 = .ok (.astore 5, 2) := by decide +kernel
theorem dL_credits_21 : decode cL_credits 21 = .ok (.iconst 2, 1) := by decide +kernel
theorem dL_credits_22 : decode cL_credits 22 = .ok (.ireturn, 1) := by decide +kernel
theorem dL_credits_23 : decode cL_credits 23 = .ok (.iconst 0, 1) := by decide +kernel
theorem dL_credits_24 : decode cL_credits 24 = .ok (.ireturn, 1) := by decide +kernel
set_option maxRecDepth 20000 in
theorem ggL_inBuffer_X7_inBuffer : GoodIn wsL_inBuffer wsX7_inBuffer := goodIn_ca (goodIn_ca (goodIn_r _ [7, 8, 9, 10, 11, 12, 13, 6, 14, 15, 16, 17, 18, 19, 20, 21, 22, 23, 24, 25, 26, 27, 28, 29, 30, 31, 32, 33, 34, 35, 36, 37, 38, 39, 40, 41, 42, 43, 44, 45, 46, 47, 48, 49, 50, 51, 52, 53, 54, 55, 56, 57, 58, 59, 60, 61, 62, 63, 64, 65, 66] (by decide +kernel) (by decide +kernel)) (goodIn_sub (fun _ h => List.mem_cons_of_mem _ (List.mem_append_left _ (List.mem_append_right _ h))) (by decide +kernel))) (goodIn_sub (fun _ h => List.mem_cons_of_mem _ (List.mem_append_right _ h)) (by decide +kernel))
set_option maxRecDepth 20000 in
theorem gL_inBuffer_X7_inBuffer : GoodIn wsL_inBuffer (wsV RL 37 RX7 yX7_inBuffer wsX7_inBuffer) := goodIn_app (goodIn_of _ (by decide +kernel)) ggL_inBuffer_X7_inBuffer
theorem dL_inBuffer_0 : decode cL_inBuffer 0 = .ok (.aload 4, 2) := by decide +kernel
theorem dL_inBuffer_2 : decode cL_inBuffer 2 = .ok (.iconst 0, 1) := by decide +kernel
theorem dL_inBuffer_3 : decode cL_inBuffer 3 = .ok (.aload_n 0, 1) := by decide +kernel
theorem dL_inBuffer_4 : decode cL_inBuffer 4 = .ok (.iload_n 1, 1) := by decide +kernel
theorem dL_inBuffer_5 : decode cL_inBuffer 5 = .ok (.iload_n 2, 1) := by decide +kernel
theorem dL_inBuffer_6 : decode cL_inBuffer 6 = .ok (.iload_n 3, 1) := by decide +kernel
theorem dL_inBuffer_7 : decode cL_inBuffer 7 = .ok (.invokevirtual 37, 3) := by decide +kernel
theorem dL_inBuffer_10 : decode cL_inBuffer 10 = .ok (.i2l, 1) := by decide +kernel
theorem dL_inBuffer_11 : decode cL_inBuffer 11 = .ok (.lastore, 1) := by decide +kernel
theorem dL_inBuffer_12 : decode cL_inBuffer 12 = .ok (.goto 11, 3) := by decide +kernel
theorem dL_inBuffer_15 : decode cL_inBuffer 15 = .ok (.astore 5, 2) := by decide +kernel
theorem dL_inBuffer_17 : decode cL_inBuffer 17 = .ok (.iconst 1, 1) := by decide +kernel
theorem dL_inBuffer_18 : decode cL_inBuffer 18 = .ok (.ireturn, 1) := by decide +kernel
theorem dL_inBuffer_19 : decode cL_inBuffer 19 = .ok (.astore 5, 2) := by decide +kernel
theorem dL_inBuffer_21 : decode cL_inBuffer 21 = .ok (.iconst 2, 1) := by decide +kernel
theorem dL_inBuffer_22 : decode cL_inBuffer 22 = .ok (.ireturn, 1) := by decide +kernel
theorem dL_inBuffer_23 : decode cL_inBuffer 23 = .ok (.iconst 0, 1) := by decide +kernel
theorem dL_inBuffer_24 : decode cL_inBuffer 24 = .ok (.ireturn, 1) := by decide +kernel
set_option maxRecDepth 20000 in
theorem ggL_gap_X7_gap : GoodIn wsL_gap wsX7_gap := goodIn_ca (goodIn_r _ [6, 7, 8, 9, 10, 5, 11, 12, 13, 14, 15, 16, 17, 18, 19, 20, 21, 22, 23, 24, 25, 26, 27, 28, 29, 30, 31, 32, 33, 34, 35, 36, 37, 38, 39, 40, 41, 42, 43, 44, 45, 46, 47, 48, 49, 50, 51, 52, 53, 54, 55, 56] (by decide +kernel) (by decide +kernel)) (goodIn_sub (fun _ h => List.mem_cons_of_mem _ (List.mem_append_right _ h)) (by decide +kernel))
set_option maxRecDepth 20000 in
theorem gL_gap_X7_gap : GoodIn wsL_gap (wsV RL 40 RX7 yX7_gap wsX7_gap) := goodIn_app (goodIn_of _ (by decide +kernel)) ggL_gap_X7_gap
theorem dL_gap_0 : decode cL_gap 0 = .ok (.aload_n 2, 1) := by decide +kernel
theorem dL_gap_1 : decode cL_gap 1 = .ok (.iconst 0, 1) := by decide +kernel
theorem dL_gap_2 : decode cL_gap 2 = .ok (.aload_n 0, 1) := by decide +kernel
theorem dL_gap_3 : decode cL_gap 3 = .ok (.iload_n 1, 1) := by decide +kernel
theorem dL_gap_4 : decode cL_gap 4 = .ok (.invokevirtual 40, 3) := by decide +kernel
theorem dL_gap_7 : decode cL_gap 7 = .ok (.i2l, 1) := by decide +kernel
theorem dL_gap_8 : decode cL_gap 8 = .ok (.lastore, 1) := by decide +kernel
theorem dL_gap_9 : decode cL_gap 9 = .ok (.goto 6, 3) := by decide +kernel
theorem dL_gap_12 : decode cL_gap 12 = .ok (.astore_n 3, 1) := by decide +kernel
theorem dL_gap_13 : decode cL_gap 13 = .ok (.iconst 1, 1) := by decide +kernel
theorem dL_gap_14 : decode cL_gap 14 = .ok (.ireturn, 1) := by decide +kernel
theorem dL_gap_15 : decode cL_gap 15 = .ok (.iconst 0, 1) := by decide +kernel
theorem dL_gap_16 : decode cL_gap 16 = .ok (.ireturn, 1) := by decide +kernel
set_option maxRecDepth 20000 in
theorem ggL_placeOf_X7_placeOf : GoodIn wsL_placeOf wsX7_placeOf := goodIn_ca (goodIn_r _ [6, 7, 8, 9, 10, 5, 11, 12, 13, 14, 15, 16, 17, 18, 19, 20, 21, 22, 23, 24, 25, 26, 27, 28, 29, 30, 31, 32, 33, 34, 35, 36, 37, 38, 39, 40, 41, 42, 43] (by decide +kernel) (by decide +kernel)) (goodIn_sub (fun _ h => List.mem_cons_of_mem _ (List.mem_append_right _ h)) (by decide +kernel))
set_option maxRecDepth 20000 in
theorem gL_placeOf_X7_placeOf : GoodIn wsL_placeOf (wsV RL 43 RX7 yX7_placeOf wsX7_placeOf) := goodIn_app (goodIn_of _ (by decide +kernel)) ggL_placeOf_X7_placeOf
theorem dL_placeOf_0 : decode cL_placeOf 0 = .ok (.aload_n 2, 1) := by decide +kernel
theorem dL_placeOf_1 : decode cL_placeOf 1 = .ok (.iconst 0, 1) := by decide +kernel
theorem dL_placeOf_2 : decode cL_placeOf 2 = .ok (.aload_n 0, 1) := by decide +kernel
theorem dL_placeOf_3 : decode cL_placeOf 3 = .ok (.iload_n 1, 1) := by decide +kernel
theorem dL_placeOf_4 : decode cL_placeOf 4 = .ok (.invokevirtual 43, 3) := by decide +kernel
theorem dL_placeOf_7 : decode cL_placeOf 7 = .ok (.i2l, 1) := by decide +kernel
theorem dL_placeOf_8 : decode cL_placeOf 8 = .ok (.lastore, 1) := by decide +kernel
theorem dL_placeOf_9 : decode cL_placeOf 9 = .ok (.goto 6, 3) := by decide +kernel
theorem dL_placeOf_12 : decode cL_placeOf 12 = .ok (.astore_n 3, 1) := by decide +kernel
theorem dL_placeOf_13 : decode cL_placeOf 13 = .ok (.iconst 1, 1) := by decide +kernel
theorem dL_placeOf_14 : decode cL_placeOf 14 = .ok (.ireturn, 1) := by decide +kernel
theorem dL_placeOf_15 : decode cL_placeOf 15 = .ok (.iconst 0, 1) := by decide +kernel
theorem dL_placeOf_16 : decode cL_placeOf 16 = .ok (.ireturn, 1) := by decide +kernel
set_option maxRecDepth 20000 in
theorem ggL_hops_X7_hops : GoodIn wsL_hops wsX7_hops := goodIn_ca (goodIn_r _ [6, 7, 8, 9, 10, 5, 11, 12, 13, 14, 15, 16, 17, 18, 19, 20, 21, 22, 23, 24, 25, 26, 27, 28, 29, 30, 31, 32, 33, 34, 35, 36, 37, 38, 39, 40, 41, 42, 43] (by decide +kernel) (by decide +kernel)) (goodIn_sub (fun _ h => List.mem_cons_of_mem _ (List.mem_append_right _ h)) (by decide +kernel))
set_option maxRecDepth 20000 in
theorem gL_hops_X7_hops : GoodIn wsL_hops (wsV RL 46 RX7 yX7_hops wsX7_hops) := goodIn_app (goodIn_of _ (by decide +kernel)) ggL_hops_X7_hops
theorem dL_hops_0 : decode cL_hops 0 = .ok (.aload_n 2, 1) := by decide +kernel
theorem dL_hops_1 : decode cL_hops 1 = .ok (.iconst 0, 1) := by decide +kernel
theorem dL_hops_2 : decode cL_hops 2 = .ok (.aload_n 0, 1) := by decide +kernel
theorem dL_hops_3 : decode cL_hops 3 = .ok (.iload_n 1, 1) := by decide +kernel
theorem dL_hops_4 : decode cL_hops 4 = .ok (.invokevirtual 46, 3) := by decide +kernel
theorem dL_hops_7 : decode cL_hops 7 = .ok (.i2l, 1) := by decide +kernel
theorem dL_hops_8 : decode cL_hops 8 = .ok (.lastore, 1) := by decide +kernel
theorem dL_hops_9 : decode cL_hops 9 = .ok (.goto 6, 3) := by decide +kernel
theorem dL_hops_12 : decode cL_hops 12 = .ok (.astore_n 3, 1) := by decide +kernel
theorem dL_hops_13 : decode cL_hops 13 = .ok (.iconst 1, 1) := by decide +kernel
theorem dL_hops_14 : decode cL_hops 14 = .ok (.ireturn, 1) := by decide +kernel
theorem dL_hops_15 : decode cL_hops 15 = .ok (.iconst 0, 1) := by decide +kernel
theorem dL_hops_16 : decode cL_hops 16 = .ok (.ireturn, 1) := by decide +kernel
set_option maxRecDepth 20000 in
theorem ggL_isMarked_X7_isMarked : GoodIn wsL_isMarked wsX7_isMarked := goodIn_ca (goodIn_r _ [6, 7, 8, 9, 10, 5, 11, 12, 13, 14, 15, 16, 17, 18, 19, 20, 21, 22, 23, 24, 25, 26, 27, 28, 29, 30, 31, 32, 33, 34, 35, 36, 37, 38, 39, 40, 41, 42, 43] (by decide +kernel) (by decide +kernel)) (goodIn_sub (fun _ h => List.mem_cons_of_mem _ (List.mem_append_right _ h)) (by decide +kernel))
set_option maxRecDepth 20000 in
theorem gL_isMarked_X7_isMarked : GoodIn wsL_isMarked (wsV RL 49 RX7 yX7_isMarked wsX7_isMarked) := goodIn_app (goodIn_of _ (by decide +kernel)) ggL_isMarked_X7_isMarked
theorem dL_isMarked_0 : decode cL_isMarked 0 = .ok (.aload_n 2, 1) := by decide +kernel
theorem dL_isMarked_1 : decode cL_isMarked 1 = .ok (.iconst 0, 1) := by decide +kernel
theorem dL_isMarked_2 : decode cL_isMarked 2 = .ok (.aload_n 0, 1) := by decide +kernel
theorem dL_isMarked_3 : decode cL_isMarked 3 = .ok (.iload_n 1, 1) := by decide +kernel
theorem dL_isMarked_4 : decode cL_isMarked 4 = .ok (.invokevirtual 49, 3) := by decide +kernel
theorem dL_isMarked_7 : decode cL_isMarked 7 = .ok (.ifCond .eq 7, 3) := by decide +kernel
theorem dL_isMarked_10 : decode cL_isMarked 10 = .ok (.lconst 1, 1) := by decide +kernel
theorem dL_isMarked_11 : decode cL_isMarked 11 = .ok (.goto 4, 3) := by decide +kernel
theorem dL_isMarked_14 : decode cL_isMarked 14 = .ok (.lconst 0, 1) := by decide +kernel
theorem dL_isMarked_15 : decode cL_isMarked 15 = .ok (.lastore, 1) := by decide +kernel
theorem dL_isMarked_16 : decode cL_isMarked 16 = .ok (.goto 6, 3) := by decide +kernel
theorem dL_isMarked_19 : decode cL_isMarked 19 = .ok (.astore_n 3, 1) := by decide +kernel
theorem dL_isMarked_20 : decode cL_isMarked 20 = .ok (.iconst 1, 1) := by decide +kernel
theorem dL_isMarked_21 : decode cL_isMarked 21 = .ok (.ireturn, 1) := by decide +kernel
theorem dL_isMarked_22 : decode cL_isMarked 22 = .ok (.iconst 0, 1) := by decide +kernel
theorem dL_isMarked_23 : decode cL_isMarked 23 = .ok (.ireturn, 1) := by decide +kernel
set_option maxRecDepth 20000 in
theorem ggL_wants_X7_wants : GoodIn wsL_wants wsX7_wants := goodIn_ca (goodIn_r _ [6, 7, 8, 9, 10, 5, 11, 12, 13, 14, 15, 16, 17, 18, 19, 20, 21, 22, 23, 24, 25, 26, 27, 28, 29, 30, 31, 32, 33, 34, 35, 36, 37, 38, 39, 40, 41, 42, 43, 44, 45, 46, 47, 48, 49, 50, 51, 52, 53, 54, 55, 56, 57, 58, 59, 60, 61, 62, 63, 64, 65, 66, 67] (by decide +kernel) (by decide +kernel)) (goodIn_sub (fun _ h => List.mem_cons_of_mem _ (List.mem_append_right _ h)) (by decide +kernel))
set_option maxRecDepth 20000 in
theorem gL_wants_X7_wants : GoodIn wsL_wants (wsV RL 53 RX7 yX7_wants wsX7_wants) := goodIn_app (goodIn_of _ (by decide +kernel)) ggL_wants_X7_wants
theorem dL_wants_0 : decode cL_wants 0 = .ok (.aload_n 2, 1) := by decide +kernel
theorem dL_wants_1 : decode cL_wants 1 = .ok (.iconst 0, 1) := by decide +kernel
theorem dL_wants_2 : decode cL_wants 2 = .ok (.aload_n 0, 1) := by decide +kernel
theorem dL_wants_3 : decode cL_wants 3 = .ok (.iload_n 1, 1) := by decide +kernel
theorem dL_wants_4 : decode cL_wants 4 = .ok (.invokevirtual 53, 3) := by decide +kernel
theorem dL_wants_7 : decode cL_wants 7 = .ok (.i2l, 1) := by decide +kernel
theorem dL_wants_8 : decode cL_wants 8 = .ok (.lastore, 1) := by decide +kernel
theorem dL_wants_9 : decode cL_wants 9 = .ok (.goto 6, 3) := by decide +kernel
theorem dL_wants_12 : decode cL_wants 12 = .ok (.astore_n 3, 1) := by decide +kernel
theorem dL_wants_13 : decode cL_wants 13 = .ok (.iconst 1, 1) := by decide +kernel
theorem dL_wants_14 : decode cL_wants 14 = .ok (.ireturn, 1) := by decide +kernel
theorem dL_wants_15 : decode cL_wants 15 = .ok (.iconst 0, 1) := by decide +kernel
theorem dL_wants_16 : decode cL_wants 16 = .ok (.ireturn, 1) := by decide +kernel
set_option maxRecDepth 20000 in
theorem ggL_law_X7_init : GoodIn wsL_law wsX7_init := goodIn_r _ [9, 10, 11, 12, 13, 14, 15, 16, 17, 18, 19, 20, 21, 22, 23, 24, 25, 26, 27, 28, 29, 30, 31, 32, 33, 34, 35, 36, 37, 38, 39, 40, 41, 42, 43, 44, 45, 46, 47, 48, 49, 50, 51, 52, 53, 54, 55, 56, 57, 58, 59, 60, 61, 62, 63, 64, 65, 66, 67, 68, 69, 70, 71, 72, 73, 74, 75, 76, 77, 78, 79, 80, 81, 82, 83, 84, 85, 86, 87, 88, 89, 90, 91, 92, 93, 94, 95, 96, 97, 98, 99, 100, 101, 102, 103, 104, 105, 106, 2, 107, 108, 109, 110, 111, 112, 113, 114, 115, 116, 117, 118, 119, 120, 121, 122, 123, 124, 125, 126, 127, 128, 129, 130, 131, 132, 133, 134, 135, 136, 137, 138, 139, 140, 141, 142, 143, 144, 145, 146, 708, 709, 710, 711, 670, 671, 672, 673, 674, 675, 676, 677, 678, 679, 680, 681, 712, 713, 714, 715, 716, 717, 718, 719, 720, 721, 722, 723, 724, 725, 726, 727, 728, 729, 730, 731, 732, 733, 734, 735, 736, 737] (by decide +kernel) (by decide +kernel)
set_option maxRecDepth 20000 in
theorem gL_law_X7_init : GoodIn wsL_law (wsX7_init) := ggL_law_X7_init
set_option maxRecDepth 20000 in
theorem ggL_law_X8_init : GoodIn wsL_law wsX8_init := goodIn_r _ [149, 150, 11, 12, 151, 152, 153, 54, 154, 155, 156, 157, 158, 159, 160, 161, 162, 163, 164, 165, 166, 167, 168, 169, 170, 171, 172, 173, 174, 175, 5, 176, 177, 178, 179, 180, 682, 683, 684, 685, 686, 687, 688, 689, 690, 691, 692, 693, 694, 695, 696, 697, 698, 699, 700, 701, 702, 703, 704, 705, 706, 707] (by decide +kernel) (by decide +kernel)
set_option maxRecDepth 20000 in
theorem gL_law_X8_init : GoodIn wsL_law (wsX8_init) := ggL_law_X8_init
set_option maxRecDepth 20000 in
theorem ggL_law_L_begin : GoodIn wsL_law wsL_begin := goodIn_ca (goodIn_r _ [184, 185, 186, 187, 188, 2, 189, 190, 191, 16, 104, 105, 106, 107, 20, 24, 28, 32, 40, 41, 108, 109, 110, 111, 15, 112, 113, 114, 48, 49, 115, 116, 117, 39, 118, 55, 119, 120, 121, 19, 122, 123, 124, 125, 126, 127, 23, 128, 129, 76, 130, 131, 132, 133, 134, 135, 136, 27, 137, 138, 82, 83, 139, 140, 141, 142, 143, 31, 144, 89, 90, 145, 146, 192, 193, 194, 195, 670, 671, 672, 673, 674, 675, 676, 677, 678, 679, 680, 681, 708, 709, 710, 711, 737, 712, 713, 714, 715, 716, 717, 718, 719, 720, 721, 722, 723, 724, 725, 726, 727, 728, 729, 730, 731] (by decide +kernel) (by decide +kernel)) (goodIn_sub (fun _ h => List.mem_append_left _ (List.mem_append_left _ (List.mem_append_right _ h))) (by decide +kernel))
set_option maxRecDepth 20000 in
theorem gL_law_L_begin : GoodIn wsL_law (va_wsS RL 60 yL_begin wsL_begin) := goodIn_app (goodIn_of _ (by decide +kernel)) ggL_law_L_begin
set_option maxRecDepth 20000 in
theorem ggL_law_X8_begin : GoodIn wsL_law wsX8_begin := goodIn_r _ [199, 200, 201, 5, 202, 203, 204, 205, 206, 207, 173, 174, 175, 176, 151, 152, 153, 177, 178, 179, 180, 155, 156, 157, 158, 159, 160, 162, 682, 683, 684, 685, 686, 687, 688, 689, 690, 691, 692, 693, 694, 695, 696, 697, 698, 699, 700, 701, 702, 703, 704, 705, 706, 707] (by decide +kernel) (by decide +kernel)
set_option maxRecDepth 20000 in
theorem gL_law_X8_begin : GoodIn wsL_law (wsV RL 65 RX8 yX8_begin wsX8_begin) := goodIn_app (goodIn_of _ (by decide +kernel)) ggL_law_X8_begin
set_option maxRecDepth 20000 in
theorem ggL_law_X8_thrown : GoodIn wsL_law wsX8_thrown := goodIn_r _ [211, 207, 682, 683, 684, 685, 686, 687, 688, 689, 690, 691, 692, 693, 694, 695, 696, 697, 698, 699, 700, 701, 702, 703, 704, 705, 706, 707] (by decide +kernel) (by decide +kernel)
set_option maxRecDepth 20000 in
theorem gL_law_X8_thrown : GoodIn wsL_law (wsV RL 66 RX8 yX8_thrown wsX8_thrown) := goodIn_app (goodIn_of _ (by decide +kernel)) ggL_law_X8_thrown
set_option maxRecDepth 20000 in
theorem ggL_law_L_send : GoodIn wsL_law wsL_send := goodIn_ca (goodIn_ca (goodIn_ca (goodIn_r _ [214, 215, 185, 216, 217, 218, 219, 2, 220, 190, 191, 221, 222, 24, 32, 108, 20, 223, 224, 225, 226, 227, 228, 16, 229, 230, 231, 15, 232, 233, 193, 194, 195, 113, 114, 234, 235, 236, 237, 238, 239, 240, 241, 242, 23, 243, 76, 129, 244, 245, 246, 39, 247, 55, 248, 249, 250, 31, 251, 90, 89, 252, 253, 254, 255, 19, 256, 123, 61, 62, 63, 64, 65, 66, 67, 68, 257, 116, 117, 118, 258, 259, 260, 261, 75, 262, 263, 264, 265, 266, 267, 268, 269, 270, 271, 272, 273, 274, 670, 671, 672, 673, 674, 675, 676, 677, 678, 679, 680, 681, 712, 713, 714, 715, 716, 717, 718, 719, 720, 721, 722, 708, 709, 710, 711, 723, 724, 725, 737, 730, 731] (by decide +kernel) (by decide +kernel)) (goodIn_sub (fun _ h => List.mem_append_left _ (List.mem_append_left _ (List.mem_append_right _ h))) (by decide +kernel))) (goodIn_sub (fun _ h => List.mem_append_left _ (List.mem_append_right _ h)) (by decide +kernel))) (goodIn_sub (fun _ h => List.mem_append_right _ h) (by decide +kernel))
set_option maxRecDepth 20000 in
theorem gL_law_L_send : GoodIn wsL_law (va_wsS RL 70 yL_send wsL_send) := goodIn_app (goodIn_of _ (by decide +kernel)) ggL_law_L_send
set_option maxRecDepth 20000 in
theorem ggL_law_X8_send : GoodIn wsL_law wsX8_send := goodIn_r _ [278, 179, 155, 153, 160, 178, 159, 164, 163, 165, 166, 167, 168, 169, 279, 280, 281, 5, 282, 151, 152, 200, 201, 202, 283, 284, 285, 203, 204, 205, 206, 207, 286, 287, 288, 289, 154, 682, 683, 684, 685, 686, 687, 688, 689, 690, 691, 692, 693, 694, 695, 696, 697, 698, 699, 700, 701, 702, 703, 704, 705, 706, 707] (by decide +kernel) (by decide +kernel)
set_option maxRecDepth 20000 in
theorem gL_law_X8_send : GoodIn wsL_law (wsV RL 72 RX8 yX8_send wsX8_send) := goodIn_app (goodIn_of _ (by decide +kernel)) ggL_law_X8_send
set_option maxRecDepth 20000 in
theorem ggL_law_L_run : GoodIn wsL_law wsL_run := goodIn_ca (goodIn_r _ [292, 185, 293, 294, 295, 2, 296, 190, 191, 20, 297, 298, 299, 300, 28, 108, 301, 16, 43, 302, 303, 304, 27, 305, 139, 83, 82, 306, 307, 308, 309, 245, 246, 39, 247, 55, 310, 265, 266, 267, 268, 269, 116, 117, 118, 311, 192, 193, 194, 15, 195, 113, 114, 312, 313, 314, 315, 42, 24, 146, 131, 132, 133, 316, 317, 318, 23, 319, 76, 75, 244, 320, 321, 322, 19, 323, 65, 69, 62, 64, 324, 325, 326, 327, 328, 48, 49, 329, 330, 331, 332, 333, 334, 335, 336, 337, 40, 338, 339, 340, 341, 237, 238, 239, 342, 343, 344, 345, 346, 347, 348, 349, 350, 41, 351, 352, 353, 354, 32, 355, 356, 357, 358, 263, 264, 359, 360, 361, 362, 138, 363, 364, 365, 366, 124, 257, 367, 368, 369, 31, 370, 89, 371, 372, 373, 374, 375, 376, 377, 252, 274, 378, 379, 380, 381, 258, 259, 260, 261, 262, 241, 242, 243, 129, 382, 383, 384, 385, 66, 67, 386, 387, 388, 389, 390, 391, 392, 393, 394, 670, 671, 672, 673, 674, 675, 676, 677, 678, 679, 680, 681, 712, 713, 714, 715, 716, 717, 718, 719, 720, 721, 722, 726, 727, 728, 729, 737, 708, 709, 710, 711, 723, 724, 725, 730, 731] (by decide +kernel) (by decide +kernel)) (goodIn_sub (fun _ h => List.mem_append_left _ (List.mem_append_left _ (List.mem_append_right _ h))) (by decide +kernel))
set_option maxRecDepth 20000 in
theorem gL_law_L_run : GoodIn wsL_law (va_wsS RL 73 yL_run wsL_run) := goodIn_app (goodIn_of _ (by decide +kernel)) ggL_law_L_run
set_option maxRecDepth 20000 in
theorem ggL_law_X8_run : GoodIn wsL_law wsX8_run := goodIn_r _ [398, 180, 200, 201, 5, 202, 203, 204, 205, 206, 207, 399, 400, 401, 402, 151, 152, 170, 165, 167, 168, 164, 159, 169, 178, 403, 404, 405, 406, 156, 157, 407, 408, 409, 410, 411, 412, 413, 414, 158, 155, 154, 415, 416, 417, 418, 163, 166, 419, 420, 421, 422, 162, 423, 424, 425, 426, 427, 428, 429, 177, 430, 431, 432, 433, 283, 284, 285, 286, 287, 288, 289, 434, 435, 436, 437, 682, 683, 684, 685, 686, 687, 688, 689, 690, 691, 692, 693, 694, 695, 696, 697, 698, 699, 700, 701, 702, 703, 704, 705, 706, 707] (by decide +kernel) (by decide +kernel)
set_option maxRecDepth 20000 in
theorem gL_law_X8_run : GoodIn wsL_law (wsV RL 76 RX8 yX8_run wsX8_run) := goodIn_app (goodIn_of _ (by decide +kernel)) ggL_law_X8_run
set_option maxRecDepth 20000 in
theorem ggL_law_L_pause : GoodIn wsL_law wsL_pause := goodIn_ca (goodIn_r _ [440, 215, 441, 442, 443, 2, 444, 40, 223, 224, 225, 226, 227, 228, 16, 229, 230, 231, 15, 232, 233, 193, 194, 195, 113, 114, 333, 245, 246, 39, 247, 55, 346, 116, 117, 118, 670, 671, 672, 673, 674, 675, 676, 677, 678, 679, 680, 681, 708, 709, 710, 711, 737] (by decide +kernel) (by decide +kernel)) (goodIn_sub (fun _ h => List.mem_append_right _ h) (by decide +kernel))
set_option maxRecDepth 20000 in
theorem gL_law_L_pause : GoodIn wsL_law (va_wsS RL 77 yL_pause wsL_pause) := goodIn_app (goodIn_of _ (by decide +kernel)) ggL_law_L_pause
set_option maxRecDepth 20000 in
theorem ggL_law_X8_pause : GoodIn wsL_law wsX8_pause := goodIn_r _ [448, 162, 279, 280, 281, 5, 282, 151, 152, 203, 204, 205, 206, 207, 682, 683, 684, 685, 686, 687, 688, 689, 690, 691, 692, 693, 694, 695, 696, 697, 698, 699, 700, 701, 702, 703, 704, 705, 706, 707] (by decide +kernel) (by decide +kernel)
set_option maxRecDepth 20000 in
theorem gL_law_X8_pause : GoodIn wsL_law (wsV RL 80 RX8 yX8_pause wsX8_pause) := goodIn_app (goodIn_of _ (by decide +kernel)) ggL_law_X8_pause
set_option maxRecDepth 20000 in
theorem ggL_law_L_lose : GoodIn wsL_law wsL_lose := goodIn_ca (goodIn_ca (goodIn_ca (goodIn_r _ [451, 215, 185, 216, 452, 453, 454, 2, 455, 221, 222, 28, 456, 457, 458, 459, 227, 228, 16, 223, 224, 225, 226, 229, 230, 231, 15, 232, 233, 193, 194, 195, 113, 114, 338, 339, 340, 341, 48, 49, 329, 245, 246, 39, 247, 55, 234, 235, 236, 190, 191, 460, 461, 462, 463, 237, 238, 239, 342, 343, 344, 27, 345, 82, 309, 378, 379, 380, 381, 310, 265, 266, 267, 268, 269, 116, 117, 118, 670, 671, 672, 673, 674, 675, 676, 677, 678, 679, 680, 681, 708, 709, 710, 711, 737, 726, 727, 728, 729] (by decide +kernel) (by decide +kernel)) (goodIn_sub (fun _ h => List.mem_append_left _ (List.mem_append_right _ h)) (by decide +kernel))) (goodIn_sub (fun _ h => List.mem_append_right _ h) (by decide +kernel))) (goodIn_sub (fun _ h => List.mem_append_left _ (List.mem_append_left _ (List.mem_append_right _ h))) (by decide +kernel))
set_option maxRecDepth 20000 in
theorem gL_law_L_lose : GoodIn wsL_law (va_wsS RL 81 yL_lose wsL_lose) := goodIn_app (goodIn_of _ (by decide +kernel)) ggL_law_L_lose
set_option maxRecDepth 20000 in
theorem ggL_law_X8_lose : GoodIn wsL_law wsX8_lose := goodIn_r _ [467, 156, 468, 469, 470, 5, 471, 279, 280, 281, 282, 151, 152, 200, 201, 202, 407, 408, 409, 410, 423, 424, 425, 203, 204, 205, 206, 207, 682, 683, 684, 685, 686, 687, 688, 689, 690, 691, 692, 693, 694, 695, 696, 697, 698, 699, 700, 701, 702, 703, 704, 705, 706, 707] (by decide +kernel) (by decide +kernel)
set_option maxRecDepth 20000 in
theorem gL_law_X8_lose : GoodIn wsL_law (wsV RL 84 RX8 yX8_lose wsX8_lose) := goodIn_app (goodIn_of _ (by decide +kernel)) ggL_law_X8_lose
set_option maxRecDepth 20000 in
theorem ggL_law_X7_recover : GoodIn wsL_law wsX7_recover := goodIn_r _ [475, 16, 28, 24, 192, 193, 194, 15, 195, 113, 114, 476, 477, 478, 23, 479, 129, 76, 244, 245, 246, 39, 247, 55, 480, 481, 482, 27, 483, 83, 82, 306, 307, 308, 309, 311, 116, 117, 118, 670, 671, 672, 673, 674, 675, 676, 677, 678, 679, 680, 681, 708, 709, 710, 711, 723, 724, 725, 737, 726, 727, 728, 729] (by decide +kernel) (by decide +kernel)
set_option maxRecDepth 20000 in
theorem gL_law_X7_recover : GoodIn wsL_law (wsV RL 85 RX7 yX7_recover wsX7_recover) := goodIn_app (goodIn_of _ (by decide +kernel)) ggL_law_X7_recover
set_option maxRecDepth 20000 in
theorem ggL_law_X8_recover : GoodIn wsL_law wsX8_recover := goodIn_r _ [487, 207, 151, 152, 153, 155, 157, 156, 407, 408, 409, 5, 410, 283, 284, 285, 682, 683, 684, 685, 686, 687, 688, 689, 690, 691, 692, 693, 694, 695, 696, 697, 698, 699, 700, 701, 702, 703, 704, 705, 706, 707] (by decide +kernel) (by decide +kernel)
set_option maxRecDepth 20000 in
theorem gL_law_X8_recover : GoodIn wsL_law (wsV RL 88 RX8 yX8_recover wsX8_recover) := goodIn_app (goodIn_of _ (by decide +kernel)) ggL_law_X8_recover
set_option maxRecDepth 20000 in
theorem ggL_law_X7_tick : GoodIn wsL_law wsX7_tick := goodIn_r _ [491, 108, 670, 671, 672, 673, 674, 675, 676, 677, 678, 679, 680, 681] (by decide +kernel) (by decide +kernel)
set_option maxRecDepth 20000 in
theorem gL_law_X7_tick : GoodIn wsL_law (wsV RL 89 RX7 yX7_tick wsX7_tick) := goodIn_app (goodIn_of _ (by decide +kernel)) ggL_law_X7_tick
set_option maxRecDepth 20000 in
theorem ggL_law_X8_tick : GoodIn wsL_law wsX8_tick := goodIn_r _ [495, 207, 178, 682, 683, 684, 685, 686, 687, 688, 689, 690, 691, 692, 693, 694, 695, 696, 697, 698, 699, 700, 701, 702, 703, 704, 705, 706, 707] (by decide +kernel) (by decide +kernel)
set_option maxRecDepth 20000 in
theorem gL_law_X8_tick : GoodIn wsL_law (wsV RL 92 RX8 yX8_tick wsX8_tick) := goodIn_app (goodIn_of _ (by decide +kernel)) ggL_law_X8_tick
set_option maxRecDepth 20000 in
theorem ggL_law_X7_packets : GoodIn wsL_law wsX7_packets := goodIn_r _ [499, 20, 670, 671, 672, 673, 674, 675, 676, 677, 678, 679, 680, 681, 712, 713, 714, 715, 716, 717, 718, 719, 720, 721, 722] (by decide +kernel) (by decide +kernel)
set_option maxRecDepth 20000 in
theorem gL_law_X7_packets : GoodIn wsL_law (wsV RL 93 RX7 yX7_packets wsX7_packets) := goodIn_app (goodIn_of _ (by decide +kernel)) ggL_law_X7_packets
set_option maxRecDepth 20000 in
theorem ggL_law_X8_packets : GoodIn wsL_law wsX8_packets := goodIn_r _ [503, 207, 179, 682, 683, 684, 685, 686, 687, 688, 689, 690, 691, 692, 693, 694, 695, 696, 697, 698, 699, 700, 701, 702, 703, 704, 705, 706, 707] (by decide +kernel) (by decide +kernel)
set_option maxRecDepth 20000 in
theorem gL_law_X8_packets : GoodIn wsL_law (wsV RL 96 RX8 yX8_packets wsX8_packets) := goodIn_app (goodIn_of _ (by decide +kernel)) ggL_law_X8_packets
set_option maxRecDepth 20000 in
theorem ggL_law_X7_arrived : GoodIn wsL_law wsX7_arrived := goodIn_r _ [507, 20, 670, 671, 672, 673, 674, 675, 676, 677, 678, 679, 680, 681, 712, 713, 714, 715, 716, 717, 718, 719, 720, 721, 722] (by decide +kernel) (by decide +kernel)
set_option maxRecDepth 20000 in
theorem gL_law_X7_arrived : GoodIn wsL_law (wsV RL 97 RX7 yX7_arrived wsX7_arrived) := goodIn_app (goodIn_of _ (by decide +kernel)) ggL_law_X7_arrived
set_option maxRecDepth 20000 in
theorem ggL_law_X8_arrived : GoodIn wsL_law wsX8_arrived := goodIn_r _ [511, 207, 180, 682, 683, 684, 685, 686, 687, 688, 689, 690, 691, 692, 693, 694, 695, 696, 697, 698, 699, 700, 701, 702, 703, 704, 705, 706, 707] (by decide +kernel) (by decide +kernel)
set_option maxRecDepth 20000 in
theorem gL_law_X8_arrived : GoodIn wsL_law (wsV RL 100 RX8 yX8_arrived wsX8_arrived) := goodIn_app (goodIn_of _ (by decide +kernel)) ggL_law_X8_arrived
set_option maxRecDepth 20000 in
theorem ggL_law_L_credits : GoodIn wsL_law wsL_credits := goodIn_ca (goodIn_ca (goodIn_r _ [514, 215, 185, 515, 516, 517, 2, 518, 28, 456, 457, 458, 459, 227, 228, 16, 223, 224, 225, 226, 229, 230, 231, 15, 232, 233, 193, 194, 195, 113, 114, 338, 339, 340, 341, 48, 49, 329, 245, 246, 39, 247, 55, 234, 235, 236, 190, 191, 460, 461, 462, 463, 237, 238, 239, 342, 343, 344, 27, 345, 82, 309, 670, 671, 672, 673, 674, 675, 676, 677, 678, 679, 680, 681, 708, 709, 710, 711, 737, 726, 727, 728, 729] (by decide +kernel) (by decide +kernel)) (goodIn_sub (fun _ h => List.mem_append_right _ h) (by decide +kernel))) (goodIn_sub (fun _ h => List.mem_append_left _ (List.mem_append_left _ (List.mem_append_right _ h))) (by decide +kernel))
set_option maxRecDepth 20000 in
theorem gL_law_L_credits : GoodIn wsL_law (va_wsS RL 101 yL_credits wsL_credits) := goodIn_app (goodIn_of _ (by decide +kernel)) ggL_law_L_credits
set_option maxRecDepth 20000 in
theorem ggL_law_X8_credits : GoodIn wsL_law wsX8_credits := goodIn_r _ [522, 156, 468, 469, 470, 5, 471, 279, 280, 281, 282, 151, 152, 200, 201, 202, 407, 408, 409, 410, 203, 204, 205, 206, 207, 423, 424, 425, 682, 683, 684, 685, 686, 687, 688, 689, 690, 691, 692, 693, 694, 695, 696, 697, 698, 699, 700, 701, 702, 703, 704, 705, 706, 707] (by decide +kernel) (by decide +kernel)
set_option maxRecDepth 20000 in
theorem gL_law_X8_credits : GoodIn wsL_law (wsV RL 103 RX8 yX8_credits wsX8_credits) := goodIn_app (goodIn_of _ (by decide +kernel)) ggL_law_X8_credits
set_option maxRecDepth 20000 in
theorem ggL_law_L_inBuffer : GoodIn wsL_law wsL_inBuffer := goodIn_ca (goodIn_ca (goodIn_r _ [525, 215, 185, 526, 527, 528, 2, 529, 190, 191, 24, 223, 224, 225, 226, 227, 228, 16, 229, 230, 231, 15, 232, 233, 193, 194, 195, 113, 114, 234, 235, 236, 237, 238, 239, 530, 531, 532, 23, 533, 76, 244, 245, 246, 39, 247, 55, 670, 671, 672, 673, 674, 675, 676, 677, 678, 679, 680, 681, 708, 709, 710, 711, 723, 724, 725, 737] (by decide +kernel) (by decide +kernel)) (goodIn_sub (fun _ h => List.mem_append_left _ (List.mem_append_left _ (List.mem_append_right _ h))) (by decide +kernel))) (goodIn_sub (fun _ h => List.mem_append_right _ h) (by decide +kernel))
set_option maxRecDepth 20000 in
theorem gL_law_L_inBuffer : GoodIn wsL_law (va_wsS RL 104 yL_inBuffer wsL_inBuffer) := goodIn_app (goodIn_of _ (by decide +kernel)) ggL_law_L_inBuffer
set_option maxRecDepth 20000 in
theorem ggL_law_X8_inBuffer : GoodIn wsL_law wsX8_inBuffer := goodIn_r _ [537, 155, 279, 280, 281, 5, 282, 151, 152, 200, 201, 202, 203, 204, 205, 206, 207, 283, 284, 285, 682, 683, 684, 685, 686, 687, 688, 689, 690, 691, 692, 693, 694, 695, 696, 697, 698, 699, 700, 701, 702, 703, 704, 705, 706, 707] (by decide +kernel) (by decide +kernel)
set_option maxRecDepth 20000 in
theorem gL_law_X8_inBuffer : GoodIn wsL_law (wsV RL 106 RX8 yX8_inBuffer wsX8_inBuffer) := goodIn_app (goodIn_of _ (by decide +kernel)) ggL_law_X8_inBuffer
set_option maxRecDepth 20000 in
theorem ggL_law_L_gap : GoodIn wsL_law wsL_gap := goodIn_ca (goodIn_r _ [540, 215, 541, 542, 543, 2, 544, 32, 223, 224, 225, 226, 227, 228, 16, 229, 230, 231, 15, 232, 233, 193, 194, 195, 113, 114, 545, 546, 547, 31, 548, 89, 252, 245, 246, 39, 247, 55, 670, 671, 672, 673, 674, 675, 676, 677, 678, 679, 680, 681, 708, 709, 710, 711, 730, 731, 737] (by decide +kernel) (by decide +kernel)) (goodIn_sub (fun _ h => List.mem_append_right _ h) (by decide +kernel))
set_option maxRecDepth 20000 in
theorem gL_law_L_gap : GoodIn wsL_law (va_wsS RL 107 yL_gap wsL_gap) := goodIn_app (goodIn_of _ (by decide +kernel)) ggL_law_L_gap
set_option maxRecDepth 20000 in
theorem ggL_law_X8_gap : GoodIn wsL_law wsX8_gap := goodIn_r _ [552, 159, 279, 280, 281, 5, 282, 151, 152, 203, 204, 205, 206, 207, 682, 683, 684, 685, 686, 687, 688, 689, 690, 691, 692, 693, 694, 695, 696, 697, 698, 699, 700, 701, 702, 703, 704, 705, 706, 707] (by decide +kernel) (by decide +kernel)
set_option maxRecDepth 20000 in
theorem gL_law_X8_gap : GoodIn wsL_law (wsV RL 109 RX8 yX8_gap wsX8_gap) := goodIn_app (goodIn_of _ (by decide +kernel)) ggL_law_X8_gap
set_option maxRecDepth 20000 in
theorem ggL_law_L_placeOf : GoodIn wsL_law wsL_placeOf := goodIn_ca (goodIn_r _ [555, 215, 556, 557, 558, 2, 559, 20, 560, 561, 562, 563, 227, 228, 333, 245, 246, 39, 247, 55, 670, 671, 672, 673, 674, 675, 676, 677, 678, 679, 680, 681, 712, 713, 714, 715, 716, 717, 718, 719, 720, 721, 722, 737] (by decide +kernel) (by decide +kernel)) (goodIn_sub (fun _ h => List.mem_append_right _ h) (by decide +kernel))
set_option maxRecDepth 20000 in
theorem gL_law_L_placeOf : GoodIn wsL_law (va_wsS RL 110 yL_placeOf wsL_placeOf) := goodIn_app (goodIn_of _ (by decide +kernel)) ggL_law_L_placeOf
set_option maxRecDepth 20000 in
theorem ggL_law_X8_placeOf : GoodIn wsL_law wsX8_placeOf := goodIn_r _ [567, 167, 568, 569, 570, 5, 571, 179, 203, 204, 205, 206, 207, 682, 683, 684, 685, 686, 687, 688, 689, 690, 691, 692, 693, 694, 695, 696, 697, 698, 699, 700, 701, 702, 703, 704, 705, 706, 707] (by decide +kernel) (by decide +kernel)
set_option maxRecDepth 20000 in
theorem gL_law_X8_placeOf : GoodIn wsL_law (wsV RL 112 RX8 yX8_placeOf wsX8_placeOf) := goodIn_app (goodIn_of _ (by decide +kernel)) ggL_law_X8_placeOf
set_option maxRecDepth 20000 in
theorem ggL_law_L_hops : GoodIn wsL_law wsL_hops := goodIn_ca (goodIn_r _ [574, 215, 575, 576, 577, 2, 578, 20, 560, 561, 562, 563, 227, 228, 333, 245, 246, 39, 247, 55, 670, 671, 672, 673, 674, 675, 676, 677, 678, 679, 680, 681, 712, 713, 714, 715, 716, 717, 718, 719, 720, 721, 722, 737] (by decide +kernel) (by decide +kernel)) (goodIn_sub (fun _ h => List.mem_append_right _ h) (by decide +kernel))
set_option maxRecDepth 20000 in
theorem gL_law_L_hops : GoodIn wsL_law (va_wsS RL 113 yL_hops wsL_hops) := goodIn_app (goodIn_of _ (by decide +kernel)) ggL_law_L_hops
set_option maxRecDepth 20000 in
theorem ggL_law_X8_hops : GoodIn wsL_law wsX8_hops := goodIn_r _ [582, 168, 568, 569, 570, 5, 571, 179, 203, 204, 205, 206, 207, 682, 683, 684, 685, 686, 687, 688, 689, 690, 691, 692, 693, 694, 695, 696, 697, 698, 699, 700, 701, 702, 703, 704, 705, 706, 707] (by decide +kernel) (by decide +kernel)
set_option maxRecDepth 20000 in
theorem gL_law_X8_hops : GoodIn wsL_law (wsV RL 115 RX8 yX8_hops wsX8_hops) := goodIn_app (goodIn_of _ (by decide +kernel)) ggL_law_X8_hops
set_option maxRecDepth 20000 in
theorem ggL_law_L_isMarked : GoodIn wsL_law wsL_isMarked := goodIn_ca (goodIn_r _ [585, 215, 586, 587, 588, 2, 589, 20, 560, 561, 562, 563, 227, 228, 333, 245, 246, 39, 247, 55, 670, 671, 672, 673, 674, 675, 676, 677, 678, 679, 680, 681, 712, 713, 714, 715, 716, 717, 718, 719, 720, 721, 722, 737] (by decide +kernel) (by decide +kernel)) (goodIn_sub (fun _ h => List.mem_append_right _ h) (by decide +kernel))
set_option maxRecDepth 20000 in
theorem gL_law_L_isMarked : GoodIn wsL_law (va_wsS RL 116 yL_isMarked wsL_isMarked) := goodIn_app (goodIn_of _ (by decide +kernel)) ggL_law_L_isMarked
set_option maxRecDepth 20000 in
theorem ggL_law_X8_isMarked : GoodIn wsL_law wsX8_isMarked := goodIn_r _ [593, 169, 568, 569, 570, 5, 571, 179, 203, 204, 205, 206, 207, 682, 683, 684, 685, 686, 687, 688, 689, 690, 691, 692, 693, 694, 695, 696, 697, 698, 699, 700, 701, 702, 703, 704, 705, 706, 707] (by decide +kernel) (by decide +kernel)
set_option maxRecDepth 20000 in
theorem gL_law_X8_isMarked : GoodIn wsL_law (wsV RL 118 RX8 yX8_isMarked wsX8_isMarked) := goodIn_app (goodIn_of _ (by decide +kernel)) ggL_law_X8_isMarked
set_option maxRecDepth 20000 in
theorem ggL_law_L_wants : GoodIn wsL_law wsL_wants := goodIn_ca (goodIn_r _ [596, 215, 597, 598, 599, 2, 600, 20, 560, 561, 562, 563, 227, 228, 320, 321, 322, 19, 323, 65, 69, 62, 64, 324, 245, 246, 39, 247, 55, 325, 326, 327, 15, 328, 48, 49, 329, 330, 331, 332, 670, 671, 672, 673, 674, 675, 676, 677, 678, 679, 680, 681, 712, 713, 714, 715, 716, 717, 718, 719, 720, 721, 722, 737, 708, 709, 710, 711] (by decide +kernel) (by decide +kernel)) (goodIn_sub (fun _ h => List.mem_append_right _ h) (by decide +kernel))
set_option maxRecDepth 20000 in
theorem gL_law_L_wants : GoodIn wsL_law (va_wsS RL 119 yL_wants wsL_wants) := goodIn_app (goodIn_of _ (by decide +kernel)) ggL_law_L_wants
set_option maxRecDepth 20000 in
theorem ggL_law_X8_wants : GoodIn wsL_law wsX8_wants := goodIn_r _ [604, 167, 568, 569, 570, 5, 571, 179, 203, 204, 205, 206, 207, 415, 416, 417, 418, 163, 151, 166, 682, 683, 684, 685, 686, 687, 688, 689, 690, 691, 692, 693, 694, 695, 696, 697, 698, 699, 700, 701, 702, 703, 704, 705, 706, 707] (by decide +kernel) (by decide +kernel)
set_option maxRecDepth 20000 in
theorem gL_law_X8_wants : GoodIn wsL_law (wsV RL 121 RX8 yX8_wants wsX8_wants) := goodIn_app (goodIn_of _ (by decide +kernel)) ggL_law_X8_wants
set_option maxRecDepth 20000 in
theorem ggL_law_X7_circle : GoodIn wsL_law wsX7_circle := goodIn_r _ [608, 36, 609, 610, 611, 35, 612, 99, 97, 613, 193, 194, 15, 195, 113, 114, 614, 615, 616, 617, 101, 100, 618, 317, 318, 23, 319, 76, 75, 244, 245, 246, 39, 247, 55, 619, 620, 321, 322, 19, 323, 65, 69, 62, 64, 324, 325, 326, 327, 328, 48, 49, 329, 330, 331, 332, 621, 622, 623, 624, 625, 339, 340, 341, 238, 2, 239, 626, 241, 242, 243, 129, 627, 116, 117, 118, 628, 629, 630, 631, 670, 671, 672, 673, 674, 675, 676, 677, 678, 679, 680, 681, 732, 733, 734, 735, 736, 708, 709, 710, 711, 712, 713, 714, 715, 716, 717, 718, 719, 720, 721, 722, 723, 724, 725, 737] (by decide +kernel) (by decide +kernel)
set_option maxRecDepth 20000 in
theorem gL_law_X7_circle : GoodIn wsL_law (wsV RL 122 RX7 yX7_circle wsX7_circle) := goodIn_app (goodIn_of _ (by decide +kernel)) ggL_law_X7_circle
set_option maxRecDepth 20000 in
theorem ggL_law_X8_circle : GoodIn wsL_law wsX8_circle := goodIn_r _ [635, 207, 151, 152, 636, 637, 638, 5, 639, 155, 154, 153, 415, 416, 417, 418, 163, 166, 407, 408, 409, 410, 283, 284, 285, 682, 683, 684, 685, 686, 687, 688, 689, 690, 691, 692, 693, 694, 695, 696, 697, 698, 699, 700, 701, 702, 703, 704, 705, 706, 707] (by decide +kernel) (by decide +kernel)
set_option maxRecDepth 20000 in
theorem gL_law_X8_circle : GoodIn wsL_law (wsV RL 125 RX8 yX8_circle wsX8_circle) := goodIn_app (goodIn_of _ (by decide +kernel)) ggL_law_X8_circle
set_option maxRecDepth 20000 in
theorem ggL_law_X7_mayCircle : GoodIn wsL_law wsX7_mayCircle := goodIn_r _ [643, 36, 644, 645, 646, 35, 647, 98, 100, 648, 131, 132, 39, 133, 55, 619, 245, 246, 247, 649, 650, 651, 652, 99, 238, 2, 239, 653, 326, 327, 15, 328, 48, 49, 329, 330, 331, 332, 621, 622, 623, 624, 625, 339, 340, 341, 113, 114, 627, 116, 117, 118, 654, 655, 656, 657, 613, 193, 194, 195, 658, 659, 660, 661, 670, 671, 672, 673, 674, 675, 676, 677, 678, 679, 680, 681, 732, 733, 734, 735, 736, 712, 713, 714, 715, 716, 717, 718, 719, 720, 721, 722, 737, 708, 709, 710, 711] (by decide +kernel) (by decide +kernel)
set_option maxRecDepth 20000 in
theorem gL_law_X7_mayCircle : GoodIn wsL_law (wsV RL 126 RX7 yX7_mayCircle wsX7_mayCircle) := goodIn_app (goodIn_of _ (by decide +kernel)) ggL_law_X7_mayCircle
set_option maxRecDepth 20000 in
theorem ggL_law_X8_mayCircle : GoodIn wsL_law wsX8_mayCircle := goodIn_r _ [665, 207, 151, 152, 172, 171, 666, 667, 668, 5, 669, 155, 154, 165, 415, 416, 417, 418, 163, 166, 407, 408, 409, 410, 283, 284, 285, 682, 683, 684, 685, 686, 687, 688, 689, 690, 691, 692, 693, 694, 695, 696, 697, 698, 699, 700, 701, 702, 703, 704, 705, 706, 707] (by decide +kernel) (by decide +kernel)
set_option maxRecDepth 20000 in
theorem gL_law_X8_mayCircle : GoodIn wsL_law (wsV RL 130 RX8 yX8_mayCircle wsX8_mayCircle) := goodIn_app (goodIn_of _ (by decide +kernel)) ggL_law_X8_mayCircle
theorem dL_law_0 : decode cL_law 0 = .ok (.new 8, 3) := by decide +kernel
theorem dL_law_3 : decode cL_law 3 = .ok (.dup, 1) := by decide +kernel
theorem dL_law_4 : decode cL_law 4 = .ok (.invokespecial 56, 3) := by decide +kernel
theorem dL_law_7 : decode cL_law 7 = .ok (.astore_n 1, 1) := by decide +kernel
theorem dL_law_8 : decode cL_law 8 = .ok (.new 57, 3) := by decide +kernel
theorem dL_law_11 : decode cL_law 11 = .ok (.dup, 1) := by decide +kernel
theorem dL_law_12 : decode cL_law 12 = .ok (.invokespecial 59, 3) := by decide +kernel
theorem dL_law_15 : decode cL_law 15 = .ok (.astore_n 2, 1) := by decide +kernel
theorem dL_law_16 : decode cL_law 16 = .ok (.iconst 1, 1) := by decide +kernel
theorem dL_law_17 : decode cL_law 17 = .ok (.newarray .long, 2) := by decide +kernel
theorem dL_law_19 : decode cL_law 19 = .ok (.astore_n 3, 1) := by decide +kernel
theorem dL_law_20 : decode cL_law 20 = .ok (.iconst 0, 1) := by decide +kernel
theorem dL_law_21 : decode cL_law 21 = .ok (.istore 4, 2) := by decide +kernel
theorem dL_law_23 : decode cL_law 23 = .ok (.iload 4, 2) := by decide +kernel
theorem dL_law_25 : decode cL_law 25 = .ok (.aload_n 0, 1) := by decide +kernel
theorem dL_law_26 : decode cL_law 26 = .ok (.arraylength, 1) := by decide +kernel
theorem dL_law_27 : decode cL_law 27 = .ok (.iconst 5, 1) := by decide +kernel
theorem dL_law_28 : decode cL_law 28 = .ok (.isub, 1) := by decide +kernel
theorem dL_law_29 : decode cL_law 29 = .ok (.if_icmp .gt 1037, 3) := by decide +kernel
theorem dL_law_32 : decode cL_law 32 = .ok (.aload_n 0, 1) := by decide +kernel
theorem dL_law_33 : decode cL_law 33 = .ok (.iload 4, 2) := by decide +kernel
theorem dL_law_35 : decode cL_law 35 = .ok (.iaload, 1) := by decide +kernel
theorem dL_law_36 : decode cL_law 36 = .ok (.bipush 31, 2) := by decide +kernel
theorem dL_law_38 : decode cL_law 38 = .ok (.iand, 1) := by decide +kernel
theorem dL_law_39 : decode cL_law 39 = .ok (.tableswitch 1021 0 17 #[85, 177, 269, 325, 416, 496, 509, 522, 535, 548, 628, 708, 764, 820, 876, 939, 995, 1008], 85) := by decide +kernel
theorem dL_law_124 : decode cL_law 124 = .ok (.aload_n 1, 1) := by decide +kernel
theorem dL_law_125 : decode cL_law 125 = .ok (.aload_n 0, 1) := by decide +kernel
theorem dL_law_126 : decode cL_law 126 = .ok (.iload 4, 2) := by decide +kernel
theorem dL_law_128 : decode cL_law 128 = .ok (.iconst 1, 1) := by decide +kernel
theorem dL_law_129 : decode cL_law 129 = .ok (.iadd, 1) := by decide +kernel
theorem dL_law_130 : decode cL_law 130 = .ok (.iaload, 1) := by decide +kernel
theorem dL_law_131 : decode cL_law 131 = .ok (.aload_n 0, 1) := by decide +kernel
theorem dL_law_132 : decode cL_law 132 = .ok (.iload 4, 2) := by decide +kernel
theorem dL_law_134 : decode cL_law 134 = .ok (.iconst 2, 1) := by decide +kernel
theorem dL_law_135 : decode cL_law 135 = .ok (.iadd, 1) := by decide +kernel
theorem dL_law_136 : decode cL_law 136 = .ok (.iaload, 1) := by decide +kernel
theorem dL_law_137 : decode cL_law 137 = .ok (.aload_n 0, 1) := by decide +kernel
theorem dL_law_138 : decode cL_law 138 = .ok (.iload 4, 2) := by decide +kernel
theorem dL_law_140 : decode cL_law 140 = .ok (.iconst 3, 1) := by decide +kernel
theorem dL_law_141 : decode cL_law 141 = .ok (.iadd, 1) := by decide +kernel
theorem dL_law_142 : decode cL_law 142 = .ok (.iaload, 1) := by decide +kernel
theorem dL_law_143 : decode cL_law 143 = .ok (.aload_n 0, 1) := by decide +kernel
theorem dL_law_144 : decode cL_law 144 = .ok (.iload 4, 2) := by decide +kernel
theorem dL_law_146 : decode cL_law 146 = .ok (.iconst 4, 1) := by decide +kernel
theorem dL_law_147 : decode cL_law 147 = .ok (.iadd, 1) := by decide +kernel
theorem dL_law_148 : decode cL_law 148 = .ok (.iaload, 1) := by decide +kernel
theorem dL_law_149 : decode cL_law 149 = .ok (.aload_n 3, 1) := by decide +kernel
theorem dL_law_150 : decode cL_law 150 = .ok (.invokestatic 60, 3) := by decide +kernel
theorem dL_law_153 : decode cL_law 153 = .ok (.istore 5, 2) := by decide +kernel
theorem dL_law_155 : decode cL_law 155 = .ok (.aload_n 2, 1) := by decide +kernel
theorem dL_law_156 : decode cL_law 156 = .ok (.aload_n 0, 1) := by decide +kernel
theorem dL_law_157 : decode cL_law 157 = .ok (.iload 4, 2) := by decide +kernel
theorem dL_law_159 : decode cL_law 159 = .ok (.iconst 1, 1) := by decide +kernel
theorem dL_law_160 : decode cL_law 160 = .ok (.iadd, 1) := by decide +kernel
theorem dL_law_161 : decode cL_law 161 = .ok (.iaload, 1) := by decide +kernel
theorem dL_law_162 : decode cL_law 162 = .ok (.aload_n 0, 1) := by decide +kernel
theorem dL_law_163 : decode cL_law 163 = .ok (.iload 4, 2) := by decide +kernel
theorem dL_law_165 : decode cL_law 165 = .ok (.iconst 2, 1) := by decide +kernel
theorem dL_law_166 : decode cL_law 166 = .ok (.iadd, 1) := by decide +kernel
theorem dL_law_167 : decode cL_law 167 = .ok (.iaload, 1) := by decide +kernel
theorem dL_law_168 : decode cL_law 168 = .ok (.aload_n 0, 1) := by decide +kernel
theorem dL_law_169 : decode cL_law 169 = .ok (.iload 4, 2) := by decide +kernel
theorem dL_law_171 : decode cL_law 171 = .ok (.iconst 3, 1) := by decide +kernel
theorem dL_law_172 : decode cL_law 172 = .ok (.iadd, 1) := by decide +kernel
theorem dL_law_173 : decode cL_law 173 = .ok (.iaload, 1) := by decide +kernel
theorem dL_law_174 : decode cL_law 174 = .ok (.aload_n 0, 1) := by decide +kernel
theorem dL_law_175 : decode cL_law 175 = .ok (.iload 4, 2) := by decide +kernel
theorem dL_law_177 : decode cL_law 177 = .ok (.iconst 4, 1) := by decide +kernel
theorem dL_law_178 : decode cL_law 178 = .ok (.iadd, 1) := by decide +kernel
theorem dL_law_179 : decode cL_law 179 = .ok (.iaload, 1) := by decide +kernel
theorem dL_law_180 : decode cL_law 180 = .ok (.invokevirtual 65, 3) := by decide +kernel
theorem dL_law_183 : decode cL_law 183 = .ok (.istore 6, 2) := by decide +kernel
theorem dL_law_185 : decode cL_law 185 = .ok (.aload_n 2, 1) := by decide +kernel
theorem dL_law_186 : decode cL_law 186 = .ok (.invokevirtual 66, 3) := by decide +kernel
theorem dL_law_189 : decode cL_law 189 = .ok (.iload 5, 2) := by decide +kernel
theorem dL_law_191 : decode cL_law 191 = .ok (.if_icmp .eq 5, 3) := by decide +kernel
theorem dL_law_194 : decode cL_law 194 = .ok (.iconst 0, 1) := by decide +kernel
theorem dL_law_195 : decode cL_law 195 = .ok (.ireturn, 1) := by decide +kernel
theorem dL_law_196 : decode cL_law 196 = .ok (.iload 5, 2) := by decide +kernel
theorem dL_law_198 : decode cL_law 198 = .ok (.ifCond .ne 15, 3) := by decide +kernel
theorem dL_law_201 : decode cL_law 201 = .ok (.aload_n 3, 1) := by decide +kernel
theorem dL_law_202 : decode cL_law 202 = .ok (.iconst 0, 1) := by decide +kernel
theorem dL_law_203 : decode cL_law 203 = .ok (.laload, 1) := by decide +kernel
theorem dL_law_204 : decode cL_law 204 = .ok (.iload 6, 2) := by decide +kernel
theorem dL_law_206 : decode cL_law 206 = .ok (.i2l, 1) := by decide +kernel
theorem dL_law_207 : decode cL_law 207 = .ok (.lcmp, 1) := by decide +kernel
theorem dL_law_208 : decode cL_law 208 = .ok (.ifCond .eq 5, 3) := by decide +kernel
theorem dL_law_211 : decode cL_law 211 = .ok (.iconst 0, 1) := by decide +kernel
theorem dL_law_212 : decode cL_law 212 = .ok (.ireturn, 1) := by decide +kernel
theorem dL_law_213 : decode cL_law 213 = .ok (.goto 847, 3) := by decide +kernel
theorem dL_law_216 : decode cL_law 216 = .ok (.aload_n 1, 1) := by decide +kernel
theorem dL_law_217 : decode cL_law 217 = .ok (.aload_n 0, 1) := by decide +kernel
theorem dL_law_218 : decode cL_law 218 = .ok (.iload 4, 2) := by decide +kernel
theorem dL_law_220 : decode cL_law 220 = .ok (.iconst 1, 1) := by decide +kernel
theorem dL_law_221 : decode cL_law 221 = .ok (.iadd, 1) := by decide +kernel
theorem dL_law_222 : decode cL_law 222 = .ok (.iaload, 1) := by decide +kernel
theorem dL_law_223 : decode cL_law 223 = .ok (.aload_n 0, 1) := by decide +kernel
theorem dL_law_224 : decode cL_law 224 = .ok (.iload 4, 2) := by decide +kernel
theorem dL_law_226 : decode cL_law 226 = .ok (.iconst 2, 1) := by decide +kernel
theorem dL_law_227 : decode cL_law 227 = .ok (.iadd, 1) := by decide +kernel
theorem dL_law_228 : decode cL_law 228 = .ok (.iaload, 1) := by decide +kernel
theorem dL_law_229 : decode cL_law 229 = .ok (.aload_n 0, 1) := by decide +kernel
theorem dL_law_230 : decode cL_law 230 = .ok (.iload 4, 2) := by decide +kernel
theorem dL_law_232 : decode cL_law 232 = .ok (.iconst 3, 1) := by decide +kernel
theorem dL_law_233 : decode cL_law 233 = .ok (.iadd, 1) := by decide +kernel
theorem dL_law_234 : decode cL_law 234 = .ok (.iaload, 1) := by decide +kernel
theorem dL_law_235 : decode cL_law 235 = .ok (.aload_n 0, 1) := by decide +kernel
theorem dL_law_236 : decode cL_law 236 = .ok (.iload 4, 2) := by decide +kernel
theorem dL_law_238 : decode cL_law 238 = .ok (.iconst 4, 1) := by decide +kernel
theorem dL_law_239 : decode cL_law 239 = .ok (.iadd, 1) := by decide +kernel
theorem dL_law_240 : decode cL_law 240 = .ok (.iaload, 1) := by decide +kernel
theorem dL_law_241 : decode cL_law 241 = .ok (.aload_n 3, 1) := by decide +kernel
theorem dL_law_242 : decode cL_law 242 = .ok (.invokestatic 70, 3) := by decide +kernel
theorem dL_law_245 : decode cL_law 245 = .ok (.istore 5, 2) := by decide +kernel
theorem dL_law_247 : decode cL_law 247 = .ok (.aload_n 2, 1) := by decide +kernel
theorem dL_law_248 : decode cL_law 248 = .ok (.aload_n 0, 1) := by decide +kernel
theorem dL_law_249 : decode cL_law 249 = .ok (.iload 4, 2) := by decide +kernel
theorem dL_law_251 : decode cL_law 251 = .ok (.iconst 1, 1) := by decide +kernel
theorem dL_law_252 : decode cL_law 252 = .ok (.iadd, 1) := by decide +kernel
theorem dL_law_253 : decode cL_law 253 = .ok (.iaload, 1) := by decide +kernel
theorem dL_law_254 : decode cL_law 254 = .ok (.aload_n 0, 1) := by decide +kernel
theorem dL_law_255 : decode cL_law 255 = .ok (.iload 4, 2) := by decide +kernel
theorem dL_law_257 : decode cL_law 257 = .ok (.iconst 2, 1) := by decide +kernel
theorem dL_law_258 : decode cL_law 258 = .ok (.iadd, 1) := by decide +kernel
theorem dL_law_259 : decode cL_law 259 = .ok (.iaload, 1) := by decide +kernel
theorem dL_law_260 : decode cL_law 260 = .ok (.aload_n 0, 1) := by decide +kernel
theorem dL_law_261 : decode cL_law 261 = .ok (.iload 4, 2) := by decide +kernel
theorem dL_law_263 : decode cL_law 263 = .ok (.iconst 3, 1) := by decide +kernel
theorem dL_law_264 : decode cL_law 264 = .ok (.iadd, 1) := by decide +kernel
theorem dL_law_265 : decode cL_law 265 = .ok (.iaload, 1) := by decide +kernel
theorem dL_law_266 : decode cL_law 266 = .ok (.aload_n 0, 1) := by decide +kernel
theorem dL_law_267 : decode cL_law 267 = .ok (.iload 4, 2) := by decide +kernel
theorem dL_law_269 : decode cL_law 269 = .ok (.iconst 4, 1) := by decide +kernel
theorem dL_law_270 : decode cL_law 270 = .ok (.iadd, 1) := by decide +kernel
theorem dL_law_271 : decode cL_law 271 = .ok (.iaload, 1) := by decide +kernel
theorem dL_law_272 : decode cL_law 272 = .ok (.invokevirtual 72, 3) := by decide +kernel
theorem dL_law_275 : decode cL_law 275 = .ok (.istore 6, 2) := by decide +kernel
theorem dL_law_277 : decode cL_law 277 = .ok (.aload_n 2, 1) := by decide +kernel
theorem dL_law_278 : decode cL_law 278 = .ok (.invokevirtual 66, 3) := by decide +kernel
theorem dL_law_281 : decode cL_law 281 = .ok (.iload 5, 2) := by decide +kernel
theorem dL_law_283 : decode cL_law 283 = .ok (.if_icmp .eq 5, 3) := by decide +kernel
theorem dL_law_286 : decode cL_law 286 = .ok (.iconst 0, 1) := by decide +kernel
theorem dL_law_287 : decode cL_law 287 = .ok (.ireturn, 1) := by decide +kernel
theorem dL_law_288 : decode cL_law 288 = .ok (.iload 5, 2) := by decide +kernel
theorem dL_law_290 : decode cL_law 290 = .ok (.ifCond .ne 15, 3) := by decide +kernel
theorem dL_law_293 : decode cL_law 293 = .ok (.aload_n 3, 1) := by decide +kernel
theorem dL_law_294 : decode cL_law 294 = .ok (.iconst 0, 1) := by decide +kernel
theorem dL_law_295 : decode cL_law 295 = .ok (.laload, 1) := by decide +kernel
theorem dL_law_296 : decode cL_law 296 = .ok (.iload 6, 2) := by decide +kernel
theorem dL_law_298 : decode cL_law 298 = .ok (.i2l, 1) := by decide +kernel
theorem dL_law_299 : decode cL_law 299 = .ok (.lcmp, 1) := by decide +kernel
theorem dL_law_300 : decode cL_law 300 = .ok (.ifCond .eq 5, 3) := by decide +kernel
theorem dL_law_303 : decode cL_law 303 = .ok (.iconst 0, 1) := by decide +kernel
theorem dL_law_304 : decode cL_law 304 = .ok (.ireturn, 1) := by decide +kernel
theorem dL_law_305 : decode cL_law 305 = .ok (.goto 755, 3) := by decide +kernel
theorem dL_law_308 : decode cL_law 308 = .ok (.aload_n 1, 1) := by decide +kernel
theorem dL_law_309 : decode cL_law 309 = .ok (.aload_n 0, 1) := by decide +kernel
theorem dL_law_310 : decode cL_law 310 = .ok (.iload 4, 2) := by decide +kernel
theorem dL_law_312 : decode cL_law 312 = .ok (.iconst 1, 1) := by decide +kernel
theorem dL_law_313 : decode cL_law 313 = .ok (.iadd, 1) := by decide +kernel
theorem dL_law_314 : decode cL_law 314 = .ok (.iaload, 1) := by decide +kernel
theorem dL_law_315 : decode cL_law 315 = .ok (.aload_n 3, 1) := by decide +kernel
theorem dL_law_316 : decode cL_law 316 = .ok (.invokestatic 73, 3) := by decide +kernel
theorem dL_law_319 : decode cL_law 319 = .ok (.istore 5, 2) := by decide +kernel
theorem dL_law_321 : decode cL_law 321 = .ok (.aload_n 2, 1) := by decide +kernel
theorem dL_law_322 : decode cL_law 322 = .ok (.aload_n 0, 1) := by decide +kernel
theorem dL_law_323 : decode cL_law 323 = .ok (.iload 4, 2) := by decide +kernel
theorem dL_law_325 : decode cL_law 325 = .ok (.iconst 1, 1) := by decide +kernel
theorem dL_law_326 : decode cL_law 326 = .ok (.iadd, 1) := by decide +kernel
theorem dL_law_327 : decode cL_law 327 = .ok (.iaload, 1) := by decide +kernel
theorem dL_law_328 : decode cL_law 328 = .ok (.invokevirtual 76, 3) := by decide +kernel
theorem dL_law_331 : decode cL_law 331 = .ok (.istore 6, 2) := by decide +kernel
theorem dL_law_333 : decode cL_law 333 = .ok (.aload_n 2, 1) := by decide +kernel
theorem dL_law_334 : decode cL_law 334 = .ok (.invokevirtual 66, 3) := by decide +kernel
theorem dL_law_337 : decode cL_law 337 = .ok (.iload 5, 2) := by decide +kernel
theorem dL_law_339 : decode cL_law 339 = .ok (.if_icmp .eq 5, 3) := by decide +kernel
theorem dL_law_342 : decode cL_law 342 = .ok (.iconst 0, 1) := by decide +kernel
theorem dL_law_343 : decode cL_law 343 = .ok (.ireturn, 1) := by decide +kernel
theorem dL_law_344 : decode cL_law 344 = .ok (.iload 5, 2) := by decide +kernel
theorem dL_law_346 : decode cL_law 346 = .ok (.ifCond .ne 15, 3) := by decide +kernel
theorem dL_law_349 : decode cL_law 349 = .ok (.aload_n 3, 1) := by decide +kernel
theorem dL_law_350 : decode cL_law 350 = .ok (.iconst 0, 1) := by decide +kernel
theorem dL_law_351 : decode cL_law 351 = .ok (.laload, 1) := by decide +kernel
theorem dL_law_352 : decode cL_law 352 = .ok (.iload 6, 2) := by decide +kernel
theorem dL_law_354 : decode cL_law 354 = .ok (.i2l, 1) := by decide +kernel
theorem dL_law_355 : decode cL_law 355 = .ok (.lcmp, 1) := by decide +kernel
theorem dL_law_356 : decode cL_law 356 = .ok (.ifCond .eq 5, 3) := by decide +kernel
theorem dL_law_359 : decode cL_law 359 = .ok (.iconst 0, 1) := by decide +kernel
theorem dL_law_360 : decode cL_law 360 = .ok (.ireturn, 1) := by decide +kernel
theorem dL_law_361 : decode cL_law 361 = .ok (.goto 699, 3) := by decide +kernel
theorem dL_law_364 : decode cL_law 364 = .ok (.aload_n 1, 1) := by decide +kernel
theorem dL_law_365 : decode cL_law 365 = .ok (.aload_n 0, 1) := by decide +kernel
theorem dL_law_366 : decode cL_law 366 = .ok (.iload 4, 2) := by decide +kernel
theorem dL_law_368 : decode cL_law 368 = .ok (.iconst 1, 1) := by decide +kernel
theorem dL_law_369 : decode cL_law 369 = .ok (.iadd, 1) := by decide +kernel
theorem dL_law_370 : decode cL_law 370 = .ok (.iaload, 1) := by decide +kernel
theorem dL_law_371 : decode cL_law 371 = .ok (.aload_n 0, 1) := by decide +kernel
theorem dL_law_372 : decode cL_law 372 = .ok (.iload 4, 2) := by decide +kernel
theorem dL_law_374 : decode cL_law 374 = .ok (.iconst 2, 1) := by decide +kernel
theorem dL_law_375 : decode cL_law 375 = .ok (.iadd, 1) := by decide +kernel
theorem dL_law_376 : decode cL_law 376 = .ok (.iaload, 1) := by decide +kernel
theorem dL_law_377 : decode cL_law 377 = .ok (.ifCond .eq 7, 3) := by decide +kernel
theorem dL_law_380 : decode cL_law 380 = .ok (.iconst 1, 1) := by decide +kernel
theorem dL_law_381 : decode cL_law 381 = .ok (.goto 4, 3) := by decide +kernel
theorem dL_law_384 : decode cL_law 384 = .ok (.iconst 0, 1) := by decide +kernel
theorem dL_law_385 : decode cL_law 385 = .ok (.aload_n 3, 1) := by decide +kernel
theorem dL_law_386 : decode cL_law 386 = .ok (.invokestatic 77, 3) := by decide +kernel
theorem dL_law_389 : decode cL_law 389 = .ok (.istore 5, 2) := by decide +kernel
theorem dL_law_391 : decode cL_law 391 = .ok (.aload_n 2, 1) := by decide +kernel
theorem dL_law_392 : decode cL_law 392 = .ok (.aload_n 0, 1) := by decide +kernel
theorem dL_law_393 : decode cL_law 393 = .ok (.iload 4, 2) := by decide +kernel
theorem dL_law_395 : decode cL_law 395 = .ok (.iconst 1, 1) := by decide +kernel
theorem dL_law_396 : decode cL_law 396 = .ok (.iadd, 1) := by decide +kernel
theorem dL_law_397 : decode cL_law 397 = .ok (.iaload, 1) := by decide +kernel
theorem dL_law_398 : decode cL_law 398 = .ok (.aload_n 0, 1) := by decide +kernel
theorem dL_law_399 : decode cL_law 399 = .ok (.iload 4, 2) := by decide +kernel
theorem dL_law_401 : decode cL_law 401 = .ok (.iconst 2, 1) := by decide +kernel
theorem dL_law_402 : decode cL_law 402 = .ok (.iadd, 1) := by decide +kernel
theorem dL_law_403 : decode cL_law 403 = .ok (.iaload, 1) := by decide +kernel
theorem dL_law_404 : decode cL_law 404 = .ok (.ifCond .eq 7, 3) := by decide +kernel
theorem dL_law_407 : decode cL_law 407 = .ok (.iconst 1, 1) := by decide +kernel
theorem dL_law_408 : decode cL_law 408 = .ok (.goto 4, 3) := by decide +kernel
theorem dL_law_411 : decode cL_law 411 = .ok (.iconst 0, 1) := by decide +kernel
theorem dL_law_412 : decode cL_law 412 = .ok (.invokevirtual 80, 3) := by decide +kernel
theorem dL_law_415 : decode cL_law 415 = .ok (.istore 6, 2) := by decide +kernel
theorem dL_law_417 : decode cL_law 417 = .ok (.aload_n 2, 1) := by decide +kernel
theorem dL_law_418 : decode cL_law 418 = .ok (.invokevirtual 66, 3) := by decide +kernel
theorem dL_law_421 : decode cL_law 421 = .ok (.iload 5, 2) := by decide +kernel
theorem dL_law_423 : decode cL_law 423 = .ok (.if_icmp .eq 5, 3) := by decide +kernel
theorem dL_law_426 : decode cL_law 426 = .ok (.iconst 0, 1) := by decide +kernel
theorem dL_law_427 : decode cL_law 427 = .ok (.ireturn, 1) := by decide +kernel
theorem dL_law_428 : decode cL_law 428 = .ok (.iload 5, 2) := by decide +kernel
theorem dL_law_430 : decode cL_law 430 = .ok (.ifCond .ne 22, 3) := by decide +kernel
theorem dL_law_433 : decode cL_law 433 = .ok (.aload_n 3, 1) := by decide +kernel
theorem dL_law_434 : decode cL_law 434 = .ok (.iconst 0, 1) := by decide +kernel
theorem dL_law_435 : decode cL_law 435 = .ok (.laload, 1) := by decide +kernel
theorem dL_law_436 : decode cL_law 436 = .ok (.iload 6, 2) := by decide +kernel
theorem dL_law_438 : decode cL_law 438 = .ok (.ifCond .eq 7, 3) := by decide +kernel
theorem dL_law_441 : decode cL_law 441 = .ok (.lconst 1, 1) := by decide +kernel
theorem dL_law_442 : decode cL_law 442 = .ok (.goto 4, 3) := by decide +kernel
theorem dL_law_445 : decode cL_law 445 = .ok (.lconst 0, 1) := by decide +kernel
theorem dL_law_446 : decode cL_law 446 = .ok (.lcmp, 1) := by decide +kernel
theorem dL_law_447 : decode cL_law 447 = .ok (.ifCond .eq 5, 3) := by decide +kernel
theorem dL_law_450 : decode cL_law 450 = .ok (.iconst 0, 1) := by decide +kernel
theorem dL_law_451 : decode cL_law 451 = .ok (.ireturn, 1) := by decide +kernel
theorem dL_law_452 : decode cL_law 452 = .ok (.goto 608, 3) := by decide +kernel
theorem dL_law_455 : decode cL_law 455 = .ok (.aload_n 1, 1) := by decide +kernel
theorem dL_law_456 : decode cL_law 456 = .ok (.aload_n 0, 1) := by decide +kernel
theorem dL_law_457 : decode cL_law 457 = .ok (.iload 4, 2) := by decide +kernel
theorem dL_law_459 : decode cL_law 459 = .ok (.iconst 1, 1) := by decide +kernel
theorem dL_law_460 : decode cL_law 460 = .ok (.iadd, 1) := by decide +kernel
theorem dL_law_461 : decode cL_law 461 = .ok (.iaload, 1) := by decide +kernel
theorem dL_law_462 : decode cL_law 462 = .ok (.aload_n 0, 1) := by decide +kernel
theorem dL_law_463 : decode cL_law 463 = .ok (.iload 4, 2) := by decide +kernel
theorem dL_law_465 : decode cL_law 465 = .ok (.iconst 2, 1) := by decide +kernel
theorem dL_law_466 : decode cL_law 466 = .ok (.iadd, 1) := by decide +kernel
theorem dL_law_467 : decode cL_law 467 = .ok (.iaload, 1) := by decide +kernel
theorem dL_law_468 : decode cL_law 468 = .ok (.aload_n 0, 1) := by decide +kernel
theorem dL_law_469 : decode cL_law 469 = .ok (.iload 4, 2) := by decide +kernel
theorem dL_law_471 : decode cL_law 471 = .ok (.iconst 3, 1) := by decide +kernel
theorem dL_law_472 : decode cL_law 472 = .ok (.iadd, 1) := by decide +kernel
theorem dL_law_473 : decode cL_law 473 = .ok (.iaload, 1) := by decide +kernel
theorem dL_law_474 : decode cL_law 474 = .ok (.aload_n 3, 1) := by decide +kernel
theorem dL_law_475 : decode cL_law 475 = .ok (.invokestatic 81, 3) := by decide +kernel
theorem dL_law_478 : decode cL_law 478 = .ok (.istore 5, 2) := by decide +kernel
theorem dL_law_480 : decode cL_law 480 = .ok (.aload_n 2, 1) := by decide +kernel
theorem dL_law_481 : decode cL_law 481 = .ok (.aload_n 0, 1) := by decide +kernel
theorem dL_law_482 : decode cL_law 482 = .ok (.iload 4, 2) := by decide +kernel
theorem dL_law_484 : decode cL_law 484 = .ok (.iconst 1, 1) := by decide +kernel
theorem dL_law_485 : decode cL_law 485 = .ok (.iadd, 1) := by decide +kernel
theorem dL_law_486 : decode cL_law 486 = .ok (.iaload, 1) := by decide +kernel
theorem dL_law_487 : decode cL_law 487 = .ok (.aload_n 0, 1) := by decide +kernel
theorem dL_law_488 : decode cL_law 488 = .ok (.iload 4, 2) := by decide +kernel
theorem dL_law_490 : decode cL_law 490 = .ok (.iconst 2, 1) := by decide +kernel
theorem dL_law_491 : decode cL_law 491 = .ok (.iadd, 1) := by decide +kernel
theorem dL_law_492 : decode cL_law 492 = .ok (.iaload, 1) := by decide +kernel
theorem dL_law_493 : decode cL_law 493 = .ok (.aload_n 0, 1) := by decide +kernel
theorem dL_law_494 : decode cL_law 494 = .ok (.iload 4, 2) := by decide +kernel
theorem dL_law_496 : decode cL_law 496 = .ok (.iconst 3, 1) := by decide +kernel
theorem dL_law_497 : decode cL_law 497 = .ok (.iadd, 1) := by decide +kernel
theorem dL_law_498 : decode cL_law 498 = .ok (.iaload, 1) := by decide +kernel
theorem dL_law_499 : decode cL_law 499 = .ok (.invokevirtual 84, 3) := by decide +kernel
theorem dL_law_502 : decode cL_law 502 = .ok (.istore 6, 2) := by decide +kernel
theorem dL_law_504 : decode cL_law 504 = .ok (.aload_n 2, 1) := by decide +kernel
theorem dL_law_505 : decode cL_law 505 = .ok (.invokevirtual 66, 3) := by decide +kernel
theorem dL_law_508 : decode cL_law 508 = .ok (.iload 5, 2) := by decide +kernel
theorem dL_law_510 : decode cL_law 510 = .ok (.if_icmp .eq 5, 3) := by decide +kernel
theorem dL_law_513 : decode cL_law 513 = .ok (.iconst 0, 1) := by decide +kernel
theorem dL_law_514 : decode cL_law 514 = .ok (.ireturn, 1) := by decide +kernel
theorem dL_law_515 : decode cL_law 515 = .ok (.iload 5, 2) := by decide +kernel
theorem dL_law_517 : decode cL_law 517 = .ok (.ifCond .ne 15, 3) := by decide +kernel
theorem dL_law_520 : decode cL_law 520 = .ok (.aload_n 3, 1) := by decide +kernel
theorem dL_law_521 : decode cL_law 521 = .ok (.iconst 0, 1) := by decide +kernel
theorem dL_law_522 : decode cL_law 522 = .ok (.laload, 1) := by decide +kernel
theorem dL_law_523 : decode cL_law 523 = .ok (.iload 6, 2) := by decide +kernel
theorem dL_law_525 : decode cL_law 525 = .ok (.i2l, 1) := by decide +kernel
theorem dL_law_526 : decode cL_law 526 = .ok (.lcmp, 1) := by decide +kernel
theorem dL_law_527 : decode cL_law 527 = .ok (.ifCond .eq 5, 3) := by decide +kernel
theorem dL_law_530 : decode cL_law 530 = .ok (.iconst 0, 1) := by decide +kernel
theorem dL_law_531 : decode cL_law 531 = .ok (.ireturn, 1) := by decide +kernel
theorem dL_law_532 : decode cL_law 532 = .ok (.goto 528, 3) := by decide +kernel
theorem dL_law_535 : decode cL_law 535 = .ok (.aload_n 1, 1) := by decide +kernel
theorem dL_law_536 : decode cL_law 536 = .ok (.invokevirtual 85, 3) := by decide +kernel
theorem dL_law_539 : decode cL_law 539 = .ok (.aload_n 2, 1) := by decide +kernel
theorem dL_law_540 : decode cL_law 540 = .ok (.invokevirtual 88, 3) := by decide +kernel
theorem dL_law_543 : decode cL_law 543 = .ok (.if_icmp .eq 517, 3) := by decide +kernel
theorem dL_law_546 : decode cL_law 546 = .ok (.iconst 0, 1) := by decide +kernel
theorem dL_law_547 : decode cL_law 547 = .ok (.ireturn, 1) := by decide +kernel
theorem dL_law_548 : decode cL_law 548 = .ok (.aload_n 1, 1) := by decide +kernel
theorem dL_law_549 : decode cL_law 549 = .ok (.invokevirtual 89, 3) := by decide +kernel
theorem dL_law_552 : decode cL_law 552 = .ok (.aload_n 2, 1) := by decide +kernel
theorem dL_law_553 : decode cL_law 553 = .ok (.invokevirtual 92, 3) := by decide +kernel
theorem dL_law_556 : decode cL_law 556 = .ok (.if_icmp .eq 504, 3) := by decide +kernel
theorem dL_law_559 : decode cL_law 559 = .ok (.iconst 0, 1) := by decide +kernel
theorem dL_law_560 : decode cL_law 560 = .ok (.ireturn, 1) := by decide +kernel
theorem dL_law_561 : decode cL_law 561 = .ok (.aload_n 1, 1) := by decide +kernel
theorem dL_law_562 : decode cL_law 562 = .ok (.invokevirtual 93, 3) := by decide +kernel
theorem dL_law_565 : decode cL_law 565 = .ok (.aload_n 2, 1) := by decide +kernel
theorem dL_law_566 : decode cL_law 566 = .ok (.invokevirtual 96, 3) := by decide +kernel
theorem dL_law_569 : decode cL_law 569 = .ok (.if_icmp .eq 491, 3) := by decide +kernel
theorem dL_law_572 : decode cL_law 572 = .ok (.iconst 0, 1) := by decide +kernel
theorem dL_law_573 : decode cL_law 573 = .ok (.ireturn, 1) := by decide +kernel
theorem dL_law_574 : decode cL_law 574 = .ok (.aload_n 1, 1) := by decide +kernel
theorem dL_law_575 : decode cL_law 575 = .ok (.invokevirtual 97, 3) := by decide +kernel
theorem dL_law_578 : decode cL_law 578 = .ok (.aload_n 2, 1) := by decide +kernel
theorem dL_law_579 : decode cL_law 579 = .ok (.invokevirtual 100, 3) := by decide +kernel
theorem dL_law_582 : decode cL_law 582 = .ok (.if_icmp .eq 478, 3) := by decide +kernel
theorem dL_law_585 : decode cL_law 585 = .ok (.iconst 0, 1) := by decide +kernel
theorem dL_law_586 : decode cL_law 586 = .ok (.ireturn, 1) := by decide +kernel
theorem dL_law_587 : decode cL_law 587 = .ok (.aload_n 1, 1) := by decide +kernel
theorem dL_law_588 : decode cL_law 588 = .ok (.aload_n 0, 1) := by decide +kernel
theorem dL_law_589 : decode cL_law 589 = .ok (.iload 4, 2) := by decide +kernel
theorem dL_law_591 : decode cL_law 591 = .ok (.iconst 1, 1) := by decide +kernel
theorem dL_law_592 : decode cL_law 592 = .ok (.iadd, 1) := by decide +kernel
theorem dL_law_593 : decode cL_law 593 = .ok (.iaload, 1) := by decide +kernel
theorem dL_law_594 : decode cL_law 594 = .ok (.aload_n 0, 1) := by decide +kernel
theorem dL_law_595 : decode cL_law 595 = .ok (.iload 4, 2) := by decide +kernel
theorem dL_law_597 : decode cL_law 597 = .ok (.iconst 2, 1) := by decide +kernel
theorem dL_law_598 : decode cL_law 598 = .ok (.iadd, 1) := by decide +kernel
theorem dL_law_599 : decode cL_law 599 = .ok (.iaload, 1) := by decide +kernel
theorem dL_law_600 : decode cL_law 600 = .ok (.aload_n 0, 1) := by decide +kernel
theorem dL_law_601 : decode cL_law 601 = .ok (.iload 4, 2) := by decide +kernel
theorem dL_law_603 : decode cL_law 603 = .ok (.iconst 3, 1) := by decide +kernel
theorem dL_law_604 : decode cL_law 604 = .ok (.iadd, 1) := by decide +kernel
theorem dL_law_605 : decode cL_law 605 = .ok (.iaload, 1) := by decide +kernel
theorem dL_law_606 : decode cL_law 606 = .ok (.aload_n 3, 1) := by decide +kernel
theorem dL_law_607 : decode cL_law 607 = .ok (.invokestatic 101, 3) := by decide +kernel
theorem dL_law_610 : decode cL_law 610 = .ok (.istore 5, 2) := by decide +kernel
theorem dL_law_612 : decode cL_law 612 = .ok (.aload_n 2, 1) := by decide +kernel
theorem dL_law_613 : decode cL_law 613 = .ok (.aload_n 0, 1) := by decide +kernel
theorem dL_law_614 : decode cL_law 614 = .ok (.iload 4, 2) := by decide +kernel
theorem dL_law_616 : decode cL_law 616 = .ok (.iconst 1, 1) := by decide +kernel
theorem dL_law_617 : decode cL_law 617 = .ok (.iadd, 1) := by decide +kernel
theorem dL_law_618 : decode cL_law 618 = .ok (.iaload, 1) := by decide +kernel
theorem dL_law_619 : decode cL_law 619 = .ok (.aload_n 0, 1) := by decide +kernel
theorem dL_law_620 : decode cL_law 620 = .ok (.iload 4, 2) := by decide +kernel
theorem dL_law_622 : decode cL_law 622 = .ok (.iconst 2, 1) := by decide +kernel
theorem dL_law_623 : decode cL_law 623 = .ok (.iadd, 1) := by decide +kernel
theorem dL_law_624 : decode cL_law 624 = .ok (.iaload, 1) := by decide +kernel
theorem dL_law_625 : decode cL_law 625 = .ok (.aload_n 0, 1) := by decide +kernel
theorem dL_law_626 : decode cL_law 626 = .ok (.iload 4, 2) := by decide +kernel
theorem dL_law_628 : decode cL_law 628 = .ok (.iconst 3, 1) := by decide +kernel
theorem dL_law_629 : decode cL_law 629 = .ok (.iadd, 1) := by decide +kernel
theorem dL_law_630 : decode cL_law 630 = .ok (.iaload, 1) := by decide +kernel
theorem dL_law_631 : decode cL_law 631 = .ok (.invokevirtual 103, 3) := by decide +kernel
theorem dL_law_634 : decode cL_law 634 = .ok (.istore 6, 2) := by decide +kernel
theorem dL_law_636 : decode cL_law 636 = .ok (.aload_n 2, 1) := by decide +kernel
theorem dL_law_637 : decode cL_law 637 = .ok (.invokevirtual 66, 3) := by decide +kernel
theorem dL_law_640 : decode cL_law 640 = .ok (.iload 5, 2) := by decide +kernel
theorem dL_law_642 : decode cL_law 642 = .ok (.if_icmp .eq 5, 3) := by decide +kernel
theorem dL_law_645 : decode cL_law 645 = .ok (.iconst 0, 1) := by decide +kernel
theorem dL_law_646 : decode cL_law 646 = .ok (.ireturn, 1) := by decide +kernel
theorem dL_law_647 : decode cL_law 647 = .ok (.iload 5, 2) := by decide +kernel
theorem dL_law_649 : decode cL_law 649 = .ok (.ifCond .ne 15, 3) := by decide +kernel
theorem dL_law_652 : decode cL_law 652 = .ok (.aload_n 3, 1) := by decide +kernel
theorem dL_law_653 : decode cL_law 653 = .ok (.iconst 0, 1) := by decide +kernel
theorem dL_law_654 : decode cL_law 654 = .ok (.laload, 1) := by decide +kernel
theorem dL_law_655 : decode cL_law 655 = .ok (.iload 6, 2) := by decide +kernel
theorem dL_law_657 : decode cL_law 657 = .ok (.i2l, 1) := by decide +kernel
theorem dL_law_658 : decode cL_law 658 = .ok (.lcmp, 1) := by decide +kernel
theorem dL_law_659 : decode cL_law 659 = .ok (.ifCond .eq 5, 3) := by decide +kernel
theorem dL_law_662 : decode cL_law 662 = .ok (.iconst 0, 1) := by decide +kernel
theorem dL_law_663 : decode cL_law 663 = .ok (.ireturn, 1) := by decide +kernel
theorem dL_law_664 : decode cL_law 664 = .ok (.goto 396, 3) := by decide +kernel
theorem dL_law_667 : decode cL_law 667 = .ok (.aload_n 1, 1) := by decide +kernel
theorem dL_law_668 : decode cL_law 668 = .ok (.aload_n 0, 1) := by decide +kernel
theorem dL_law_669 : decode cL_law 669 = .ok (.iload 4, 2) := by decide +kernel
theorem dL_law_671 : decode cL_law 671 = .ok (.iconst 1, 1) := by decide +kernel
theorem dL_law_672 : decode cL_law 672 = .ok (.iadd, 1) := by decide +kernel
theorem dL_law_673 : decode cL_law 673 = .ok (.iaload, 1) := by decide +kernel
theorem dL_law_674 : decode cL_law 674 = .ok (.aload_n 0, 1) := by decide +kernel
theorem dL_law_675 : decode cL_law 675 = .ok (.iload 4, 2) := by decide +kernel
theorem dL_law_677 : decode cL_law 677 = .ok (.iconst 2, 1) := by decide +kernel
theorem dL_law_678 : decode cL_law 678 = .ok (.iadd, 1) := by decide +kernel
theorem dL_law_679 : decode cL_law 679 = .ok (.iaload, 1) := by decide +kernel
theorem dL_law_680 : decode cL_law 680 = .ok (.aload_n 0, 1) := by decide +kernel
theorem dL_law_681 : decode cL_law 681 = .ok (.iload 4, 2) := by decide +kernel
theorem dL_law_683 : decode cL_law 683 = .ok (.iconst 3, 1) := by decide +kernel
theorem dL_law_684 : decode cL_law 684 = .ok (.iadd, 1) := by decide +kernel
theorem dL_law_685 : decode cL_law 685 = .ok (.iaload, 1) := by decide +kernel
theorem dL_law_686 : decode cL_law 686 = .ok (.aload_n 3, 1) := by decide +kernel
theorem dL_law_687 : decode cL_law 687 = .ok (.invokestatic 104, 3) := by decide +kernel
theorem dL_law_690 : decode cL_law 690 = .ok (.istore 5, 2) := by decide +kernel
theorem dL_law_692 : decode cL_law 692 = .ok (.aload_n 2, 1) := by decide +kernel
theorem dL_law_693 : decode cL_law 693 = .ok (.aload_n 0, 1) := by decide +kernel
theorem dL_law_694 : decode cL_law 694 = .ok (.iload 4, 2) := by decide +kernel
theorem dL_law_696 : decode cL_law 696 = .ok (.iconst 1, 1) := by decide +kernel
theorem dL_law_697 : decode cL_law 697 = .ok (.iadd, 1) := by decide +kernel
theorem dL_law_698 : decode cL_law 698 = .ok (.iaload, 1) := by decide +kernel
theorem dL_law_699 : decode cL_law 699 = .ok (.aload_n 0, 1) := by decide +kernel
theorem dL_law_700 : decode cL_law 700 = .ok (.iload 4, 2) := by decide +kernel
theorem dL_law_702 : decode cL_law 702 = .ok (.iconst 2, 1) := by decide +kernel
theorem dL_law_703 : decode cL_law 703 = .ok (.iadd, 1) := by decide +kernel
theorem dL_law_704 : decode cL_law 704 = .ok (.iaload, 1) := by decide +kernel
theorem dL_law_705 : decode cL_law 705 = .ok (.aload_n 0, 1) := by decide +kernel
theorem dL_law_706 : decode cL_law 706 = .ok (.iload 4, 2) := by decide +kernel
theorem dL_law_708 : decode cL_law 708 = .ok (.iconst 3, 1) := by decide +kernel
theorem dL_law_709 : decode cL_law 709 = .ok (.iadd, 1) := by decide +kernel
theorem dL_law_710 : decode cL_law 710 = .ok (.iaload, 1) := by decide +kernel
theorem dL_law_711 : decode cL_law 711 = .ok (.invokevirtual 106, 3) := by decide +kernel
theorem dL_law_714 : decode cL_law 714 = .ok (.istore 6, 2) := by decide +kernel
theorem dL_law_716 : decode cL_law 716 = .ok (.aload_n 2, 1) := by decide +kernel
theorem dL_law_717 : decode cL_law 717 = .ok (.invokevirtual 66, 3) := by decide +kernel
theorem dL_law_720 : decode cL_law 720 = .ok (.iload 5, 2) := by decide +kernel
theorem dL_law_722 : decode cL_law 722 = .ok (.if_icmp .eq 5, 3) := by decide +kernel
theorem dL_law_725 : decode cL_law 725 = .ok (.iconst 0, 1) := by decide +kernel
theorem dL_law_726 : decode cL_law 726 = .ok (.ireturn, 1) := by decide +kernel
theorem dL_law_727 : decode cL_law 727 = .ok (.iload 5, 2) := by decide +kernel
theorem dL_law_729 : decode cL_law 729 = .ok (.ifCond .ne 15, 3) := by decide +kernel
theorem dL_law_732 : decode cL_law 732 = .ok (.aload_n 3, 1) := by decide +kernel
theorem dL_law_733 : decode cL_law 733 = .ok (.iconst 0, 1) := by decide +kernel
theorem dL_law_734 : decode cL_law 734 = .ok (.laload, 1) := by decide +kernel
theorem dL_law_735 : decode cL_law 735 = .ok (.iload 6, 2) := by decide +kernel
theorem dL_law_737 : decode cL_law 737 = .ok (.i2l, 1) := by decide +kernel
theorem dL_law_738 : decode cL_law 738 = .ok (.lcmp, 1) := by decide +kernel
theorem dL_law_739 : decode cL_law 739 = .ok (.ifCond .eq 5, 3) := by decide +kernel
theorem dL_law_742 : decode cL_law 742 = .ok (.iconst 0, 1) := by decide +kernel
theorem dL_law_743 : decode cL_law 743 = .ok (.ireturn, 1) := by decide +kernel
theorem dL_law_744 : decode cL_law 744 = .ok (.goto 316, 3) := by decide +kernel
theorem dL_law_747 : decode cL_law 747 = .ok (.aload_n 1, 1) := by decide +kernel
theorem dL_law_748 : decode cL_law 748 = .ok (.aload_n 0, 1) := by decide +kernel
theorem dL_law_749 : decode cL_law 749 = .ok (.iload 4, 2) := by decide +kernel
theorem dL_law_751 : decode cL_law 751 = .ok (.iconst 1, 1) := by decide +kernel
theorem dL_law_752 : decode cL_law 752 = .ok (.iadd, 1) := by decide +kernel
theorem dL_law_753 : decode cL_law 753 = .ok (.iaload, 1) := by decide +kernel
theorem dL_law_754 : decode cL_law 754 = .ok (.aload_n 3, 1) := by decide +kernel
theorem dL_law_755 : decode cL_law 755 = .ok (.invokestatic 107, 3) := by decide +kernel
theorem dL_law_758 : decode cL_law 758 = .ok (.istore 5, 2) := by decide +kernel
theorem dL_law_760 : decode cL_law 760 = .ok (.aload_n 2, 1) := by decide +kernel
theorem dL_law_761 : decode cL_law 761 = .ok (.aload_n 0, 1) := by decide +kernel
theorem dL_law_762 : decode cL_law 762 = .ok (.iload 4, 2) := by decide +kernel
theorem dL_law_764 : decode cL_law 764 = .ok (.iconst 1, 1) := by decide +kernel
theorem dL_law_765 : decode cL_law 765 = .ok (.iadd, 1) := by decide +kernel
theorem dL_law_766 : decode cL_law 766 = .ok (.iaload, 1) := by decide +kernel
theorem dL_law_767 : decode cL_law 767 = .ok (.invokevirtual 109, 3) := by decide +kernel
theorem dL_law_770 : decode cL_law 770 = .ok (.istore 6, 2) := by decide +kernel
theorem dL_law_772 : decode cL_law 772 = .ok (.aload_n 2, 1) := by decide +kernel
theorem dL_law_773 : decode cL_law 773 = .ok (.invokevirtual 66, 3) := by decide +kernel
theorem dL_law_776 : decode cL_law 776 = .ok (.iload 5, 2) := by decide +kernel
theorem dL_law_778 : decode cL_law 778 = .ok (.if_icmp .eq 5, 3) := by decide +kernel
theorem dL_law_781 : decode cL_law 781 = .ok (.iconst 0, 1) := by decide +kernel
theorem dL_law_782 : decode cL_law 782 = .ok (.ireturn, 1) := by decide +kernel
theorem dL_law_783 : decode cL_law 783 = .ok (.iload 5, 2) := by decide +kernel
theorem dL_law_785 : decode cL_law 785 = .ok (.ifCond .ne 15, 3) := by decide +kernel
theorem dL_law_788 : decode cL_law 788 = .ok (.aload_n 3, 1) := by decide +kernel
theorem dL_law_789 : decode cL_law 789 = .ok (.iconst 0, 1) := by decide +kernel
theorem dL_law_790 : decode cL_law 790 = .ok (.laload, 1) := by decide +kernel
theorem dL_law_791 : decode cL_law 791 = .ok (.iload 6, 2) := by decide +kernel
theorem dL_law_793 : decode cL_law 793 = .ok (.i2l, 1) := by decide +kernel
theorem dL_law_794 : decode cL_law 794 = .ok (.lcmp, 1) := by decide +kernel
theorem dL_law_795 : decode cL_law 795 = .ok (.ifCond .eq 5, 3) := by decide +kernel
theorem dL_law_798 : decode cL_law 798 = .ok (.iconst 0, 1) := by decide +kernel
theorem dL_law_799 : decode cL_law 799 = .ok (.ireturn, 1) := by decide +kernel
theorem dL_law_800 : decode cL_law 800 = .ok (.goto 260, 3) := by decide +kernel
theorem dL_law_803 : decode cL_law 803 = .ok (.aload_n 1, 1) := by decide +kernel
theorem dL_law_804 : decode cL_law 804 = .ok (.aload_n 0, 1) := by decide +kernel
theorem dL_law_805 : decode cL_law 805 = .ok (.iload 4, 2) := by decide +kernel
theorem dL_law_807 : decode cL_law 807 = .ok (.iconst 1, 1) := by decide +kernel
theorem dL_law_808 : decode cL_law 808 = .ok (.iadd, 1) := by decide +kernel
theorem dL_law_809 : decode cL_law 809 = .ok (.iaload, 1) := by decide +kernel
theorem dL_law_810 : decode cL_law 810 = .ok (.aload_n 3, 1) := by decide +kernel
theorem dL_law_811 : decode cL_law 811 = .ok (.invokestatic 110, 3) := by decide +kernel
theorem dL_law_814 : decode cL_law 814 = .ok (.istore 5, 2) := by decide +kernel
theorem dL_law_816 : decode cL_law 816 = .ok (.aload_n 2, 1) := by decide +kernel
theorem dL_law_817 : decode cL_law 817 = .ok (.aload_n 0, 1) := by decide +kernel
theorem dL_law_818 : decode cL_law 818 = .ok (.iload 4, 2) := by decide +kernel
theorem dL_law_820 : decode cL_law 820 = .ok (.iconst 1, 1) := by decide +kernel
theorem dL_law_821 : decode cL_law 821 = .ok (.iadd, 1) := by decide +kernel
theorem dL_law_822 : decode cL_law 822 = .ok (.iaload, 1) := by decide +kernel
theorem dL_law_823 : decode cL_law 823 = .ok (.invokevirtual 112, 3) := by decide +kernel
theorem dL_law_826 : decode cL_law 826 = .ok (.istore 6, 2) := by decide +kernel
theorem dL_law_828 : decode cL_law 828 = .ok (.aload_n 2, 1) := by decide +kernel
theorem dL_law_829 : decode cL_law 829 = .ok (.invokevirtual 66, 3) := by decide +kernel
theorem dL_law_832 : decode cL_law 832 = .ok (.iload 5, 2) := by decide +kernel
theorem dL_law_834 : decode cL_law 834 = .ok (.if_icmp .eq 5, 3) := by decide +kernel
theorem dL_law_837 : decode cL_law 837 = .ok (.iconst 0, 1) := by decide +kernel
theorem dL_law_838 : decode cL_law 838 = .ok (.ireturn, 1) := by decide +kernel
theorem dL_law_839 : decode cL_law 839 = .ok (.iload 5, 2) := by decide +kernel
theorem dL_law_841 : decode cL_law 841 = .ok (.ifCond .ne 15, 3) := by decide +kernel
theorem dL_law_844 : decode cL_law 844 = .ok (.aload_n 3, 1) := by decide +kernel
theorem dL_law_845 : decode cL_law 845 = .ok (.iconst 0, 1) := by decide +kernel
theorem dL_law_846 : decode cL_law 846 = .ok (.laload, 1) := by decide +kernel
theorem dL_law_847 : decode cL_law 847 = .ok (.iload 6, 2) := by decide +kernel
theorem dL_law_849 : decode cL_law 849 = .ok (.i2l, 1) := by decide +kernel
theorem dL_law_850 : decode cL_law 850 = .ok (.lcmp, 1) := by decide +kernel
theorem dL_law_851 : decode cL_law 851 = .ok (.ifCond .eq 5, 3) := by decide +kernel
theorem dL_law_854 : decode cL_law 854 = .ok (.iconst 0, 1) := by decide +kernel
theorem dL_law_855 : decode cL_law 855 = .ok (.ireturn, 1) := by decide +kernel
theorem dL_law_856 : decode cL_law 856 = .ok (.goto 204, 3) := by decide +kernel
theorem dL_law_859 : decode cL_law 859 = .ok (.aload_n 1, 1) := by decide +kernel
theorem dL_law_860 : decode cL_law 860 = .ok (.aload_n 0, 1) := by decide +kernel
theorem dL_law_861 : decode cL_law 861 = .ok (.iload 4, 2) := by decide +kernel
theorem dL_law_863 : decode cL_law 863 = .ok (.iconst 1, 1) := by decide +kernel
theorem dL_law_864 : decode cL_law 864 = .ok (.iadd, 1) := by decide +kernel
theorem dL_law_865 : decode cL_law 865 = .ok (.iaload, 1) := by decide +kernel
theorem dL_law_866 : decode cL_law 866 = .ok (.aload_n 3, 1) := by decide +kernel
theorem dL_law_867 : decode cL_law 867 = .ok (.invokestatic 113, 3) := by decide +kernel
theorem dL_law_870 : decode cL_law 870 = .ok (.istore 5, 2) := by decide +kernel
theorem dL_law_872 : decode cL_law 872 = .ok (.aload_n 2, 1) := by decide +kernel
theorem dL_law_873 : decode cL_law 873 = .ok (.aload_n 0, 1) := by decide +kernel
theorem dL_law_874 : decode cL_law 874 = .ok (.iload 4, 2) := by decide +kernel
theorem dL_law_876 : decode cL_law 876 = .ok (.iconst 1, 1) := by decide +kernel
theorem dL_law_877 : decode cL_law 877 = .ok (.iadd, 1) := by decide +kernel
theorem dL_law_878 : decode cL_law 878 = .ok (.iaload, 1) := by decide +kernel
theorem dL_law_879 : decode cL_law 879 = .ok (.invokevirtual 115, 3) := by decide +kernel
theorem dL_law_882 : decode cL_law 882 = .ok (.istore 6, 2) := by decide +kernel
theorem dL_law_884 : decode cL_law 884 = .ok (.aload_n 2, 1) := by decide +kernel
theorem dL_law_885 : decode cL_law 885 = .ok (.invokevirtual 66, 3) := by decide +kernel
theorem dL_law_888 : decode cL_law 888 = .ok (.iload 5, 2) := by decide +kernel
theorem dL_law_890 : decode cL_law 890 = .ok (.if_icmp .eq 5, 3) := by decide +kernel
theorem dL_law_893 : decode cL_law 893 = .ok (.iconst 0, 1) := by decide +kernel
theorem dL_law_894 : decode cL_law 894 = .ok (.ireturn, 1) := by decide +kernel
theorem dL_law_895 : decode cL_law 895 = .ok (.iload 5, 2) := by decide +kernel
theorem dL_law_897 : decode cL_law 897 = .ok (.ifCond .ne 15, 3) := by decide +kernel
theorem dL_law_900 : decode cL_law 900 = .ok (.aload_n 3, 1) := by decide +kernel
theorem dL_law_901 : decode cL_law 901 = .ok (.iconst 0, 1) := by decide +kernel
theorem dL_law_902 : decode cL_law 902 = .ok (.laload, 1) := by decide +kernel
theorem dL_law_903 : decode cL_law 903 = .ok (.iload 6, 2) := by decide +kernel
theorem dL_law_905 : decode cL_law 905 = .ok (.i2l, 1) := by decide +kernel
theorem dL_law_906 : decode cL_law 906 = .ok (.lcmp, 1) := by decide +kernel
theorem dL_law_907 : decode cL_law 907 = .ok (.ifCond .eq 5, 3) := by decide +kernel
theorem dL_law_910 : decode cL_law 910 = .ok (.iconst 0, 1) := by decide +kernel
theorem dL_law_911 : decode cL_law 911 = .ok (.ireturn, 1) := by decide +kernel
theorem dL_law_912 : decode cL_law 912 = .ok (.goto 148, 3) := by decide +kernel
theorem dL_law_915 : decode cL_law 915 = .ok (.aload_n 1, 1) := by decide +kernel
theorem dL_law_916 : decode cL_law 916 = .ok (.aload_n 0, 1) := by decide +kernel
theorem dL_law_917 : decode cL_law 917 = .ok (.iload 4, 2) := by decide +kernel
theorem dL_law_919 : decode cL_law 919 = .ok (.iconst 1, 1) := by decide +kernel
theorem dL_law_920 : decode cL_law 920 = .ok (.iadd, 1) := by decide +kernel
theorem dL_law_921 : decode cL_law 921 = .ok (.iaload, 1) := by decide +kernel
theorem dL_law_922 : decode cL_law 922 = .ok (.aload_n 3, 1) := by decide +kernel
theorem dL_law_923 : decode cL_law 923 = .ok (.invokestatic 116, 3) := by decide +kernel
theorem dL_law_926 : decode cL_law 926 = .ok (.istore 5, 2) := by decide +kernel
theorem dL_law_928 : decode cL_law 928 = .ok (.aload_n 2, 1) := by decide +kernel
theorem dL_law_929 : decode cL_law 929 = .ok (.aload_n 0, 1) := by decide +kernel
theorem dL_law_930 : decode cL_law 930 = .ok (.iload 4, 2) := by decide +kernel
theorem dL_law_932 : decode cL_law 932 = .ok (.iconst 1, 1) := by decide +kernel
theorem dL_law_933 : decode cL_law 933 = .ok (.iadd, 1) := by decide +kernel
theorem dL_law_934 : decode cL_law 934 = .ok (.iaload, 1) := by decide +kernel
theorem dL_law_935 : decode cL_law 935 = .ok (.invokevirtual 118, 3) := by decide +kernel
theorem dL_law_938 : decode cL_law 938 = .ok (.istore 6, 2) := by decide +kernel
theorem dL_law_940 : decode cL_law 940 = .ok (.aload_n 2, 1) := by decide +kernel
theorem dL_law_941 : decode cL_law 941 = .ok (.invokevirtual 66, 3) := by decide +kernel
theorem dL_law_944 : decode cL_law 944 = .ok (.iload 5, 2) := by decide +kernel
theorem dL_law_946 : decode cL_law 946 = .ok (.if_icmp .eq 5, 3) := by decide +kernel
theorem dL_law_949 : decode cL_law 949 = .ok (.iconst 0, 1) := by decide +kernel
theorem dL_law_950 : decode cL_law 950 = .ok (.ireturn, 1) := by decide +kernel
theorem dL_law_951 : decode cL_law 951 = .ok (.iload 5, 2) := by decide +kernel
theorem dL_law_953 : decode cL_law 953 = .ok (.ifCond .ne 22, 3) := by decide +kernel
theorem dL_law_956 : decode cL_law 956 = .ok (.aload_n 3, 1) := by decide +kernel
theorem dL_law_957 : decode cL_law 957 = .ok (.iconst 0, 1) := by decide +kernel
theorem dL_law_958 : decode cL_law 958 = .ok (.laload, 1) := by decide +kernel
theorem dL_law_959 : decode cL_law 959 = .ok (.iload 6, 2) := by decide +kernel
theorem dL_law_961 : decode cL_law 961 = .ok (.ifCond .eq 7, 3) := by decide +kernel
theorem dL_law_964 : decode cL_law 964 = .ok (.lconst 1, 1) := by decide +kernel
theorem dL_law_965 : decode cL_law 965 = .ok (.goto 4, 3) := by decide +kernel
theorem dL_law_968 : decode cL_law 968 = .ok (.lconst 0, 1) := by decide +kernel
theorem dL_law_969 : decode cL_law 969 = .ok (.lcmp, 1) := by decide +kernel
theorem dL_law_970 : decode cL_law 970 = .ok (.ifCond .eq 5, 3) := by decide +kernel
theorem dL_law_973 : decode cL_law 973 = .ok (.iconst 0, 1) := by decide +kernel
theorem dL_law_974 : decode cL_law 974 = .ok (.ireturn, 1) := by decide +kernel
theorem dL_law_975 : decode cL_law 975 = .ok (.goto 85, 3) := by decide +kernel
theorem dL_law_978 : decode cL_law 978 = .ok (.aload_n 1, 1) := by decide +kernel
theorem dL_law_979 : decode cL_law 979 = .ok (.aload_n 0, 1) := by decide +kernel
theorem dL_law_980 : decode cL_law 980 = .ok (.iload 4, 2) := by decide +kernel
theorem dL_law_982 : decode cL_law 982 = .ok (.iconst 1, 1) := by decide +kernel
theorem dL_law_983 : decode cL_law 983 = .ok (.iadd, 1) := by decide +kernel
theorem dL_law_984 : decode cL_law 984 = .ok (.iaload, 1) := by decide +kernel
theorem dL_law_985 : decode cL_law 985 = .ok (.aload_n 3, 1) := by decide +kernel
theorem dL_law_986 : decode cL_law 986 = .ok (.invokestatic 119, 3) := by decide +kernel
theorem dL_law_989 : decode cL_law 989 = .ok (.istore 5, 2) := by decide +kernel
theorem dL_law_991 : decode cL_law 991 = .ok (.aload_n 2, 1) := by decide +kernel
theorem dL_law_992 : decode cL_law 992 = .ok (.aload_n 0, 1) := by decide +kernel
theorem dL_law_993 : decode cL_law 993 = .ok (.iload 4, 2) := by decide +kernel
theorem dL_law_995 : decode cL_law 995 = .ok (.iconst 1, 1) := by decide +kernel
theorem dL_law_996 : decode cL_law 996 = .ok (.iadd, 1) := by decide +kernel
theorem dL_law_997 : decode cL_law 997 = .ok (.iaload, 1) := by decide +kernel
theorem dL_law_998 : decode cL_law 998 = .ok (.invokevirtual 121, 3) := by decide +kernel
theorem dL_law_1001 : decode cL_law 1001 = .ok (.istore 6, 2) := by decide +kernel
theorem dL_law_1003 : decode cL_law 1003 = .ok (.aload_n 2, 1) := by decide +kernel
theorem dL_law_1004 : decode cL_law 1004 = .ok (.invokevirtual 66, 3) := by decide +kernel
theorem dL_law_1007 : decode cL_law 1007 = .ok (.iload 5, 2) := by decide +kernel
theorem dL_law_1009 : decode cL_law 1009 = .ok (.if_icmp .eq 5, 3) := by decide +kernel
theorem dL_law_1012 : decode cL_law 1012 = .ok (.iconst 0, 1) := by decide +kernel
theorem dL_law_1013 : decode cL_law 1013 = .ok (.ireturn, 1) := by decide +kernel
theorem dL_law_1014 : decode cL_law 1014 = .ok (.iload 5, 2) := by decide +kernel
theorem dL_law_1016 : decode cL_law 1016 = .ok (.ifCond .ne 15, 3) := by decide +kernel
theorem dL_law_1019 : decode cL_law 1019 = .ok (.aload_n 3, 1) := by decide +kernel
theorem dL_law_1020 : decode cL_law 1020 = .ok (.iconst 0, 1) := by decide +kernel
theorem dL_law_1021 : decode cL_law 1021 = .ok (.laload, 1) := by decide +kernel
theorem dL_law_1022 : decode cL_law 1022 = .ok (.iload 6, 2) := by decide +kernel
theorem dL_law_1024 : decode cL_law 1024 = .ok (.i2l, 1) := by decide +kernel
theorem dL_law_1025 : decode cL_law 1025 = .ok (.lcmp, 1) := by decide +kernel
theorem dL_law_1026 : decode cL_law 1026 = .ok (.ifCond .eq 5, 3) := by decide +kernel
theorem dL_law_1029 : decode cL_law 1029 = .ok (.iconst 0, 1) := by decide +kernel
theorem dL_law_1030 : decode cL_law 1030 = .ok (.ireturn, 1) := by decide +kernel
theorem dL_law_1031 : decode cL_law 1031 = .ok (.goto 29, 3) := by decide +kernel
theorem dL_law_1034 : decode cL_law 1034 = .ok (.aload_n 1, 1) := by decide +kernel
theorem dL_law_1035 : decode cL_law 1035 = .ok (.invokevirtual 122, 3) := by decide +kernel
theorem dL_law_1038 : decode cL_law 1038 = .ok (.aload_n 2, 1) := by decide +kernel
theorem dL_law_1039 : decode cL_law 1039 = .ok (.invokevirtual 125, 3) := by decide +kernel
theorem dL_law_1042 : decode cL_law 1042 = .ok (.if_icmp .eq 18, 3) := by decide +kernel
theorem dL_law_1045 : decode cL_law 1045 = .ok (.iconst 0, 1) := by decide +kernel
theorem dL_law_1046 : decode cL_law 1046 = .ok (.ireturn, 1) := by decide +kernel
theorem dL_law_1047 : decode cL_law 1047 = .ok (.aload_n 1, 1) := by decide +kernel
theorem dL_law_1048 : decode cL_law 1048 = .ok (.invokevirtual 126, 3) := by decide +kernel
theorem dL_law_1051 : decode cL_law 1051 = .ok (.aload_n 2, 1) := by decide +kernel
theorem dL_law_1052 : decode cL_law 1052 = .ok (.invokevirtual 130, 3) := by decide +kernel
theorem dL_law_1055 : decode cL_law 1055 = .ok (.if_icmp .eq 5, 3) := by decide +kernel
theorem dL_law_1058 : decode cL_law 1058 = .ok (.iconst 0, 1) := by decide +kernel
theorem dL_law_1059 : decode cL_law 1059 = .ok (.ireturn, 1) := by decide +kernel
theorem dL_law_1060 : decode cL_law 1060 = .ok (.iinc 4 5, 3) := by decide +kernel
theorem dL_law_1063 : decode cL_law 1063 = .ok (.goto (-1040), 3) := by decide +kernel
theorem dL_law_1066 : decode cL_law 1066 = .ok (.iconst 1, 1) := by decide +kernel
theorem dL_law_1067 : decode cL_law 1067 = .ok (.ireturn, 1) := by decide +kernel
end
section
/-! THE PART 02: a state instead of a heap. CS: rows of numbers; wld tells the cells that hold a CS (wld). x_W: 'from any heap that holds the state'. -/
abbrev CS : Type := Nat → Nat → Int32
def cset (σ : CS) (k i : Nat) (v : Int32) : CS := fun k' => if k' = k then upd (σ k) i v else σ k'
abbrev x_rem (x y : Int32) : Int32 := x - x / y * y
abbrev x_max (x y : Int32) : Int32 := if x < y then y else x
abbrev x_min (x y : Int32) : Int32 := if y < x then y else x
abbrev x_at (σ : CS) (k : Nat) (i : Int32) : Int32 := σ k i.toNatClampNeg
abbrev x_st (σ : CS) (k : Nat) (i : Int32) (v : Int32) : CS := cset σ k i.toNatClampNeg v
def x_og {α : Type} (b : Bool) (k : Option α) : Option α := if b = true then k else none
def x_oi {α : Type} (x : Int32) (k : Int32 → Option α) : Option α := k x
def x_os {α : Type} (x : CS) (k : CS → Option α) : Option α := k x
def x_ob {α : Type} (x : Option (Int32 × CS)) (k : Int32 → CS → Option α) : Option α := match x with
  | none => none
  | some q => k q.1 q.2
def x_in (i : Int32) (n : Nat) : Bool := decide (0 ≤ i.toInt ∧ i.toInt < (n : Int))
def x_nz (i : Int32) : Bool := decide (¬ i = 0)
def x_bo (i : Int32) : Bool := decide (i = 0 ∨ i = 1)
theorem x_og_of {α : Type} {b : Bool} {k : Option α} {r : α} (h : x_og b k = some r) : b = true ∧ k = some r := by
  unfold x_og at h
  by_cases hb : b = true
  · rw [if_pos hb] at h
    exact ⟨hb, h⟩
  · rw [if_neg hb] at h
    cases h
theorem x_oi_of {α : Type} {x y : Int32} {k : Int32 → Option α} {r : α} (e : y = x) (h : x_oi x k = some r) : k y = some r := by
  subst e
  exact h
theorem x_os_of {α : Type} {x y : CS} {k : CS → Option α} {r : α} (e : y = x) (h : x_os x k = some r) : k y = some r := by
  subst e
  exact h
theorem x_ob_of {α : Type} {x : Option (Int32 × CS)} {k : Int32 → CS → Option α} {r : α} (h : x_ob x k = some r) : ∃ (v : Int32) (s : CS), x = some (v, s) ∧ k v s = some r := by
  cases x with
  | none => cases h
  | some q => exact ⟨q.1, q.2, rfl, h⟩
theorem x_in_of {i : Int32} {n : Nat} (h : x_in i n = true) : vp_in i n := vp_in_iff.mpr (of_decide_eq_true h)
theorem x_nz_of {i : Int32} (h : x_nz i = true) : ¬ i = 0 := of_decide_eq_true h
theorem x_bo_of {i : Int32} (h : x_bo i = true) : narrow .boolean (.int i) = .int i := by
  rcases of_decide_eq_true h with q | q <;> subst q <;> rfl

def x_nest : List Cond := [.fieldLinkNest RX7 278 "Creditfabric$Packets" "sources" "LCreditfabric$Row;" "Creditfabric", .fieldLinkNest RX1 99 "Creditfabric$Packets" "goals" "LCreditfabric$Row;" "Creditfabric", .fieldLinkNest RX1 69 "Creditfabric$Packets" "lanes" "LCreditfabric$Row;" "Creditfabric", .fieldLinkNest RX7 255 "Creditfabric$Packets" "lanes" "LCreditfabric$Row;" "Creditfabric", .fieldLinkNest RX1 102 "Creditfabric$Packets" "modes" "LCreditfabric$Row;" "Creditfabric", .fieldLinkNest RX1 58 "Creditfabric$Packets" "places" "LCreditfabric$Row;" "Creditfabric", .fieldLinkNest RX7 187 "Creditfabric$Packets" "places" "LCreditfabric$Row;" "Creditfabric", .fieldLinkNest RX1 93 "Creditfabric$Packets" "inputs" "LCreditfabric$Row;" "Creditfabric", .fieldLinkNest RX7 266 "Creditfabric$Packets" "inputs" "LCreditfabric$Row;" "Creditfabric", .fieldLinkNest RX7 190 "Creditfabric$Packets" "hopsGone" "LCreditfabric$Row;" "Creditfabric", .fieldLinkNest RX7 193 "Creditfabric$Packets" "marks" "LCreditfabric$Row;" "Creditfabric", .fieldLinkNest RX7 125 "Creditfabric$Packets" "count" "I" "Creditfabric", .fieldLinkNest RX1 82 "Creditfabric$Packets" "count" "I" "Creditfabric", .fieldLinkNest RX7 143 "Creditfabric$Packets" "gone" "I" "Creditfabric", .methodLinkNest RX7 11 yX3_init "Creditfabric", .methodLinkNest RX7 27 yX0_init "Creditfabric", .methodLinkNest RX7 34 yX2_init "Creditfabric", .methodLinkNest RX7 41 yX6_init "Creditfabric", .methodLinkNest RX1 96 yX7_bufferOf "Creditfabric"]
def x_K (D : va_G) (tys : List (ClassId × FieldType)) (U : State) : Prop := va_K D vwCl tys U ∧ ∀ w ∈ x_nest, va_Nw w U
theorem x_K.warm {D : va_G} {tys : List (ClassId × FieldType)} {s U : State} (hW : s.WarmedH U.vm) (h : x_K D tys s) : x_K D tys U := by
  refine ⟨va_K.moved hW.alike h.1, fun w hw => ?_⟩
  have h2 := h.2 w hw
  simp only [x_nest, List.mem_cons, List.not_mem_nil, or_false] at hw
  rcases hw with rfl | rfl | rfl | rfl | rfl | rfl | rfl | rfl | rfl | rfl | rfl | rfl | rfl | rfl | rfl | rfl | rfl | rfl | rfl <;> first | exact va_Nw.warmF hW h2 | exact va_Nw.warmM hW h2
theorem x_K.same {D : va_G} {tys : List (ClassId × FieldType)} {s U : State} (hv : s.vm = U.vm) (h : x_K D tys s) : x_K D tys U := by
  refine ⟨va_K.moved (by rw [hv]; exact Vm.Alike.refl U.vm) h.1, fun w hw => ?_⟩
  have h2 := h.2 w hw
  simp only [x_nest, List.mem_cons, List.not_mem_nil, or_false] at hw
  rcases hw with rfl | rfl | rfl | rfl | rfl | rfl | rfl | rfl | rfl | rfl | rfl | rfl | rfl | rfl | rfl | rfl | rfl | rfl | rfl <;> exact va_Nw.same rfl hv h2
/-- what a walk has at hand: the machine, the code, the words, the classes -/
def x_X (p : Program) (s : State) (m : MethodId) (args : Array Value) (meth : Method) (c : Code) (cc : ByteArray) (nL : Nat) (ret : Option FieldType) (own : String) (Ts : List Cond) (D : va_G) (tys : List (ClassId × FieldType)) (A : Nat → Prop) : Prop :=
  p.tables.exec = Jvm.exec ∧ c.code = cc ∧ c.maxLocals = nL ∧ s.vm.findClass own = some m.cls ∧ (∀ w ∈ Ts, w.before args s = true) ∧ x_K D tys s ∧ (∀ q : Nat, s.heap.size ≤ q → A q) ∧ meth.sig.returnType = ret ∧ meth.locks = false
def x_W (p : Program) (l : Launch) (e : Env) (R : Room) (s : State) (m : MethodId) (args : Array Value) (below : List Frame) (meth : Method) (c : Code) (A : Nat → Prop) (D : va_G) (wld : CS → va_W) (k n : Nat) (Q : State → Prop) (σ : CS) (g : JFrame) : Prop :=
  ∀ (H : Heap) (locs : List Loc), va_P D vwCl (wld σ) H → va_D A (wld σ) → va_S A s.heap H locs → W p l e R s m args below meth c H locs k n Q g
/-- a method's end in the words of the state -/
def x_Ri (below : List Frame) (args : Array Value) (s : State) (A : Nat → Prop) (D : va_G) (wld : CS → va_W) (r : Int32) (σ' : CS) : State → Prop := MQ below (va_Qi (fun (r1 : Int32) (_ : Unit) => r1 = r) (fun _ t => va_P D vwCl (wld σ') t.heap ∧ va_D A (wld σ')) A) args s 0 0 A
def x_Rv (below : List Frame) (args : Array Value) (s : State) (A : Nat → Prop) (D : va_G) (wld : CS → va_W) (σ' : CS) : State → Prop := MQ below (va_Qv (fun (_ : Unit) => True) (fun _ t => va_P D vwCl (wld σ') t.heap ∧ va_D A (wld σ')) A) args s 0 0 A
/-- a contract: from the state σ with these arguments the method returns r in the state σ' -/
def x_B (D : va_G) (tys : List (ClassId × FieldType)) (wld : CS → va_W) (σ : CS) (sz : Nat) (U : State) : Prop := U.heap.size = sz ∧ va_P D vwCl (wld σ) U.heap ∧ x_K D tys U ∧ va_D (fun _ => True) (wld σ)
def x_Mi (l : Launch) (y : MethodName) (ws : List Cond) (rm : Room) (D : va_G) (tys : List (ClassId × FieldType)) (wld : CS → va_W) (av : List Value) (σ : CS) (r : Int32) (σ' : CS) : Prop :=
  ∀ sz : Nat, Met l y ws rm (va_Pc av (x_B D tys wld σ sz)) (va_Qi (fun (r1 : Int32) (_ : Unit) => r1 = r) (fun _ t => va_P D vwCl (wld σ') t.heap ∧ va_D (va_A (wld σ) sz) (wld σ')) (va_A (wld σ) sz)) 0 0 (va_A (wld σ) sz)
def x_Mv (l : Launch) (y : MethodName) (ws : List Cond) (rm : Room) (D : va_G) (tys : List (ClassId × FieldType)) (wld : CS → va_W) (av : List Value) (σ : CS) (σ' : CS) : Prop :=
  ∀ sz : Nat, Met l y ws rm (va_Pc av (x_B D tys wld σ sz)) (va_Qv (fun (_ : Unit) => True) (fun _ t => va_P D vwCl (wld σ') t.heap ∧ va_D (va_A (wld σ) sz) (wld σ')) (va_A (wld σ) sz)) 0 0 (va_A (wld σ) sz)
section XWR
variable {p : Program} {l : Launch} {e : Env} {R : Room} {s : State} {m : MethodId} {args : Array Value} {below : List Frame} {meth : Method} {c : Code} {k n : Nat} {Q : State → Prop} {cc : ByteArray} {nL : Nat} {ret : Option FieldType} {own : String} {Ts : List Cond} {D : va_G} {tys : List (ClassId × FieldType)} {A : Nat → Prop} {wld : CS → va_W} {σ σ' : CS} {pc : Nat} {ls : Array Slot} {rest : List Value} {lv lv' : List (Nat × Value)}

theorem x_iload (X : x_X p s m args meth c cc nL ret own Ts D tys A) {i : Nat} {x : Int32} (hdg : decode cc pc = .ok (.iload i, 2)) (hl : lv_has ls nL lv) (j : Nat) (hj : lv[j]? = some (i, .int x)) (kk : x_W p l e R s m args below meth c A D wld k n Q σ (F0 m (pc + 2) ls (.int x :: rest))) : x_W p l e R s m args below meth c A D wld k n Q σ (F0 m pc ls rest) := fun H locs hP hD hS => lv_iload X.1 X.2.1 hdg (lv_at hl j hj) (kk H locs hP hD hS)
theorem x_iload_n (X : x_X p s m args meth c cc nL ret own Ts D tys A) {f : Fin 4} {i : Nat} {x : Int32} (hdg : decode cc pc = .ok (.iload_n f, 1)) (hi : (f : Nat) = i) (hl : lv_has ls nL lv) (j : Nat) (hj : lv[j]? = some (i, .int x)) (kk : x_W p l e R s m args below meth c A D wld k n Q σ (F0 m (pc + 1) ls (.int x :: rest))) : x_W p l e R s m args below meth c A D wld k n Q σ (F0 m pc ls rest) := fun H locs hP hD hS => lv_iload_n X.1 X.2.1 hdg hi (lv_at hl j hj) (kk H locs hP hD hS)
theorem x_aload_n (X : x_X p s m args meth c cc nL ret own Ts D tys A) {f : Fin 4} {i : Nat} {x : Nat} (hdg : decode cc pc = .ok (.aload_n f, 1)) (hi : (f : Nat) = i) (hl : lv_has ls nL lv) (j : Nat) (hj : lv[j]? = some (i, .ref x)) (kk : x_W p l e R s m args below meth c A D wld k n Q σ (F0 m (pc + 1) ls (.ref x :: rest))) : x_W p l e R s m args below meth c A D wld k n Q σ (F0 m pc ls rest) := fun H locs hP hD hS => lv_aload_n X.1 X.2.1 hdg hi (lv_at hl j hj) (kk H locs hP hD hS)
theorem x_iconst (X : x_X p s m args meth c cc nL ret own Ts D tys A) {n9 : Int} {v : Int32} (hdg : decode cc pc = .ok (.iconst n9, 1)) (hv : Int32.ofInt n9 = v) (kk : x_W p l e R s m args below meth c A D wld k n Q σ (F0 m (pc + 1) ls (.int v :: rest))) : x_W p l e R s m args below meth c A D wld k n Q σ (F0 m pc ls rest) := fun H locs hP hD hS => lv_iconst X.1 X.2.1 hdg hv (kk H locs hP hD hS)
theorem x_bipush (X : x_X p s m args meth c cc nL ret own Ts D tys A) {n9 : Int} {v : Int32} (hdg : decode cc pc = .ok (.bipush n9, 2)) (hv : (Int8.ofInt n9).toInt32 = v) (kk : x_W p l e R s m args below meth c A D wld k n Q σ (F0 m (pc + 2) ls (.int v :: rest))) : x_W p l e R s m args below meth c A D wld k n Q σ (F0 m pc ls rest) := fun H locs hP hD hS => lv_bipush X.1 X.2.1 hdg hv (kk H locs hP hD hS)
theorem x_sipush (X : x_X p s m args meth c cc nL ret own Ts D tys A) {n9 : Int} {v : Int32} (hdg : decode cc pc = .ok (.sipush n9, 3)) (hv : (Int16.ofInt n9).toInt32 = v) (kk : x_W p l e R s m args below meth c A D wld k n Q σ (F0 m (pc + 3) ls (.int v :: rest))) : x_W p l e R s m args below meth c A D wld k n Q σ (F0 m pc ls rest) := fun H locs hP hD hS => lv_sipush X.1 X.2.1 hdg hv (kk H locs hP hD hS)
theorem x_iadd (X : x_X p s m args meth c cc nL ret own Ts D tys A) {x y : Int32} (hdg : decode cc pc = .ok (.iadd, 1)) (kk : x_W p l e R s m args below meth c A D wld k n Q σ (F0 m (pc + 1) ls (.int (x + y) :: rest))) : x_W p l e R s m args below meth c A D wld k n Q σ (F0 m pc ls (.int y :: .int x :: rest)) := fun H locs hP hD hS => lv_iadd X.1 X.2.1 hdg (kk H locs hP hD hS)
theorem x_isub (X : x_X p s m args meth c cc nL ret own Ts D tys A) {x y : Int32} (hdg : decode cc pc = .ok (.isub, 1)) (kk : x_W p l e R s m args below meth c A D wld k n Q σ (F0 m (pc + 1) ls (.int (x - y) :: rest))) : x_W p l e R s m args below meth c A D wld k n Q σ (F0 m pc ls (.int y :: .int x :: rest)) := fun H locs hP hD hS => lv_isub X.1 X.2.1 hdg (kk H locs hP hD hS)
theorem x_imul (X : x_X p s m args meth c cc nL ret own Ts D tys A) {x y : Int32} (hdg : decode cc pc = .ok (.imul, 1)) (kk : x_W p l e R s m args below meth c A D wld k n Q σ (F0 m (pc + 1) ls (.int (x * y) :: rest))) : x_W p l e R s m args below meth c A D wld k n Q σ (F0 m pc ls (.int y :: .int x :: rest)) := fun H locs hP hD hS => lv_imul X.1 X.2.1 hdg (kk H locs hP hD hS)
theorem x_iand (X : x_X p s m args meth c cc nL ret own Ts D tys A) {x y : Int32} (hdg : decode cc pc = .ok (.iand, 1)) (kk : x_W p l e R s m args below meth c A D wld k n Q σ (F0 m (pc + 1) ls (.int (x &&& y) :: rest))) : x_W p l e R s m args below meth c A D wld k n Q σ (F0 m pc ls (.int y :: .int x :: rest)) := fun H locs hP hD hS => lv_iand X.1 X.2.1 hdg (kk H locs hP hD hS)
theorem x_ior (X : x_X p s m args meth c cc nL ret own Ts D tys A) {x y : Int32} (hdg : decode cc pc = .ok (.ior, 1)) (kk : x_W p l e R s m args below meth c A D wld k n Q σ (F0 m (pc + 1) ls (.int (x ||| y) :: rest))) : x_W p l e R s m args below meth c A D wld k n Q σ (F0 m pc ls (.int y :: .int x :: rest)) := fun H locs hP hD hS => lv_ior X.1 X.2.1 hdg (kk H locs hP hD hS)
theorem x_ishl (X : x_X p s m args meth c cc nL ret own Ts D tys A) {x y : Int32} (hdg : decode cc pc = .ok (.ishl, 1)) (kk : x_W p l e R s m args below meth c A D wld k n Q σ (F0 m (pc + 1) ls (.int (x <<< (y &&& 31)) :: rest))) : x_W p l e R s m args below meth c A D wld k n Q σ (F0 m pc ls (.int y :: .int x :: rest)) := fun H locs hP hD hS => lv_ishl X.1 X.2.1 hdg (kk H locs hP hD hS)
theorem x_ishr (X : x_X p s m args meth c cc nL ret own Ts D tys A) {x y : Int32} (hdg : decode cc pc = .ok (.ishr, 1)) (kk : x_W p l e R s m args below meth c A D wld k n Q σ (F0 m (pc + 1) ls (.int (x >>> (y &&& 31)) :: rest))) : x_W p l e R s m args below meth c A D wld k n Q σ (F0 m pc ls (.int y :: .int x :: rest)) := fun H locs hP hD hS => lv_ishr X.1 X.2.1 hdg (kk H locs hP hD hS)
theorem x_idiv (X : x_X p s m args meth c cc nL ret own Ts D tys A) {x y : Int32} (hdg : decode cc pc = .ok (.idiv, 1)) (hne : ¬ y = 0) (kk : x_W p l e R s m args below meth c A D wld k n Q σ (F0 m (pc + 1) ls (.int (x / y) :: rest))) : x_W p l e R s m args below meth c A D wld k n Q σ (F0 m pc ls (.int y :: .int x :: rest)) := fun H locs hP hD hS => lv_idiv X.1 X.2.1 hdg hne (kk H locs hP hD hS)
theorem x_irem (X : x_X p s m args meth c cc nL ret own Ts D tys A) {x y : Int32} (hdg : decode cc pc = .ok (.irem, 1)) (hne : ¬ y = 0) (kk : x_W p l e R s m args below meth c A D wld k n Q σ (F0 m (pc + 1) ls (.int (x_rem x y) :: rest))) : x_W p l e R s m args below meth c A D wld k n Q σ (F0 m pc ls (.int y :: .int x :: rest)) := fun H locs hP hD hS => lv_irem X.1 X.2.1 hdg hne (kk H locs hP hD hS)
theorem x_goto (X : x_X p s m args meth c cc nL ret own Ts D tys A) {off : Int} {tgt : Nat} (hdg : decode cc pc = .ok (.goto off, 3)) (ht : (pc : Int) + off = (tgt : Int)) (kk : x_W p l e R s m args below meth c A D wld k n Q σ (F0 m tgt ls rest)) : x_W p l e R s m args below meth c A D wld k n Q σ (F0 m pc ls rest) := fun H locs hP hD hS => lv_goto X.1 X.2.1 hdg ht (kk H locs hP hD hS)
theorem x_dup (X : x_X p s m args meth c cc nL ret own Ts D tys A) {va : Value} (hdg : decode cc pc = .ok (.dup, 1)) (hva : va.category = 1) (kk : x_W p l e R s m args below meth c A D wld k n Q σ (F0 m (pc + 1) ls (va :: va :: rest))) : x_W p l e R s m args below meth c A D wld k n Q σ (F0 m pc ls (va :: rest)) := fun H locs hP hD hS => lv_dup X.1 X.2.1 hdg hva (kk H locs hP hD hS)
theorem x_pop (X : x_X p s m args meth c cc nL ret own Ts D tys A) {va : Value} (hdg : decode cc pc = .ok (.pop, 1)) (hva : va.category = 1) (kk : x_W p l e R s m args below meth c A D wld k n Q σ (F0 m (pc + 1) ls rest)) : x_W p l e R s m args below meth c A D wld k n Q σ (F0 m pc ls (va :: rest)) := fun H locs hP hD hS => lv_pop X.1 X.2.1 hdg hva (kk H locs hP hD hS)
theorem x_istore_n (X : x_X p s m args meth c cc nL ret own Ts D tys A) {f : Fin 4} {i : Nat} {x : Int32} (hdg : decode cc pc = .ok (.istore_n f, 1)) (hi : (f : Nat) = i) (h : lv_has ls nL lv) (hn : i < nL) (hl : ∀ y : Int32, (i, Value.int y) :: lv.filter (fun q => !(q.1 == i) && !(q.1 + 1 == i && q.2.category == 2)) = (i, Value.int y) :: lv') (kk : ∀ (y : Int32) (ls' : Array Slot), y = x → lv_has ls' nL ((i, Value.int y) :: lv') → x_W p l e R s m args below meth c A D wld k n Q σ (F0 m (pc + 1) ls' rest)) : x_W p l e R s m args below meth c A D wld k n Q σ (F0 m pc ls (.int x :: rest)) := fun H locs hP hD hS => lv_istore_n X.1 X.2.1 hdg hi h hn (hl x) (fun ls1 h1 => kk x ls1 rfl h1 H locs hP hD hS)
theorem x_istore (X : x_X p s m args meth c cc nL ret own Ts D tys A) {i : Nat} {x : Int32} (hdg : decode cc pc = .ok (.istore i, 2)) (h : lv_has ls nL lv) (hn : i < nL) (hl : ∀ y : Int32, (i, Value.int y) :: lv.filter (fun q => !(q.1 == i) && !(q.1 + 1 == i && q.2.category == 2)) = (i, Value.int y) :: lv') (kk : ∀ (y : Int32) (ls' : Array Slot), y = x → lv_has ls' nL ((i, Value.int y) :: lv') → x_W p l e R s m args below meth c A D wld k n Q σ (F0 m (pc + 2) ls' rest)) : x_W p l e R s m args below meth c A D wld k n Q σ (F0 m pc ls (.int x :: rest)) := fun H locs hP hD hS => lv_istore X.1 X.2.1 hdg h hn (hl x) (fun ls1 h1 => kk x ls1 rfl h1 H locs hP hD hS)
theorem x_istoreA_n (X : x_X p s m args meth c cc nL ret own Ts D tys A) {f : Fin 4} {i : Nat} {x : Int32} (hdg : decode cc pc = .ok (.istore_n f, 1)) (hi : (f : Nat) = i) (h : lv_has ls nL lv) (hn : i < nL) (hl : (i, Value.int x) :: lv.filter (fun q => !(q.1 == i) && !(q.1 + 1 == i && q.2.category == 2)) = lv') (kk : ∀ (ls' : Array Slot), lv_has ls' nL lv' → x_W p l e R s m args below meth c A D wld k n Q σ (F0 m (pc + 1) ls' rest)) : x_W p l e R s m args below meth c A D wld k n Q σ (F0 m pc ls (.int x :: rest)) := fun H locs hP hD hS => lv_istore_n X.1 X.2.1 hdg hi h hn hl (fun ls1 h1 => kk ls1 h1 H locs hP hD hS)
theorem x_istoreA (X : x_X p s m args meth c cc nL ret own Ts D tys A) {i : Nat} {x : Int32} (hdg : decode cc pc = .ok (.istore i, 2)) (h : lv_has ls nL lv) (hn : i < nL) (hl : (i, Value.int x) :: lv.filter (fun q => !(q.1 == i) && !(q.1 + 1 == i && q.2.category == 2)) = lv') (kk : ∀ (ls' : Array Slot), lv_has ls' nL lv' → x_W p l e R s m args below meth c A D wld k n Q σ (F0 m (pc + 2) ls' rest)) : x_W p l e R s m args below meth c A D wld k n Q σ (F0 m pc ls (.int x :: rest)) := fun H locs hP hD hS => lv_istore X.1 X.2.1 hdg h hn hl (fun ls1 h1 => kk ls1 h1 H locs hP hD hS)
theorem x_iinc (X : x_X p s m args meth c cc nL ret own Ts D tys A) {i j : Nat} {n9 : Int} {x v : Int32} (hdg : decode cc pc = .ok (.iinc i n9, 3)) (h : lv_has ls nL lv) (hk : lv[j]? = some (i, .int x)) (hv : x + Int32.ofInt n9 = v) (hn : i < nL) (hl : (i, Value.int v) :: lv.filter (fun q => !(q.1 == i) && !(q.1 + 1 == i && q.2.category == 2)) = lv') (kk : ∀ ls' : Array Slot, lv_has ls' nL lv' → x_W p l e R s m args below meth c A D wld k n Q σ (F0 m (pc + 3) ls' rest)) : x_W p l e R s m args below meth c A D wld k n Q σ (F0 m pc ls rest) := fun H locs hP hD hS => lv_iinc X.1 X.2.1 hdg h hk hv hn hl (fun ls1 h1 => kk ls1 h1 H locs hP hD hS)
theorem x_icmp_eq (X : x_X p s m args meth c cc nL ret own Ts D tys A) {x y : Int32} {off : Int} {tgt : Nat} (hdg : decode cc pc = .ok (.if_icmp .eq off, 3)) (ht : (pc : Int) + off = (tgt : Int)) (kt : x = y → x_W p l e R s m args below meth c A D wld k n Q σ (F0 m tgt ls rest)) (kf : ¬ x = y → x_W p l e R s m args below meth c A D wld k n Q σ (F0 m (pc + 3) ls rest)) : x_W p l e R s m args below meth c A D wld k n Q σ (F0 m pc ls (.int y :: .int x :: rest)) := fun H locs hP hD hS => lv_icmp_eq X.1 X.2.1 hdg ht (fun q => kt q H locs hP hD hS) (fun q => kf q H locs hP hD hS)
theorem x_icmp_ne (X : x_X p s m args meth c cc nL ret own Ts D tys A) {x y : Int32} {off : Int} {tgt : Nat} (hdg : decode cc pc = .ok (.if_icmp .ne off, 3)) (ht : (pc : Int) + off = (tgt : Int)) (kt : ¬ x = y → x_W p l e R s m args below meth c A D wld k n Q σ (F0 m tgt ls rest)) (kf : x = y → x_W p l e R s m args below meth c A D wld k n Q σ (F0 m (pc + 3) ls rest)) : x_W p l e R s m args below meth c A D wld k n Q σ (F0 m pc ls (.int y :: .int x :: rest)) := fun H locs hP hD hS => lv_icmp_ne X.1 X.2.1 hdg ht (fun q => kt q H locs hP hD hS) (fun q => kf q H locs hP hD hS)
theorem x_icmp_lt (X : x_X p s m args meth c cc nL ret own Ts D tys A) {x y : Int32} {off : Int} {tgt : Nat} (hdg : decode cc pc = .ok (.if_icmp .lt off, 3)) (ht : (pc : Int) + off = (tgt : Int)) (kt : x < y → x_W p l e R s m args below meth c A D wld k n Q σ (F0 m tgt ls rest)) (kf : ¬ x < y → x_W p l e R s m args below meth c A D wld k n Q σ (F0 m (pc + 3) ls rest)) : x_W p l e R s m args below meth c A D wld k n Q σ (F0 m pc ls (.int y :: .int x :: rest)) := fun H locs hP hD hS => lv_icmp_lt X.1 X.2.1 hdg ht (fun q => kt q H locs hP hD hS) (fun q => kf q H locs hP hD hS)
theorem x_icmp_ge (X : x_X p s m args meth c cc nL ret own Ts D tys A) {x y : Int32} {off : Int} {tgt : Nat} (hdg : decode cc pc = .ok (.if_icmp .ge off, 3)) (ht : (pc : Int) + off = (tgt : Int)) (kt : y ≤ x → x_W p l e R s m args below meth c A D wld k n Q σ (F0 m tgt ls rest)) (kf : ¬ y ≤ x → x_W p l e R s m args below meth c A D wld k n Q σ (F0 m (pc + 3) ls rest)) : x_W p l e R s m args below meth c A D wld k n Q σ (F0 m pc ls (.int y :: .int x :: rest)) := fun H locs hP hD hS => lv_icmp_ge X.1 X.2.1 hdg ht (fun q => kt q H locs hP hD hS) (fun q => kf q H locs hP hD hS)
theorem x_icmp_gt (X : x_X p s m args meth c cc nL ret own Ts D tys A) {x y : Int32} {off : Int} {tgt : Nat} (hdg : decode cc pc = .ok (.if_icmp .gt off, 3)) (ht : (pc : Int) + off = (tgt : Int)) (kt : y < x → x_W p l e R s m args below meth c A D wld k n Q σ (F0 m tgt ls rest)) (kf : ¬ y < x → x_W p l e R s m args below meth c A D wld k n Q σ (F0 m (pc + 3) ls rest)) : x_W p l e R s m args below meth c A D wld k n Q σ (F0 m pc ls (.int y :: .int x :: rest)) := fun H locs hP hD hS => lv_icmp_gt X.1 X.2.1 hdg ht (fun q => kt q H locs hP hD hS) (fun q => kf q H locs hP hD hS)
theorem x_icmp_le (X : x_X p s m args meth c cc nL ret own Ts D tys A) {x y : Int32} {off : Int} {tgt : Nat} (hdg : decode cc pc = .ok (.if_icmp .le off, 3)) (ht : (pc : Int) + off = (tgt : Int)) (kt : x ≤ y → x_W p l e R s m args below meth c A D wld k n Q σ (F0 m tgt ls rest)) (kf : ¬ x ≤ y → x_W p l e R s m args below meth c A D wld k n Q σ (F0 m (pc + 3) ls rest)) : x_W p l e R s m args below meth c A D wld k n Q σ (F0 m pc ls (.int y :: .int x :: rest)) := fun H locs hP hD hS => lv_icmp_le X.1 X.2.1 hdg ht (fun q => kt q H locs hP hD hS) (fun q => kf q H locs hP hD hS)
theorem x_if_eq (X : x_X p s m args meth c cc nL ret own Ts D tys A) {x : Int32} {off : Int} {tgt : Nat} (hdg : decode cc pc = .ok (.ifCond .eq off, 3)) (ht : (pc : Int) + off = (tgt : Int)) (kt : x = 0 → x_W p l e R s m args below meth c A D wld k n Q σ (F0 m tgt ls rest)) (kf : ¬ x = 0 → x_W p l e R s m args below meth c A D wld k n Q σ (F0 m (pc + 3) ls rest)) : x_W p l e R s m args below meth c A D wld k n Q σ (F0 m pc ls (.int x :: rest)) := fun H locs hP hD hS => lv_if_eq X.1 X.2.1 hdg ht (fun q => kt q H locs hP hD hS) (fun q => kf q H locs hP hD hS)
theorem x_if_ne (X : x_X p s m args meth c cc nL ret own Ts D tys A) {x : Int32} {off : Int} {tgt : Nat} (hdg : decode cc pc = .ok (.ifCond .ne off, 3)) (ht : (pc : Int) + off = (tgt : Int)) (kt : ¬ x = 0 → x_W p l e R s m args below meth c A D wld k n Q σ (F0 m tgt ls rest)) (kf : x = 0 → x_W p l e R s m args below meth c A D wld k n Q σ (F0 m (pc + 3) ls rest)) : x_W p l e R s m args below meth c A D wld k n Q σ (F0 m pc ls (.int x :: rest)) := fun H locs hP hD hS => lv_if_ne X.1 X.2.1 hdg ht (fun q => kt q H locs hP hD hS) (fun q => kf q H locs hP hD hS)
theorem x_if_lt (X : x_X p s m args meth c cc nL ret own Ts D tys A) {x : Int32} {off : Int} {tgt : Nat} (hdg : decode cc pc = .ok (.ifCond .lt off, 3)) (ht : (pc : Int) + off = (tgt : Int)) (kt : x < 0 → x_W p l e R s m args below meth c A D wld k n Q σ (F0 m tgt ls rest)) (kf : ¬ x < 0 → x_W p l e R s m args below meth c A D wld k n Q σ (F0 m (pc + 3) ls rest)) : x_W p l e R s m args below meth c A D wld k n Q σ (F0 m pc ls (.int x :: rest)) := fun H locs hP hD hS => lv_if_lt X.1 X.2.1 hdg ht (fun q => kt q H locs hP hD hS) (fun q => kf q H locs hP hD hS)
theorem x_if_ge (X : x_X p s m args meth c cc nL ret own Ts D tys A) {x : Int32} {off : Int} {tgt : Nat} (hdg : decode cc pc = .ok (.ifCond .ge off, 3)) (ht : (pc : Int) + off = (tgt : Int)) (kt : 0 ≤ x → x_W p l e R s m args below meth c A D wld k n Q σ (F0 m tgt ls rest)) (kf : ¬ 0 ≤ x → x_W p l e R s m args below meth c A D wld k n Q σ (F0 m (pc + 3) ls rest)) : x_W p l e R s m args below meth c A D wld k n Q σ (F0 m pc ls (.int x :: rest)) := fun H locs hP hD hS => lv_if_ge X.1 X.2.1 hdg ht (fun q => kt q H locs hP hD hS) (fun q => kf q H locs hP hD hS)
theorem x_if_gt (X : x_X p s m args meth c cc nL ret own Ts D tys A) {x : Int32} {off : Int} {tgt : Nat} (hdg : decode cc pc = .ok (.ifCond .gt off, 3)) (ht : (pc : Int) + off = (tgt : Int)) (kt : 0 < x → x_W p l e R s m args below meth c A D wld k n Q σ (F0 m tgt ls rest)) (kf : ¬ 0 < x → x_W p l e R s m args below meth c A D wld k n Q σ (F0 m (pc + 3) ls rest)) : x_W p l e R s m args below meth c A D wld k n Q σ (F0 m pc ls (.int x :: rest)) := fun H locs hP hD hS => lv_if_gt X.1 X.2.1 hdg ht (fun q => kt q H locs hP hD hS) (fun q => kf q H locs hP hD hS)
theorem x_if_le (X : x_X p s m args meth c cc nL ret own Ts D tys A) {x : Int32} {off : Int} {tgt : Nat} (hdg : decode cc pc = .ok (.ifCond .le off, 3)) (ht : (pc : Int) + off = (tgt : Int)) (kt : x ≤ 0 → x_W p l e R s m args below meth c A D wld k n Q σ (F0 m tgt ls rest)) (kf : ¬ x ≤ 0 → x_W p l e R s m args below meth c A D wld k n Q σ (F0 m (pc + 3) ls rest)) : x_W p l e R s m args below meth c A D wld k n Q σ (F0 m pc ls (.int x :: rest)) := fun H locs hP hD hS => lv_if_le X.1 X.2.1 hdg ht (fun q => kt q H locs hP hD hS) (fun q => kf q H locs hP hD hS)
theorem x_dup2 (X : x_X p s m args meth c cc nL ret own Ts D tys A) {va vb : Value} (hdg : decode cc pc = .ok (.dup2, 1)) (hva : va.category = 1) (hvb : vb.category = 1) (kk : x_W p l e R s m args below meth c A D wld k n Q σ (F0 m (pc + 1) ls (va :: vb :: va :: vb :: rest))) : x_W p l e R s m args below meth c A D wld k n Q σ (F0 m pc ls (va :: vb :: rest)) := fun H locs hP hD hS => lv_dup2_11 X.1 X.2.1 hdg hva hvb (kk H locs hP hD hS)
theorem x_mmax (X : x_X p s m args meth c cc nL ret own Ts D tys A) {index : Nat} {x y : Int32} (hl : lv_has ls nL lv) (hlink : Cond.methodLink own index Lib.Math.max.name ∈ Ts) (hstat : Cond.static Lib.Math.max.name ∈ Ts) (hini : Cond.initialized "java/lang/Math" ∈ Ts) (hcode : Cond.code Lib.Math.max.name Lib.Math.max.code 2 (some .int) ∈ Ts) (hframes : 1 ≤ R.frames) (hlocals : (rest.map fun v => v.category).sum + 13 ≤ R.locals) (hkn : k ≤ R.cells ∧ n ≤ R.slots) (hdg : decode cc pc = .ok (.invokestatic index, 3)) (kk : x_W p l e R s m args below meth c A D wld k n Q σ (F0 m (pc + 3) ls (.int (x_max x y) :: rest))) : x_W p l e R s m args below meth c A D wld k n Q σ (F0 m pc ls (.int y :: .int x :: rest)) := fun H locs hP hD hS => va_mmax X.1 X.2.1 (X.2.2.1.trans hl.1.symm) X.2.2.2.1 (X.2.2.2.2.1 _ hlink) (X.2.2.2.2.1 _ hstat) (X.2.2.2.2.1 _ hini) (X.2.2.2.2.1 _ hcode) hframes hlocals hkn.1 hkn.2 hdg (kk H locs hP hD hS)
theorem x_mmin (X : x_X p s m args meth c cc nL ret own Ts D tys A) {index : Nat} {x y : Int32} (hl : lv_has ls nL lv) (hlink : Cond.methodLink own index Lib.Math.min.name ∈ Ts) (hstat : Cond.static Lib.Math.min.name ∈ Ts) (hini : Cond.initialized "java/lang/Math" ∈ Ts) (hcode : Cond.code Lib.Math.min.name Lib.Math.min.code 2 (some .int) ∈ Ts) (hframes : 1 ≤ R.frames) (hlocals : (rest.map fun v => v.category).sum + 13 ≤ R.locals) (hkn : k ≤ R.cells ∧ n ≤ R.slots) (hdg : decode cc pc = .ok (.invokestatic index, 3)) (kk : x_W p l e R s m args below meth c A D wld k n Q σ (F0 m (pc + 3) ls (.int (x_min x y) :: rest))) : x_W p l e R s m args below meth c A D wld k n Q σ (F0 m pc ls (.int y :: .int x :: rest)) := fun H locs hP hD hS => va_mmin X.1 X.2.1 (X.2.2.1.trans hl.1.symm) X.2.2.2.1 (X.2.2.2.2.1 _ hlink) (X.2.2.2.2.1 _ hstat) (X.2.2.2.2.1 _ hini) (X.2.2.2.2.1 _ hcode) hframes hlocals hkn.1 hkn.2 hdg (kk H locs hP hD hS)
theorem x_getf (X : x_X p s m args meth c cc nL ret own Ts D tys A) {ref C : String} {T : u_T} {N ci index q0 a : Nat} {fs : List Value} (hin : ∀ w ∈ u_ws C T N, w ∈ Ts) (he : (wld σ)[q0]? = some (a, .inr (ci, fs))) (hc : vwCl[ci]? = some (C, T, N)) (j : Nat) (hk : j < N) (hlink : Cond.fieldLink own index ref (T j).2.1 (T j).2.2.1 ∈ Ts) (href : (T j).1 = ref) {v : Value} (hv : fs[j]? = some v) (hdg : decode cc pc = .ok (.getfield index, 3)) (kk : x_W p l e R s m args below meth c A D wld k n Q σ (F0 m (pc + 3) ls (v :: rest))) : x_W p l e R s m args below meth c A D wld k n Q σ (F0 m pc ls (.ref a :: rest)) := by
  subst href
  exact fun H locs hP hD hS => va_get X.1 X.2.1 X.2.2.2.2.1 hin X.2.2.2.1 X.2.2.2.2.2.1.1 hP q0 he hc j hk (X.2.2.2.2.1 _ hlink) (fun _ h9 => h9) hv hdg (kk H locs hP hD hS)
theorem x_getN (X : x_X p s m args meth c cc nL ret own Ts D tys A) {ref C : String} {T : u_T} {N ci index q0 a : Nat} {fs : List Value} (hin : ∀ w ∈ u_ws C T N, w ∈ Ts) (he : (wld σ)[q0]? = some (a, .inr (ci, fs))) (hc : vwCl[ci]? = some (C, T, N)) (j : Nat) (hk : j < N) (hlink : Cond.fieldLinkNest own index ref (T j).2.1 (T j).2.2.1 "Creditfabric" ∈ x_nest) (href : (T j).1 = ref) {v : Value} (hv : fs[j]? = some v) (hdg : decode cc pc = .ok (.getfield index, 3)) (kk : x_W p l e R s m args below meth c A D wld k n Q σ (F0 m (pc + 3) ls (v :: rest))) : x_W p l e R s m args below meth c A D wld k n Q σ (F0 m pc ls (.ref a :: rest)) := by
  subst href
  exact fun H locs hP hD hS => va_getN X.1 X.2.1 X.2.2.2.2.1 hin X.2.2.2.1 X.2.2.2.2.2.1.1 hP q0 he hc j hk (va_Nw.use rfl (X.2.2.2.2.2.1.2 _ hlink)) (fun _ h9 => h9) hv hdg (kk H locs hP hD hS)
theorem x_puti (X : x_X p s m args meth c cc nL ret own Ts D tys A) {ref C : String} {T : u_T} {N ci index q0 a : Nat} {fs : List Value} (hin : ∀ w ∈ u_ws C T N, w ∈ Ts) (he : (wld σ)[q0]? = some (a, .inr (ci, fs))) (hc : vwCl[ci]? = some (C, T, N)) (j : Nat) (hk : j < N) (ty0 : Nat → FieldType) (hty : ∀ k, k < N → parseFieldDescriptor (T k).2.2.1 = some (ty0 k)) (hnm : ∀ a, a < N → ∀ b, b < N → a ≠ b → (T a).2.1 ≠ (T b).2.1) (hlink : Cond.fieldLink own index ref (T j).2.1 (T j).2.2.1 ∈ Ts) (href : (T j).1 = ref) (hfin : (T j).2.2.2 = false) (hd : parseFieldDescriptor (T j).2.2.1 = some .int) (hl : j < fs.length) {v : Int32} (hw : (wld σ).set q0 (a, .inr (ci, fs.set j (.int v))) = wld σ') (hdg : decode cc pc = .ok (.putfield index, 3)) (kk : ∀ σ1 : CS, σ1 = σ' → x_W p l e R s m args below meth c A D wld k n Q σ1 (F0 m (pc + 3) ls rest)) : x_W p l e R s m args below meth c A D wld k n Q σ (F0 m pc ls (.int v :: .ref a :: rest)) := by
  subst href
  intro H locs hP hD hS
  refine va_put X.1 X.2.1 X.2.2.2.2.1 hin ty0 hty hnm X.2.2.2.1 X.2.2.2.2.2.1.1 hP hD hS q0 he hc j hk (X.2.2.2.2.1 _ hlink) (fun _ h9 => h9) hfin hd rfl rfl hl hdg (fun H1 locs1 hP1 hD1 hS1 => ?_)
  rw [hw] at hP1 hD1
  exact kk σ' rfl H1 locs1 hP1 hD1 hS1
theorem x_iald (X : x_X p s m args meth c cc nL ret own Ts D tys A) (q0 t0 : Nat) {cA : ClassId} {N a row : Nat} (ha : (wld σ)[q0]? = some (a, .inl (cA, N, .inl (σ row)))) (ht : tys[t0]? = some (cA, .int)) {i : Int32} (hin : vp_in i N) (hdg : decode cc pc = .ok (.iaload, 1)) (kk : x_W p l e R s m args below meth c A D wld k n Q σ (F0 m (pc + 1) ls (.int (x_at σ row i) :: rest))) : x_W p l e R s m args below meth c A D wld k n Q σ (F0 m pc ls (.int i :: .ref a :: rest)) := fun H locs hP hD hS => va_iald X.1 X.2.1 X.2.2.2.2.2.1.1 hP q0 t0 ha ht hin hdg (kk H locs hP hD hS)
theorem x_zald (X : x_X p s m args meth c cc nL ret own Ts D tys A) (q0 t0 : Nat) {cA : ClassId} {N a row : Nat} (ha : (wld σ)[q0]? = some (a, .inl (cA, N, .inl (σ row)))) (ht : tys[t0]? = some (cA, .boolean)) {i : Int32} (hin : vp_in i N) (hdg : decode cc pc = .ok (.baload, 1)) (kk : x_W p l e R s m args below meth c A D wld k n Q σ (F0 m (pc + 1) ls (.int (x_at σ row i) :: rest))) : x_W p l e R s m args below meth c A D wld k n Q σ (F0 m pc ls (.int i :: .ref a :: rest)) := fun H locs hP hD hS => va_zald X.1 X.2.1 X.2.2.2.2.2.1.1 hP q0 t0 ha ht hin hdg (kk H locs hP hD hS)
theorem x_iast (X : x_X p s m args meth c cc nL ret own Ts D tys A) (q0 t0 : Nat) {cA : ClassId} {N a row : Nat} (ha : (wld σ)[q0]? = some (a, .inl (cA, N, .inl (σ row)))) (ht : tys[t0]? = some (cA, .int)) {i x : Int32} (hin : vp_in i N) (hw : (wld σ).set q0 (a, .inl (cA, N, .inl (upd (σ row) i.toNatClampNeg x))) = wld (x_st σ row i x)) (hdg : decode cc pc = .ok (.iastore, 1)) (kk : ∀ σ1 : CS, σ1 = x_st σ row i x → x_W p l e R s m args below meth c A D wld k n Q σ1 (F0 m (pc + 1) ls rest)) : x_W p l e R s m args below meth c A D wld k n Q σ (F0 m pc ls (.int x :: .int i :: .ref a :: rest)) := by
  intro H locs hP hD hS
  refine va_iast X.1 X.2.1 X.2.2.2.2.2.1.1 hP hD hS q0 t0 ha ht hin hdg (fun H1 locs1 hP1 hD1 hS1 => ?_)
  rw [hw] at hP1 hD1
  exact kk _ rfl H1 locs1 hP1 hD1 hS1
theorem x_zast (X : x_X p s m args meth c cc nL ret own Ts D tys A) (q0 t0 : Nat) {cA : ClassId} {N a row : Nat} (ha : (wld σ)[q0]? = some (a, .inl (cA, N, .inl (σ row)))) (ht : tys[t0]? = some (cA, .boolean)) {i x : Int32} (hin : vp_in i N) (hw : (wld σ).set q0 (a, .inl (cA, N, .inl (upd (σ row) i.toNatClampNeg (vp_nar .boolean x)))) = wld (x_st σ row i (vp_nar .boolean x))) (hdg : decode cc pc = .ok (.bastore, 1)) (kk : ∀ σ1 : CS, σ1 = x_st σ row i (vp_nar .boolean x) → x_W p l e R s m args below meth c A D wld k n Q σ1 (F0 m (pc + 1) ls rest)) : x_W p l e R s m args below meth c A D wld k n Q σ (F0 m pc ls (.int x :: .int i :: .ref a :: rest)) := by
  intro H locs hP hD hS
  refine va_zast X.1 X.2.1 X.2.2.2.2.2.1.1 hP hD hS q0 t0 ha ht hin hdg (fun H1 locs1 hP1 hD1 hS1 => ?_)
  rw [hw] at hP1 hD1
  exact kk _ rfl H1 locs1 hP1 hD1 hS1
theorem x_alen (X : x_X p s m args meth c cc nL ret own Ts D tys A) (q0 t0 : Nat) {cA : ClassId} {a : Nat} {x : vp_A} (ha : (wld σ)[q0]? = some (a, .inl (cA, x))) {ty : FieldType} (ht : tys[t0]? = some (cA, ty)) {v : Int32} (hv : Int32.ofNat x.1 = v) (hdg : decode cc pc = .ok (.arraylength, 1)) (kk : x_W p l e R s m args below meth c A D wld k n Q σ (F0 m (pc + 1) ls (.int v :: rest))) : x_W p l e R s m args below meth c A D wld k n Q σ (F0 m pc ls (.ref a :: rest)) := fun H locs hP hD hS => va_alen X.1 X.2.1 X.2.2.2.2.2.1.1 hP q0 t0 ha ht hv hdg (kk H locs hP hD hS)
theorem x_iret (X : x_X p s m args meth c cc nL ret own Ts D tys A) {v r : Int32} {ty : FieldType} (hret : ret = some ty) (hn : narrow ty (.int v) = .int v) (hf : some (v, σ) = some (r, σ')) (hdg : decode cc pc = .ok (.ireturn, 1)) : x_W p l e R s m args below meth c A D wld 0 0 (x_Ri below args s A D wld r σ') σ (F0 m pc ls [.int v]) := by
  intro H locs hP hD hS
  obtain ⟨rfl, rfl⟩ := Prod.mk.inj (Option.some.inj hf)
  exact W.zret X.1 X.2.1 (X.2.2.2.2.2.2.2.1.trans hret) hn (fun t ht hW => ⟨⟨v, (), rfl, rfl, by rw [ht]; exact hP, hD⟩, hS.F ht⟩) hS.2.2 hdg X.2.2.2.2.2.2.2.2
theorem x_vret (X : x_X p s m args meth c cc nL ret own Ts D tys A) {v r : Int32} (hret : ret = none) (hf : some (v, σ) = some (r, σ')) (hdg : decode cc pc = .ok (.return_, 1)) : x_W p l e R s m args below meth c A D wld 0 0 (x_Rv below args s A D wld σ') σ (F0 m pc ls []) := by
  intro H locs hP hD hS
  obtain ⟨rfl, rfl⟩ := Prod.mk.inj (Option.some.inj hf)
  exact W.vret X.1 X.2.1 (X.2.2.2.2.2.2.2.1.trans hret) (fun t ht hW => ⟨⟨(), rfl, trivial, by rw [ht]; exact hP, hD⟩, hS.F ht⟩) hS.2.2 hdg X.2.2.2.2.2.2.2.2
theorem x_blind {D : va_G} {tys : List (ClassId × FieldType)} {wld : CS → va_W} {av : List Value} {σ : CS} {sz : Nat} : FrameBlind (va_Pc av (x_B D tys wld σ sz)) := fun a U g mk q => by
  obtain ⟨q0, q1, q2, q3, q4⟩ := q
  exact ⟨q0, q1, q2, x_K.same (s := U) (U := U.calling g mk a) rfl q3, q4⟩
theorem x_fr {H : Heap} {locs : List Loc} (hA : ∀ q : Nat, s.heap.size ≤ q → A q) (hD : va_D A (wld σ)) (hS : va_S A s.heap H locs) : ∀ q, va_A (wld σ) H.size q → A q := fun q h => by
  rcases h with ⟨k, e, h⟩ | h
  · exact hD.2 k _ h
  · exact hA q (Nat.le_trans hS.1 h)
theorem x_cVi (X : x_X p s m args meth c cc nL ret own Ts D tys A) {y : MethodName} {bytes : ByteArray} {maxL index nn : Nat} {rt : Option FieldType} {ws : List Cond} {rm : Room} {As st : List Value} {b : Nat} {C : String} (q0 ci : Nat) {fs : List Value} {q : vw_C} (he : (wld σ)[q0]? = some (b, .inr (ci, fs))) (hc : vwCl[ci]? = some q) (hC : q.1 = C) {r : Int32} (hM : x_Mi l y ws rm D tys wld (.ref b :: As) σ r σ') (cw : CallW R s args own C index y bytes maxL rt ws rm 0 0 nn) (hn : As.length = nn) (hl : lv_has ls nL lv) (hst : st = As.reverse ++ .ref b :: rest) (hrm : (rest.map fun v => v.category).sum ≤ 8) (hkn : k ≤ R.cells ∧ n ≤ R.slots) (hdg : decode cc pc = .ok (.invokevirtual index, 3)) (kk : x_W p l e R s m args below meth c A D wld k n Q σ' (F0 m (pc + 3) ls (.int r :: rest))) : x_W p l e R s m args below meth c A D wld k n Q σ (F0 m pc ls st) := by
  intro H locs hP hD hS
  subst hC
  have hFc := x_fr X.2.2.2.2.2.2.1 hD hS
  refine va_calli (va_runV (As := As) (rest := rest) ⟨X.1, X.2.1, X.2.2.1, X.2.2.2.1, X.2.2.2.2.1⟩ (hM H.size) cw ⟨x_blind, va_recv X.2.2.2.2.2.1.1 hP hc he, fun U hU hW => ⟨rfl, by rw [hU], by rw [hU]; exact hP, X.2.2.2.2.2.1.warm hW, hD.weaken (fun _ _ _ _ => trivial)⟩⟩ rfl hn hl.1 hst (lv_room hrm) hdg hkn) hS (fun q _ h => hFc q h) hFc (fun r1 u t H1 locs1 ht hvm hw hB hz1 hk1 hS1 => ?_)
  obtain ⟨hP1, hD1⟩ := hB
  rw [ht] at hP1
  subst hw
  exact kk H1 locs1 hP1 (hD1.weaken (fun _ _ _ h => hFc _ h)) hS1
theorem x_cVv (X : x_X p s m args meth c cc nL ret own Ts D tys A) {y : MethodName} {bytes : ByteArray} {maxL index nn : Nat} {rt : Option FieldType} {ws : List Cond} {rm : Room} {As st : List Value} {b : Nat} {C : String} (q0 ci : Nat) {fs : List Value} {q : vw_C} (he : (wld σ)[q0]? = some (b, .inr (ci, fs))) (hc : vwCl[ci]? = some q) (hC : q.1 = C) {r : Int32} (hM : x_Mv l y ws rm D tys wld (.ref b :: As) σ σ') (cw : CallW R s args own C index y bytes maxL rt ws rm 0 0 nn) (hn : As.length = nn) (hl : lv_has ls nL lv) (hst : st = As.reverse ++ .ref b :: rest) (hrm : (rest.map fun v => v.category).sum ≤ 8) (hkn : k ≤ R.cells ∧ n ≤ R.slots) (hdg : decode cc pc = .ok (.invokevirtual index, 3)) (kk : x_W p l e R s m args below meth c A D wld k n Q σ' (F0 m (pc + 3) ls rest)) : x_W p l e R s m args below meth c A D wld k n Q σ (F0 m pc ls st) := by
  intro H locs hP hD hS
  subst hC
  have hFc := x_fr X.2.2.2.2.2.2.1 hD hS
  refine va_callv (va_runV (As := As) (rest := rest) ⟨X.1, X.2.1, X.2.2.1, X.2.2.2.1, X.2.2.2.2.1⟩ (hM H.size) cw ⟨x_blind, va_recv X.2.2.2.2.2.1.1 hP hc he, fun U hU hW => ⟨rfl, by rw [hU], by rw [hU]; exact hP, X.2.2.2.2.2.1.warm hW, hD.weaken (fun _ _ _ _ => trivial)⟩⟩ rfl hn hl.1 hst (lv_room hrm) hdg hkn) hS (fun q _ h => hFc q h) hFc (fun u t H1 locs1 ht hvm hw hB hz1 hk1 hS1 => ?_)
  obtain ⟨hP1, hD1⟩ := hB
  rw [ht] at hP1
  exact kk H1 locs1 hP1 (hD1.weaken (fun _ _ _ h => hFc _ h)) hS1
theorem x_cSi (X : x_X p s m args meth c cc nL ret own Ts D tys A) {y : MethodName} {bytes : ByteArray} {maxL index nn : Nat} {rt : Option FieldType} {ws : List Cond} {rm : Room} {As st : List Value} {b : Nat} {r : Int32} (hM : x_Mi l y ws rm D tys wld As σ r σ') (cw : (CallB R s args own index y bytes maxL rt ws rm 0 0 nn ∧ (Cond.static y).before args s = true)) (hn : As.length = nn) (hl : lv_has ls nL lv) (hst : st = As.reverse ++ rest) (hrm : (rest.map fun v => v.category).sum ≤ 8) (hkn : k ≤ R.cells ∧ n ≤ R.slots) (hdg : decode cc pc = .ok (.invokestatic index, 3)) (kk : x_W p l e R s m args below meth c A D wld k n Q σ' (F0 m (pc + 3) ls (.int r :: rest))) : x_W p l e R s m args below meth c A D wld k n Q σ (F0 m pc ls st) := by
  intro H locs hP hD hS
  have hFc := x_fr X.2.2.2.2.2.2.1 hD hS
  refine va_calli (va_runS (As := As) (rest := rest) ⟨X.1, X.2.1, X.2.2.1, X.2.2.2.1, X.2.2.2.2.1⟩ (hM H.size) cw ⟨x_blind, fun U hU hW => ⟨rfl, by rw [hU], by rw [hU]; exact hP, X.2.2.2.2.2.1.warm hW, hD.weaken (fun _ _ _ _ => trivial)⟩⟩ rfl hn hl.1 hst (lv_room hrm) hdg hkn) hS (fun q _ h => hFc q h) hFc (fun r1 u t H1 locs1 ht hvm hw hB hz1 hk1 hS1 => ?_)
  obtain ⟨hP1, hD1⟩ := hB
  rw [ht] at hP1
  subst hw
  exact kk H1 locs1 hP1 (hD1.weaken (fun _ _ _ h => hFc _ h)) hS1
theorem x_cSv (X : x_X p s m args meth c cc nL ret own Ts D tys A) {y : MethodName} {bytes : ByteArray} {maxL index nn : Nat} {rt : Option FieldType} {ws : List Cond} {rm : Room} {As st : List Value} {b : Nat} {r : Int32} (hM : x_Mv l y ws rm D tys wld As σ σ') (cw : (CallB R s args own index y bytes maxL rt ws rm 0 0 nn ∧ (Cond.static y).before args s = true)) (hn : As.length = nn) (hl : lv_has ls nL lv) (hst : st = As.reverse ++ rest) (hrm : (rest.map fun v => v.category).sum ≤ 8) (hkn : k ≤ R.cells ∧ n ≤ R.slots) (hdg : decode cc pc = .ok (.invokestatic index, 3)) (kk : x_W p l e R s m args below meth c A D wld k n Q σ' (F0 m (pc + 3) ls rest)) : x_W p l e R s m args below meth c A D wld k n Q σ (F0 m pc ls st) := by
  intro H locs hP hD hS
  have hFc := x_fr X.2.2.2.2.2.2.1 hD hS
  refine va_callv (va_runS (As := As) (rest := rest) ⟨X.1, X.2.1, X.2.2.1, X.2.2.2.1, X.2.2.2.2.1⟩ (hM H.size) cw ⟨x_blind, fun U hU hW => ⟨rfl, by rw [hU], by rw [hU]; exact hP, X.2.2.2.2.2.1.warm hW, hD.weaken (fun _ _ _ _ => trivial)⟩⟩ rfl hn hl.1 hst (lv_room hrm) hdg hkn) hS (fun q _ h => hFc q h) hFc (fun u t H1 locs1 ht hvm hw hB hz1 hk1 hS1 => ?_)
  obtain ⟨hP1, hD1⟩ := hB
  rw [ht] at hP1
  exact kk H1 locs1 hP1 (hD1.weaken (fun _ _ _ h => hFc _ h)) hS1
theorem x_cSNi (X : x_X p s m args meth c cc nL ret own Ts D tys A) {y : MethodName} {bytes : ByteArray} {maxL index nn : Nat} {rt : Option FieldType} {ws : List Cond} {rm : Room} {As st : List Value} {b : Nat} {r : Int32} (hM : x_Mi l y ws rm D tys wld As σ r σ') (cw : (va_CN R s args own index y "Creditfabric" bytes maxL rt ws rm 0 0 nn ∧ (Cond.static y).before args s = true ∧ True)) (hn : As.length = nn) (hl : lv_has ls nL lv) (hst : st = As.reverse ++ rest) (hrm : (rest.map fun v => v.category).sum ≤ 8) (hkn : k ≤ R.cells ∧ n ≤ R.slots) (hdg : decode cc pc = .ok (.invokestatic index, 3)) (kk : x_W p l e R s m args below meth c A D wld k n Q σ' (F0 m (pc + 3) ls (.int r :: rest))) : x_W p l e R s m args below meth c A D wld k n Q σ (F0 m pc ls st) := by
  intro H locs hP hD hS
  have hFc := x_fr X.2.2.2.2.2.2.1 hD hS
  refine va_calli (va_runSN (As := As) (rest := rest) ⟨X.1, X.2.1, X.2.2.1, X.2.2.2.1, X.2.2.2.2.1⟩ (hM H.size) cw ⟨x_blind, fun U hU hW => ⟨rfl, by rw [hU], by rw [hU]; exact hP, X.2.2.2.2.2.1.warm hW, hD.weaken (fun _ _ _ _ => trivial)⟩⟩ rfl hn hl.1 hst (lv_room hrm) hdg hkn) hS (fun q _ h => hFc q h) hFc (fun r1 u t H1 locs1 ht hvm hw hB hz1 hk1 hS1 => ?_)
  obtain ⟨hP1, hD1⟩ := hB
  rw [ht] at hP1
  subst hw
  exact kk H1 locs1 hP1 (hD1.weaken (fun _ _ _ h => hFc _ h)) hS1
theorem x_cSNv (X : x_X p s m args meth c cc nL ret own Ts D tys A) {y : MethodName} {bytes : ByteArray} {maxL index nn : Nat} {rt : Option FieldType} {ws : List Cond} {rm : Room} {As st : List Value} {b : Nat} {r : Int32} (hM : x_Mv l y ws rm D tys wld As σ σ') (cw : (va_CN R s args own index y "Creditfabric" bytes maxL rt ws rm 0 0 nn ∧ (Cond.static y).before args s = true ∧ True)) (hn : As.length = nn) (hl : lv_has ls nL lv) (hst : st = As.reverse ++ rest) (hrm : (rest.map fun v => v.category).sum ≤ 8) (hkn : k ≤ R.cells ∧ n ≤ R.slots) (hdg : decode cc pc = .ok (.invokestatic index, 3)) (kk : x_W p l e R s m args below meth c A D wld k n Q σ' (F0 m (pc + 3) ls rest)) : x_W p l e R s m args below meth c A D wld k n Q σ (F0 m pc ls st) := by
  intro H locs hP hD hS
  have hFc := x_fr X.2.2.2.2.2.2.1 hD hS
  refine va_callv (va_runSN (As := As) (rest := rest) ⟨X.1, X.2.1, X.2.2.1, X.2.2.2.1, X.2.2.2.2.1⟩ (hM H.size) cw ⟨x_blind, fun U hU hW => ⟨rfl, by rw [hU], by rw [hU]; exact hP, X.2.2.2.2.2.1.warm hW, hD.weaken (fun _ _ _ _ => trivial)⟩⟩ rfl hn hl.1 hst (lv_room hrm) hdg hkn) hS (fun q _ h => hFc q h) hFc (fun u t H1 locs1 ht hvm hw hB hz1 hk1 hS1 => ?_)
  obtain ⟨hP1, hD1⟩ := hB
  rw [ht] at hP1
  exact kk H1 locs1 hP1 (hD1.weaken (fun _ _ _ h => hFc _ h)) hS1
theorem x_enteri {l : Launch} {y : MethodName} {ws ws' : List Cond} {rm : Room} {D : va_G} {tys : List (ClassId × FieldType)} {wld : CS → va_W} {av : List Value} {σ σ' : CS} {r : Int32} {cc : ByteArray} {nL : Nat} {ty : FieldType} {own : String} (hy : plainName y.cls = true) (hyo : y.cls = own) (hw : ws = Cond.code y cc nL (some ty) :: ws') (hlen : (lg_sl av).length ≤ nL)
    (body : ∀ (p : Program) (e : Env) (s : State) (m : MethodId) (args : Array Value) (below : List Frame) (meth : Method) (c : Code) (A : Nat → Prop), x_X p s m args meth c cc nL (some ty) own ws D tys A → ∀ ls : Array Slot, lv_has ls nL (lv_args 0 av) → x_W p l e rm s m args below meth c A D wld 0 0 (x_Ri below args s A D wld r σ') σ (F0 m 0 ls [])) : x_Mi l y ws rm D tys wld av σ r σ' := by
  intro sz
  refine Met.ofW (cc := cc) (maxL := nL) (ret := some ty) hy hw ?_
  intro p e s m args below meth c s₁ B hml hv
  obtain ⟨rfl, hsz, hP, hK, hD0⟩ := hv
  subst hsz
  subst hyo
  have hD := hD0.self (sz := s.heap.size)
  have hl := lv_entry av (n := nL) hlen
  rw [lg_entry_eq]
  refine body p e s m _ below meth c (va_A (wld σ) s.heap.size) ⟨B.exec, B.bytes, hml, findClass_of_methodNamed B.named, atoms_spec (ws := ws) B.pre, hK, fun q h => Or.inr h, B.returns, B.notSynchronized⟩ _ hl s.heap [] hP hD va_S.rf
theorem x_enterv {l : Launch} {y : MethodName} {ws ws' : List Cond} {rm : Room} {D : va_G} {tys : List (ClassId × FieldType)} {wld : CS → va_W} {av : List Value} {σ σ' : CS} {r : Int32} {cc : ByteArray} {nL : Nat} {ty : FieldType} {own : String} (hy : plainName y.cls = true) (hyo : y.cls = own) (hw : ws = Cond.code y cc nL (none) :: ws') (hlen : (lg_sl av).length ≤ nL)
    (body : ∀ (p : Program) (e : Env) (s : State) (m : MethodId) (args : Array Value) (below : List Frame) (meth : Method) (c : Code) (A : Nat → Prop), x_X p s m args meth c cc nL (none) own ws D tys A → ∀ ls : Array Slot, lv_has ls nL (lv_args 0 av) → x_W p l e rm s m args below meth c A D wld 0 0 (x_Rv below args s A D wld σ') σ (F0 m 0 ls [])) : x_Mv l y ws rm D tys wld av σ σ' := by
  intro sz
  refine Met.ofW (cc := cc) (maxL := nL) (ret := none) hy hw ?_
  intro p e s m args below meth c s₁ B hml hv
  obtain ⟨rfl, hsz, hP, hK, hD0⟩ := hv
  subst hsz
  subst hyo
  have hD := hD0.self (sz := s.heap.size)
  have hl := lv_entry av (n := nL) hlen
  rw [lg_entry_eq]
  refine body p e s m _ below meth c (va_A (wld σ) s.heap.size) ⟨B.exec, B.bytes, hml, findClass_of_methodNamed B.named, atoms_spec (ws := ws) B.pre, hK, fun q h => Or.inr h, B.returns, B.notSynchronized⟩ _ hl s.heap [] hP hD va_S.rf
end XWR
end
