def rm_X8_thrown : Room := { frames := 0, cells := 0, slots := 0, locals := 0 }
theorem in_X8_thrown_X8 : ∀ w ∈ wsX80, w ∈ wsX8_thrown := by decide +kernel
theorem lk_X8_thrown_79 : Cond.fieldLink RX8 79 "CreditfabricModel" "thrown" "I" ∈ wsX8_thrown := by decide +kernel
set_option maxHeartbeats 4000000 in
set_option maxRecDepth 100000 in
theorem c_X8_thrown (l : Launch) (D : va_G) (cI cZ cJ : ClassId) (b : Nat → Nat) (F : Nat) {s s' : CS} {r : Int32} (hf : r_X8_thrown F s = some (r, s')) : x_Mi l yX8_thrown wsX8_thrown rm_X8_thrown D (x_tys cI cZ cJ) (mwld cI cZ b) [.ref (b 0)] s r s' := by
  refine x_enteri (cc := cX8_thrown) (nL := 1) (ty := .int) (own := RX8) (by decide) rfl rfl (Nat.le_of_ble_eq_true rfl) ?_
  intro p e S0 m args below meth c A X ls hl
  have hl : lv_has ls 1 [(0, .ref (b 0))] := hl
  unfold r_X8_thrown at hf
  refine x_aload_n X dX8_thrown_0 rfl hl 0 rfl ?_
  refine x_getf X in_X8_thrown_X8 (mw_o _ _ _ _) rfl 25 (by decide) lk_X8_thrown_79 rfl rfl dX8_thrown_1 ?_
  exact x_iret X rfl rfl hf dX8_thrown_4
def rm_X8_goes : Room := { frames := 0, cells := 0, slots := 0, locals := 0 }
theorem in_X8_goes_X8 : ∀ w ∈ wsX80, w ∈ wsX8_goes := by decide +kernel
theorem lk_X8_goes_79 : Cond.fieldLink RX8 79 "CreditfabricModel" "thrown" "I" ∈ wsX8_goes := by decide +kernel
set_option maxHeartbeats 4000000 in
set_option maxRecDepth 100000 in
theorem b_X8_goes_41 {p : Program} {l : Launch} {e : Env} {S0 : State} {m : MethodId} {args : Array Value} {below : List Frame} {meth : Method} {c : Code} {A : Nat → Prop} {D : va_G} {cI cZ cJ : ClassId} {b : Nat → Nat} (X : x_X p S0 m args meth c cX8_goes 4 (some .boolean) RX8 wsX8_goes D (x_tys cI cZ cJ) A) (F : Nat) {r : Int32} {s' : CS}  : ∀ (t0 : Int32) (s : CS) (ls : Array Slot), r_X8_goes_b41 F t0 s = some (r, s') → lv_has ls 4 [] → x_W p l e rm_X8_goes S0 m args below meth c A D (mwld cI cZ b) 0 0 (x_Ri below args S0 A D (mwld cI cZ b) r s') s (F0 m 41 ls [.int t0]) := by
  intro t0 s ls hf hl
  unfold r_X8_goes_b41 at hf
  obtain ⟨g6, hf⟩ := x_og_of hf
  exact x_iret X rfl (x_bo_of g6) hf dX8_goes_41
set_option maxHeartbeats 4000000 in
set_option maxRecDepth 100000 in
theorem b_X8_goes_26 {p : Program} {l : Launch} {e : Env} {S0 : State} {m : MethodId} {args : Array Value} {below : List Frame} {meth : Method} {c : Code} {A : Nat → Prop} {D : va_G} {cI cZ cJ : ClassId} {b : Nat → Nat} (X : x_X p S0 m args meth c cX8_goes 4 (some .boolean) RX8 wsX8_goes D (x_tys cI cZ cJ) A) (F : Nat) {r : Int32} {s' : CS}  : ∀ (t0 : Int32) (s : CS) (ls : Array Slot), r_X8_goes_b26 F t0 s = some (r, s') → lv_has ls 4 [(0, .ref (b 0))] → x_W p l e rm_X8_goes S0 m args below meth c A D (mwld cI cZ b) 0 0 (x_Ri below args S0 A D (mwld cI cZ b) r s') s (F0 m 26 ls [.int t0, .ref (b 0)]) := by
  intro t0 s ls hf hl
  unfold r_X8_goes_b26 at hf
  refine x_puti X in_X8_goes_X8 (mw_o _ _ _ _) rfl 25 (by decide) tyX8 tyX8_ok nmX8 lk_X8_goes_79 rfl rfl (by decide +kernel) (Nat.le_of_ble_eq_true rfl) (mw_s7 _ _ _ _ _) dX8_goes_26 (fun s4 es4 => ?_)
  have hf := x_os_of es4 hf
  refine x_aload_n X dX8_goes_29 rfl hl 0 rfl ?_
  refine x_getf X in_X8_goes_X8 (mw_o _ _ _ _) rfl 25 (by decide) lk_X8_goes_79 rfl rfl dX8_goes_30 ?_
  refine x_if_ne (tgt := 40) X dX8_goes_33 rfl (fun q5 => ?_) (fun q5 => ?_)
  · have hf := (if_neg q5).symm.trans hf
    refine x_iconst X dX8_goes_40 xk_iconst_0 ?_
    exact b_X8_goes_41 X F (0 : Int32) s4 ls hf (lv_sub hl [] rfl)
  · have hf := (if_pos q5).symm.trans hf
    refine x_iconst X dX8_goes_36 xk_iconst_1 ?_
    refine x_goto (tgt := 41) X dX8_goes_37 rfl ?_
    exact b_X8_goes_41 X F (1 : Int32) s4 ls hf (lv_sub hl [] rfl)
set_option maxHeartbeats 4000000 in
set_option maxRecDepth 100000 in
theorem c_X8_goes (l : Launch) (D : va_G) (cI cZ cJ : ClassId) (b : Nat → Nat) (F : Nat) {s s' : CS} {r : Int32} {x1 x2 x3 : Int32} (hf : r_X8_goes F x1 x2 x3 s = some (r, s')) : x_Mi l yX8_goes wsX8_goes rm_X8_goes D (x_tys cI cZ cJ) (mwld cI cZ b) [.ref (b 0), .int x1, .int x2, .int x3] s r s' := by
  refine x_enteri (cc := cX8_goes) (nL := 4) (ty := .boolean) (own := RX8) (by decide) rfl rfl (Nat.le_of_ble_eq_true rfl) ?_
  intro p e S0 m args below meth c A X ls hl
  have hl : lv_has ls 4 [(0, .ref (b 0)), (1, .int x1), (2, .int x2), (3, .int x3)] := hl
  unfold r_X8_goes at hf
  refine x_aload_n X dX8_goes_0 rfl hl 0 rfl ?_
  refine x_iload_n X dX8_goes_1 rfl hl 1 rfl ?_
  refine x_if_ne (tgt := 9) X dX8_goes_2 rfl (fun q1 => ?_) (fun q1 => ?_)
  · have hf := (if_neg q1).symm.trans hf
    refine x_iload_n X dX8_goes_9 rfl hl 2 rfl ?_
    refine x_if_ne (tgt := 17) X dX8_goes_10 rfl (fun q2 => ?_) (fun q2 => ?_)
    · have hf := (if_neg q2).symm.trans hf
      refine x_iload_n X dX8_goes_17 rfl hl 3 rfl ?_
      refine x_if_ne (tgt := 25) X dX8_goes_18 rfl (fun q3 => ?_) (fun q3 => ?_)
      · have hf := (if_neg q3).symm.trans hf
        refine x_iconst X dX8_goes_25 xk_iconst_0 ?_
        exact b_X8_goes_26 X F (0 : Int32) s ls hf (lv_sub hl [0] rfl)
      · have hf := (if_pos q3).symm.trans hf
        refine x_iconst X dX8_goes_21 xk_iconst_3 ?_
        refine x_goto (tgt := 26) X dX8_goes_22 rfl ?_
        exact b_X8_goes_26 X F (3 : Int32) s ls hf (lv_sub hl [0] rfl)
    · have hf := (if_pos q2).symm.trans hf
      refine x_iconst X dX8_goes_13 xk_iconst_2 ?_
      refine x_goto (tgt := 26) X dX8_goes_14 rfl ?_
      exact b_X8_goes_26 X F (2 : Int32) s ls hf (lv_sub hl [0] rfl)
  · have hf := (if_pos q1).symm.trans hf
    refine x_iconst X dX8_goes_5 xk_iconst_1 ?_
    refine x_goto (tgt := 26) X dX8_goes_6 rfl ?_
    exact b_X8_goes_26 X F (1 : Int32) s ls hf (lv_sub hl [0] rfl)
def rm_X8_isWithin : Room := { frames := 0, cells := 0, slots := 0, locals := 0 }
set_option maxHeartbeats 4000000 in
set_option maxRecDepth 100000 in
theorem b_X8_isWithin_15 {p : Program} {l : Launch} {e : Env} {S0 : State} {m : MethodId} {args : Array Value} {below : List Frame} {meth : Method} {c : Code} {A : Nat → Prop} {D : va_G} {cI cZ cJ : ClassId} {b : Nat → Nat} (X : x_X p S0 m args meth c cX8_isWithin 3 (some .boolean) RX8 wsX8_isWithin D (x_tys cI cZ cJ) A) (F : Nat) {r : Int32} {s' : CS}  : ∀ (t0 : Int32) (s : CS) (ls : Array Slot), r_X8_isWithin_b15 F t0 s = some (r, s') → lv_has ls 3 [] → x_W p l e rm_X8_isWithin S0 m args below meth c A D (mwld cI cZ b) 0 0 (x_Ri below args S0 A D (mwld cI cZ b) r s') s (F0 m 15 ls [.int t0]) := by
  intro t0 s ls hf hl
  unfold r_X8_isWithin_b15 at hf
  obtain ⟨g2, hf⟩ := x_og_of hf
  exact x_iret X rfl (x_bo_of g2) hf dX8_isWithin_15
set_option maxHeartbeats 4000000 in
set_option maxRecDepth 100000 in
theorem b_X8_isWithin_14 {p : Program} {l : Launch} {e : Env} {S0 : State} {m : MethodId} {args : Array Value} {below : List Frame} {meth : Method} {c : Code} {A : Nat → Prop} {D : va_G} {cI cZ cJ : ClassId} {b : Nat → Nat} (X : x_X p S0 m args meth c cX8_isWithin 3 (some .boolean) RX8 wsX8_isWithin D (x_tys cI cZ cJ) A) (F : Nat) {r : Int32} {s' : CS}  : ∀ (s : CS) (ls : Array Slot), r_X8_isWithin_b14 F s = some (r, s') → lv_has ls 3 [] → x_W p l e rm_X8_isWithin S0 m args below meth c A D (mwld cI cZ b) 0 0 (x_Ri below args S0 A D (mwld cI cZ b) r s') s (F0 m 14 ls []) := by
  intro s ls hf hl
  unfold r_X8_isWithin_b14 at hf
  refine x_iconst X dX8_isWithin_14 xk_iconst_0 ?_
  exact b_X8_isWithin_15 X F (0 : Int32) s ls hf (lv_sub hl [] rfl)
set_option maxHeartbeats 4000000 in
set_option maxRecDepth 100000 in
theorem c_X8_isWithin (l : Launch) (D : va_G) (cI cZ cJ : ClassId) (b : Nat → Nat) (F : Nat) {s s' : CS} {r : Int32} {x0 x1 x2 : Int32} (hf : r_X8_isWithin F x0 x1 x2 s = some (r, s')) : x_Mi l yX8_isWithin wsX8_isWithin rm_X8_isWithin D (x_tys cI cZ cJ) (mwld cI cZ b) [.int x0, .int x1, .int x2] s r s' := by
  refine x_enteri (cc := cX8_isWithin) (nL := 3) (ty := .boolean) (own := RX8) (by decide) rfl rfl (Nat.le_of_ble_eq_true rfl) ?_
  intro p e S0 m args below meth c A X ls hl
  have hl : lv_has ls 3 [(0, .int x0), (1, .int x1), (2, .int x2)] := hl
  unfold r_X8_isWithin at hf
  refine x_iload_n X dX8_isWithin_0 rfl hl 0 rfl ?_
  refine x_iload_n X dX8_isWithin_1 rfl hl 1 rfl ?_
  refine x_icmp_lt (tgt := 14) X dX8_isWithin_2 rfl (fun q1 => ?_) (fun q1 => ?_)
  · have hf := (if_pos q1).symm.trans hf
    exact b_X8_isWithin_14 X F s ls hf (lv_sub hl [] rfl)
  · have hf := (if_neg q1).symm.trans hf
    refine x_iload_n X dX8_isWithin_5 rfl hl 0 rfl ?_
    refine x_iload_n X dX8_isWithin_6 rfl hl 2 rfl ?_
    refine x_icmp_gt (tgt := 14) X dX8_isWithin_7 rfl (fun q3 => ?_) (fun q3 => ?_)
    · have hf := (if_pos q3).symm.trans hf
      exact b_X8_isWithin_14 X F s ls hf (lv_sub hl [] rfl)
    · have hf := (if_neg q3).symm.trans hf
      refine x_iconst X dX8_isWithin_10 xk_iconst_1 ?_
      refine x_goto (tgt := 15) X dX8_isWithin_11 rfl ?_
      exact b_X8_isWithin_15 X F (1 : Int32) s ls hf (lv_sub hl [] rfl)
def rm_X8_isSwitch : Room := { frames := 0, cells := 0, slots := 0, locals := 0 }
theorem in_X8_isSwitch_X8 : ∀ w ∈ wsX80, w ∈ wsX8_isSwitch := by decide +kernel
theorem lk_X8_isSwitch_7 : Cond.fieldLink RX8 7 "CreditfabricModel" "columns" "I" ∈ wsX8_isSwitch := by decide +kernel
theorem lk_X8_isSwitch_13 : Cond.fieldLink RX8 13 "CreditfabricModel" "rows" "I" ∈ wsX8_isSwitch := by decide +kernel
set_option maxHeartbeats 4000000 in
set_option maxRecDepth 100000 in
theorem b_X8_isSwitch_22 {p : Program} {l : Launch} {e : Env} {S0 : State} {m : MethodId} {args : Array Value} {below : List Frame} {meth : Method} {c : Code} {A : Nat → Prop} {D : va_G} {cI cZ cJ : ClassId} {b : Nat → Nat} (X : x_X p S0 m args meth c cX8_isSwitch 2 (some .boolean) RX8 wsX8_isSwitch D (x_tys cI cZ cJ) A) (F : Nat) {r : Int32} {s' : CS}  : ∀ (t0 : Int32) (s : CS) (ls : Array Slot), r_X8_isSwitch_b22 F t0 s = some (r, s') → lv_has ls 2 [] → x_W p l e rm_X8_isSwitch S0 m args below meth c A D (mwld cI cZ b) 0 0 (x_Ri below args S0 A D (mwld cI cZ b) r s') s (F0 m 22 ls [.int t0]) := by
  intro t0 s ls hf hl
  unfold r_X8_isSwitch_b22 at hf
  obtain ⟨g2, hf⟩ := x_og_of hf
  exact x_iret X rfl (x_bo_of g2) hf dX8_isSwitch_22
set_option maxHeartbeats 4000000 in
set_option maxRecDepth 100000 in
theorem b_X8_isSwitch_21 {p : Program} {l : Launch} {e : Env} {S0 : State} {m : MethodId} {args : Array Value} {below : List Frame} {meth : Method} {c : Code} {A : Nat → Prop} {D : va_G} {cI cZ cJ : ClassId} {b : Nat → Nat} (X : x_X p S0 m args meth c cX8_isSwitch 2 (some .boolean) RX8 wsX8_isSwitch D (x_tys cI cZ cJ) A) (F : Nat) {r : Int32} {s' : CS}  : ∀ (s : CS) (ls : Array Slot), r_X8_isSwitch_b21 F s = some (r, s') → lv_has ls 2 [] → x_W p l e rm_X8_isSwitch S0 m args below meth c A D (mwld cI cZ b) 0 0 (x_Ri below args S0 A D (mwld cI cZ b) r s') s (F0 m 21 ls []) := by
  intro s ls hf hl
  unfold r_X8_isSwitch_b21 at hf
  refine x_iconst X dX8_isSwitch_21 xk_iconst_0 ?_
  exact b_X8_isSwitch_22 X F (0 : Int32) s ls hf (lv_sub hl [] rfl)
set_option maxHeartbeats 4000000 in
set_option maxRecDepth 100000 in
theorem c_X8_isSwitch (l : Launch) (D : va_G) (cI cZ cJ : ClassId) (b : Nat → Nat) (F : Nat) {s s' : CS} {r : Int32} {x1 : Int32} (hf : r_X8_isSwitch F x1 s = some (r, s')) : x_Mi l yX8_isSwitch wsX8_isSwitch rm_X8_isSwitch D (x_tys cI cZ cJ) (mwld cI cZ b) [.ref (b 0), .int x1] s r s' := by
  refine x_enteri (cc := cX8_isSwitch) (nL := 2) (ty := .boolean) (own := RX8) (by decide) rfl rfl (Nat.le_of_ble_eq_true rfl) ?_
  intro p e S0 m args below meth c A X ls hl
  have hl : lv_has ls 2 [(0, .ref (b 0)), (1, .int x1)] := hl
  unfold r_X8_isSwitch at hf
  refine x_iload_n X dX8_isSwitch_0 rfl hl 1 rfl ?_
  refine x_if_lt (tgt := 21) X dX8_isSwitch_1 rfl (fun q1 => ?_) (fun q1 => ?_)
  · have hf := (if_pos q1).symm.trans hf
    exact b_X8_isSwitch_21 X F s ls hf (lv_sub hl [] rfl)
  · have hf := (if_neg q1).symm.trans hf
    refine x_iload_n X dX8_isSwitch_4 rfl hl 1 rfl ?_
    refine x_aload_n X dX8_isSwitch_5 rfl hl 0 rfl ?_
    refine x_getf X in_X8_isSwitch_X8 (mw_o _ _ _ _) rfl 0 (by decide) lk_X8_isSwitch_7 rfl rfl dX8_isSwitch_6 ?_
    refine x_aload_n X dX8_isSwitch_9 rfl hl 0 rfl ?_
    refine x_getf X in_X8_isSwitch_X8 (mw_o _ _ _ _) rfl 1 (by decide) lk_X8_isSwitch_13 rfl rfl dX8_isSwitch_10 ?_
    refine x_imul X dX8_isSwitch_13 ?_
    refine x_icmp_ge (tgt := 21) X dX8_isSwitch_14 rfl (fun q3 => ?_) (fun q3 => ?_)
    · have hf := (if_pos q3).symm.trans hf
      exact b_X8_isSwitch_21 X F s ls hf (lv_sub hl [] rfl)
    · have hf := (if_neg q3).symm.trans hf
      refine x_iconst X dX8_isSwitch_17 xk_iconst_1 ?_
      refine x_goto (tgt := 22) X dX8_isSwitch_18 rfl ?_
      exact b_X8_isSwitch_22 X F (1 : Int32) s ls hf (lv_sub hl [] rfl)
def rm_X8_isPacket : Room := { frames := 0, cells := 0, slots := 0, locals := 0 }
theorem in_X8_isPacket_X8 : ∀ w ∈ wsX80, w ∈ wsX8_isPacket := by decide +kernel
theorem lk_X8_isPacket_82 : Cond.fieldLink RX8 82 "CreditfabricModel" "sent" "I" ∈ wsX8_isPacket := by decide +kernel
set_option maxHeartbeats 4000000 in
set_option maxRecDepth 100000 in
theorem b_X8_isPacket_17 {p : Program} {l : Launch} {e : Env} {S0 : State} {m : MethodId} {args : Array Value} {below : List Frame} {meth : Method} {c : Code} {A : Nat → Prop} {D : va_G} {cI cZ cJ : ClassId} {b : Nat → Nat} (X : x_X p S0 m args meth c cX8_isPacket 2 (some .boolean) RX8 wsX8_isPacket D (x_tys cI cZ cJ) A) (F : Nat) {r : Int32} {s' : CS}  : ∀ (t0 : Int32) (s : CS) (ls : Array Slot), r_X8_isPacket_b17 F t0 s = some (r, s') → lv_has ls 2 [] → x_W p l e rm_X8_isPacket S0 m args below meth c A D (mwld cI cZ b) 0 0 (x_Ri below args S0 A D (mwld cI cZ b) r s') s (F0 m 17 ls [.int t0]) := by
  intro t0 s ls hf hl
  unfold r_X8_isPacket_b17 at hf
  obtain ⟨g2, hf⟩ := x_og_of hf
  exact x_iret X rfl (x_bo_of g2) hf dX8_isPacket_17
set_option maxHeartbeats 4000000 in
set_option maxRecDepth 100000 in
theorem b_X8_isPacket_16 {p : Program} {l : Launch} {e : Env} {S0 : State} {m : MethodId} {args : Array Value} {below : List Frame} {meth : Method} {c : Code} {A : Nat → Prop} {D : va_G} {cI cZ cJ : ClassId} {b : Nat → Nat} (X : x_X p S0 m args meth c cX8_isPacket 2 (some .boolean) RX8 wsX8_isPacket D (x_tys cI cZ cJ) A) (F : Nat) {r : Int32} {s' : CS}  : ∀ (s : CS) (ls : Array Slot), r_X8_isPacket_b16 F s = some (r, s') → lv_has ls 2 [] → x_W p l e rm_X8_isPacket S0 m args below meth c A D (mwld cI cZ b) 0 0 (x_Ri below args S0 A D (mwld cI cZ b) r s') s (F0 m 16 ls []) := by
  intro s ls hf hl
  unfold r_X8_isPacket_b16 at hf
  refine x_iconst X dX8_isPacket_16 xk_iconst_0 ?_
  exact b_X8_isPacket_17 X F (0 : Int32) s ls hf (lv_sub hl [] rfl)
set_option maxHeartbeats 4000000 in
set_option maxRecDepth 100000 in
theorem c_X8_isPacket (l : Launch) (D : va_G) (cI cZ cJ : ClassId) (b : Nat → Nat) (F : Nat) {s s' : CS} {r : Int32} {x1 : Int32} (hf : r_X8_isPacket F x1 s = some (r, s')) : x_Mi l yX8_isPacket wsX8_isPacket rm_X8_isPacket D (x_tys cI cZ cJ) (mwld cI cZ b) [.ref (b 0), .int x1] s r s' := by
  refine x_enteri (cc := cX8_isPacket) (nL := 2) (ty := .boolean) (own := RX8) (by decide) rfl rfl (Nat.le_of_ble_eq_true rfl) ?_
  intro p e S0 m args below meth c A X ls hl
  have hl : lv_has ls 2 [(0, .ref (b 0)), (1, .int x1)] := hl
  unfold r_X8_isPacket at hf
  refine x_iload_n X dX8_isPacket_0 rfl hl 1 rfl ?_
  refine x_if_lt (tgt := 16) X dX8_isPacket_1 rfl (fun q1 => ?_) (fun q1 => ?_)
  · have hf := (if_pos q1).symm.trans hf
    exact b_X8_isPacket_16 X F s ls hf (lv_sub hl [] rfl)
  · have hf := (if_neg q1).symm.trans hf
    refine x_iload_n X dX8_isPacket_4 rfl hl 1 rfl ?_
    refine x_aload_n X dX8_isPacket_5 rfl hl 0 rfl ?_
    refine x_getf X in_X8_isPacket_X8 (mw_o _ _ _ _) rfl 5 (by decide) lk_X8_isPacket_82 rfl rfl dX8_isPacket_6 ?_
    refine x_icmp_ge (tgt := 16) X dX8_isPacket_9 rfl (fun q3 => ?_) (fun q3 => ?_)
    · have hf := (if_pos q3).symm.trans hf
      exact b_X8_isPacket_16 X F s ls hf (lv_sub hl [] rfl)
    · have hf := (if_neg q3).symm.trans hf
      refine x_iconst X dX8_isPacket_12 xk_iconst_1 ?_
      refine x_goto (tgt := 17) X dX8_isPacket_13 rfl ?_
      exact b_X8_isPacket_17 X F (1 : Int32) s ls hf (lv_sub hl [] rfl)
def rm_X8_bufferOf : Room := { frames := 0, cells := 0, slots := 0, locals := 0 }
set_option maxHeartbeats 4000000 in
set_option maxRecDepth 100000 in
theorem c_X8_bufferOf (l : Launch) (D : va_G) (cI cZ cJ : ClassId) (b : Nat → Nat) (F : Nat) {s s' : CS} {r : Int32} {x0 x1 x2 : Int32} (hf : r_X8_bufferOf F x0 x1 x2 s = some (r, s')) : x_Mi l yX8_bufferOf wsX8_bufferOf rm_X8_bufferOf D (x_tys cI cZ cJ) (mwld cI cZ b) [.int x0, .int x1, .int x2] s r s' := by
  refine x_enteri (cc := cX8_bufferOf) (nL := 3) (ty := .int) (own := RX8) (by decide) rfl rfl (Nat.le_of_ble_eq_true rfl) ?_
  intro p e S0 m args below meth c A X ls hl
  have hl : lv_has ls 3 [(0, .int x0), (1, .int x1), (2, .int x2)] := hl
  unfold r_X8_bufferOf at hf
  refine x_iload_n X dX8_bufferOf_0 rfl hl 0 rfl ?_
  refine x_iconst X dX8_bufferOf_1 xk_iconst_5 ?_
  refine x_imul X dX8_bufferOf_2 ?_
  refine x_iload_n X dX8_bufferOf_3 rfl hl 1 rfl ?_
  refine x_iadd X dX8_bufferOf_4 ?_
  refine x_iconst X dX8_bufferOf_5 xk_iconst_2 ?_
  refine x_imul X dX8_bufferOf_6 ?_
  refine x_iload_n X dX8_bufferOf_7 rfl hl 2 rfl ?_
  refine x_iadd X dX8_bufferOf_8 ?_
  exact x_iret X rfl rfl hf dX8_bufferOf_9
def rm_X8_linkOf : Room := { frames := 0, cells := 0, slots := 0, locals := 0 }
set_option maxHeartbeats 4000000 in
set_option maxRecDepth 100000 in
theorem c_X8_linkOf (l : Launch) (D : va_G) (cI cZ cJ : ClassId) (b : Nat → Nat) (F : Nat) {s s' : CS} {r : Int32} {x0 x1 x2 : Int32} (hf : r_X8_linkOf F x0 x1 x2 s = some (r, s')) : x_Mi l yX8_linkOf wsX8_linkOf rm_X8_linkOf D (x_tys cI cZ cJ) (mwld cI cZ b) [.int x0, .int x1, .int x2] s r s' := by
  refine x_enteri (cc := cX8_linkOf) (nL := 3) (ty := .int) (own := RX8) (by decide) rfl rfl (Nat.le_of_ble_eq_true rfl) ?_
  intro p e S0 m args below meth c A X ls hl
  have hl : lv_has ls 3 [(0, .int x0), (1, .int x1), (2, .int x2)] := hl
  unfold r_X8_linkOf at hf
  refine x_iload_n X dX8_linkOf_0 rfl hl 0 rfl ?_
  refine x_iconst X dX8_linkOf_1 xk_iconst_4 ?_
  refine x_imul X dX8_linkOf_2 ?_
  refine x_iload_n X dX8_linkOf_3 rfl hl 1 rfl ?_
  refine x_iadd X dX8_linkOf_4 ?_
  refine x_iconst X dX8_linkOf_5 xk_iconst_2 ?_
  refine x_imul X dX8_linkOf_6 ?_
  refine x_iload_n X dX8_linkOf_7 rfl hl 2 rfl ?_
  refine x_iadd X dX8_linkOf_8 ?_
  exact x_iret X rfl rfl hf dX8_linkOf_9
def rm_X8_neighbour : Room := { frames := 0, cells := 0, slots := 0, locals := 0 }
theorem in_X8_neighbour_X8 : ∀ w ∈ wsX80, w ∈ wsX8_neighbour := by decide +kernel
theorem lk_X8_neighbour_7 : Cond.fieldLink RX8 7 "CreditfabricModel" "columns" "I" ∈ wsX8_neighbour := by decide +kernel
theorem lk_X8_neighbour_13 : Cond.fieldLink RX8 13 "CreditfabricModel" "rows" "I" ∈ wsX8_neighbour := by decide +kernel
set_option maxHeartbeats 4000000 in
set_option maxRecDepth 100000 in
theorem b_X8_neighbour_105 {p : Program} {l : Launch} {e : Env} {S0 : State} {m : MethodId} {args : Array Value} {below : List Frame} {meth : Method} {c : Code} {A : Nat → Prop} {D : va_G} {cI cZ cJ : ClassId} {b : Nat → Nat} (X : x_X p S0 m args meth c cX8_neighbour 6 (some .int) RX8 wsX8_neighbour D (x_tys cI cZ cJ) A) (F : Nat) {r : Int32} {s' : CS}  : ∀ (t0 : Int32) (s : CS) (ls : Array Slot), r_X8_neighbour_b105 F t0 s = some (r, s') → lv_has ls 6 [] → x_W p l e rm_X8_neighbour S0 m args below meth c A D (mwld cI cZ b) 0 0 (x_Ri below args S0 A D (mwld cI cZ b) r s') s (F0 m 105 ls [.int t0]) := by
  intro t0 s ls hf hl
  unfold r_X8_neighbour_b105 at hf
  exact x_iret X rfl rfl hf dX8_neighbour_105
set_option maxHeartbeats 4000000 in
set_option maxRecDepth 100000 in
theorem b_X8_neighbour_85 {p : Program} {l : Launch} {e : Env} {S0 : State} {m : MethodId} {args : Array Value} {below : List Frame} {meth : Method} {c : Code} {A : Nat → Prop} {D : va_G} {cI cZ cJ : ClassId} {b : Nat → Nat} (X : x_X p S0 m args meth c cX8_neighbour 6 (some .int) RX8 wsX8_neighbour D (x_tys cI cZ cJ) A) (F : Nat) {r : Int32} {s' : CS}  : ∀ (x3 x4 t0 : Int32) (s : CS) (ls : Array Slot), r_X8_neighbour_b85 F x3 x4 t0 s = some (r, s') → lv_has ls 6 [(0, .ref (b 0)), (3, .int x3), (4, .int x4)] → x_W p l e rm_X8_neighbour S0 m args below meth c A D (mwld cI cZ b) 0 0 (x_Ri below args S0 A D (mwld cI cZ b) r s') s (F0 m 85 ls [.int t0]) := by
  intro x3 x4 t0 s ls hf hl
  unfold r_X8_neighbour_b85 at hf
  refine x_istoreA (lv' := [(5, .int t0), (0, .ref (b 0)), (3, .int x3), (4, .int x4)]) X dX8_neighbour_85 hl (by decide) rfl (fun ls hl => ?_)
  refine x_iload X dX8_neighbour_87 hl 0 rfl ?_
  refine x_if_eq (tgt := 104) X dX8_neighbour_89 rfl (fun q10 => ?_) (fun q10 => ?_)
  · have hf := (if_pos q10).symm.trans hf
    refine x_iconst X dX8_neighbour_104 xk_iconst_m1 ?_
    exact b_X8_neighbour_105 X F (-1 : Int32) s ls hf (lv_sub hl [] rfl)
  · have hf := (if_neg q10).symm.trans hf
    refine x_iload X dX8_neighbour_92 hl 3 rfl ?_
    refine x_aload_n X dX8_neighbour_94 rfl hl 1 rfl ?_
    refine x_getf X in_X8_neighbour_X8 (mw_o _ _ _ _) rfl 0 (by decide) lk_X8_neighbour_7 rfl rfl dX8_neighbour_95 ?_
    refine x_imul X dX8_neighbour_98 ?_
    refine x_iload_n X dX8_neighbour_99 rfl hl 2 rfl ?_
    refine x_iadd X dX8_neighbour_100 ?_
    refine x_goto (tgt := 105) X dX8_neighbour_101 rfl ?_
    exact b_X8_neighbour_105 X F ((x4 * (s 18 0)) + x3) s ls hf (lv_sub hl [] rfl)
set_option maxHeartbeats 4000000 in
set_option maxRecDepth 100000 in
theorem b_X8_neighbour_84 {p : Program} {l : Launch} {e : Env} {S0 : State} {m : MethodId} {args : Array Value} {below : List Frame} {meth : Method} {c : Code} {A : Nat → Prop} {D : va_G} {cI cZ cJ : ClassId} {b : Nat → Nat} (X : x_X p S0 m args meth c cX8_neighbour 6 (some .int) RX8 wsX8_neighbour D (x_tys cI cZ cJ) A) (F : Nat) {r : Int32} {s' : CS}  : ∀ (x3 x4 : Int32) (s : CS) (ls : Array Slot), r_X8_neighbour_b84 F x3 x4 s = some (r, s') → lv_has ls 6 [(0, .ref (b 0)), (3, .int x3), (4, .int x4)] → x_W p l e rm_X8_neighbour S0 m args below meth c A D (mwld cI cZ b) 0 0 (x_Ri below args S0 A D (mwld cI cZ b) r s') s (F0 m 84 ls []) := by
  intro x3 x4 s ls hf hl
  unfold r_X8_neighbour_b84 at hf
  refine x_iconst X dX8_neighbour_84 xk_iconst_0 ?_
  exact b_X8_neighbour_85 X F x3 x4 (0 : Int32) s ls hf (lv_sub hl [0, 1, 2] rfl)
set_option maxHeartbeats 4000000 in
set_option maxRecDepth 100000 in
theorem b_X8_neighbour_51 {p : Program} {l : Launch} {e : Env} {S0 : State} {m : MethodId} {args : Array Value} {below : List Frame} {meth : Method} {c : Code} {A : Nat → Prop} {D : va_G} {cI cZ cJ : ClassId} {b : Nat → Nat} (X : x_X p S0 m args meth c cX8_neighbour 6 (some .int) RX8 wsX8_neighbour D (x_tys cI cZ cJ) A) (F : Nat) {r : Int32} {s' : CS}  : ∀ (x3 t0 t1 : Int32) (s : CS) (ls : Array Slot), r_X8_neighbour_b51 F x3 t0 t1 s = some (r, s') → lv_has ls 6 [(0, .ref (b 0)), (3, .int x3)] → x_W p l e rm_X8_neighbour S0 m args below meth c A D (mwld cI cZ b) 0 0 (x_Ri below args S0 A D (mwld cI cZ b) r s') s (F0 m 51 ls [.int t0, .int t1]) := by
  intro x3 t0 t1 s ls hf hl
  unfold r_X8_neighbour_b51 at hf
  refine x_iadd X dX8_neighbour_51 ?_
  refine x_istore (lv' := [(0, .ref (b 0)), (3, .int x3)]) X dX8_neighbour_52 hl (by decide) (fun _ => rfl) (fun x4_8 ls ex4_8 hl => ?_)
  have hf := x_oi_of ex4_8 hf
  refine x_iload_n X dX8_neighbour_54 rfl hl 2 rfl ?_
  refine x_if_lt (tgt := 84) X dX8_neighbour_55 rfl (fun q9 => ?_) (fun q9 => ?_)
  · have hf := (if_pos q9).symm.trans hf
    exact b_X8_neighbour_84 X F x3 x4_8 s ls hf (lv_sub hl [1, 2, 0] rfl)
  · have hf := (if_neg q9).symm.trans hf
    refine x_iload_n X dX8_neighbour_58 rfl hl 2 rfl ?_
    refine x_aload_n X dX8_neighbour_59 rfl hl 1 rfl ?_
    refine x_getf X in_X8_neighbour_X8 (mw_o _ _ _ _) rfl 0 (by decide) lk_X8_neighbour_7 rfl rfl dX8_neighbour_60 ?_
    refine x_icmp_ge (tgt := 84) X dX8_neighbour_63 rfl (fun q11 => ?_) (fun q11 => ?_)
    · have hf := (if_pos q11).symm.trans hf
      exact b_X8_neighbour_84 X F x3 x4_8 s ls hf (lv_sub hl [1, 2, 0] rfl)
    · have hf := (if_neg q11).symm.trans hf
      refine x_iload X dX8_neighbour_66 hl 0 rfl ?_
      refine x_if_lt (tgt := 84) X dX8_neighbour_68 rfl (fun q12 => ?_) (fun q12 => ?_)
      · have hf := (if_pos q12).symm.trans hf
        exact b_X8_neighbour_84 X F x3 x4_8 s ls hf (lv_sub hl [1, 2, 0] rfl)
      · have hf := (if_neg q12).symm.trans hf
        refine x_iload X dX8_neighbour_71 hl 0 rfl ?_
        refine x_aload_n X dX8_neighbour_73 rfl hl 1 rfl ?_
        refine x_getf X in_X8_neighbour_X8 (mw_o _ _ _ _) rfl 1 (by decide) lk_X8_neighbour_13 rfl rfl dX8_neighbour_74 ?_
        refine x_icmp_ge (tgt := 84) X dX8_neighbour_77 rfl (fun q13 => ?_) (fun q13 => ?_)
        · have hf := (if_pos q13).symm.trans hf
          exact b_X8_neighbour_84 X F x3 x4_8 s ls hf (lv_sub hl [1, 2, 0] rfl)
        · have hf := (if_neg q13).symm.trans hf
          refine x_iconst X dX8_neighbour_80 xk_iconst_1 ?_
          refine x_goto (tgt := 85) X dX8_neighbour_81 rfl ?_
          exact b_X8_neighbour_85 X F x3 x4_8 (1 : Int32) s ls hf (lv_sub hl [1, 2, 0] rfl)
set_option maxHeartbeats 4000000 in
set_option maxRecDepth 100000 in
theorem b_X8_neighbour_24 {p : Program} {l : Launch} {e : Env} {S0 : State} {m : MethodId} {args : Array Value} {below : List Frame} {meth : Method} {c : Code} {A : Nat → Prop} {D : va_G} {cI cZ cJ : ClassId} {b : Nat → Nat} (X : x_X p S0 m args meth c cX8_neighbour 6 (some .int) RX8 wsX8_neighbour D (x_tys cI cZ cJ) A) (F : Nat) {r : Int32} {s' : CS}  : ∀ (x1 x2 t0 t1 : Int32) (s : CS) (ls : Array Slot), r_X8_neighbour_b24 F x1 x2 t0 t1 s = some (r, s') → lv_has ls 6 [(0, .ref (b 0)), (1, .int x1), (2, .int x2)] → x_W p l e rm_X8_neighbour S0 m args below meth c A D (mwld cI cZ b) 0 0 (x_Ri below args S0 A D (mwld cI cZ b) r s') s (F0 m 24 ls [.int t0, .int t1]) := by
  intro x1 x2 t0 t1 s ls hf hl
  unfold r_X8_neighbour_b24 at hf
  refine x_iadd X dX8_neighbour_24 ?_
  refine x_istore_n (lv' := [(0, .ref (b 0)), (1, .int x1), (2, .int x2)]) X dX8_neighbour_25 rfl hl (by decide) (fun _ => rfl) (fun x3_4 ls ex3_4 hl => ?_)
  have hf := x_oi_of ex3_4 hf
  refine x_iload_n X dX8_neighbour_26 rfl hl 2 rfl ?_
  refine x_aload_n X dX8_neighbour_27 rfl hl 1 rfl ?_
  refine x_getf X in_X8_neighbour_X8 (mw_o _ _ _ _) rfl 0 (by decide) lk_X8_neighbour_7 rfl rfl dX8_neighbour_28 ?_
  obtain ⟨g5, hf⟩ := x_og_of hf
  refine x_idiv X dX8_neighbour_31 (x_nz_of g5) ?_
  refine x_iload_n X dX8_neighbour_32 rfl hl 3 rfl ?_
  refine x_iconst X dX8_neighbour_33 xk_iconst_1 ?_
  refine x_icmp_ne (tgt := 41) X dX8_neighbour_34 rfl (fun q6 => ?_) (fun q6 => ?_)
  · have hf := (if_neg q6).symm.trans hf
    refine x_iload_n X dX8_neighbour_41 rfl hl 3 rfl ?_
    refine x_iconst X dX8_neighbour_42 xk_iconst_3 ?_
    refine x_icmp_ne (tgt := 50) X dX8_neighbour_43 rfl (fun q7 => ?_) (fun q7 => ?_)
    · have hf := (if_neg q7).symm.trans hf
      refine x_iconst X dX8_neighbour_50 xk_iconst_0 ?_
      exact b_X8_neighbour_51 X F x3_4 (0 : Int32) (x1 / (s 18 0)) s ls hf (lv_sub hl [1, 0] rfl)
    · have hf := (if_pos q7).symm.trans hf
      refine x_iconst X dX8_neighbour_46 xk_iconst_m1 ?_
      refine x_goto (tgt := 51) X dX8_neighbour_47 rfl ?_
      exact b_X8_neighbour_51 X F x3_4 (-1 : Int32) (x1 / (s 18 0)) s ls hf (lv_sub hl [1, 0] rfl)
  · have hf := (if_pos q6).symm.trans hf
    refine x_iconst X dX8_neighbour_37 xk_iconst_1 ?_
    refine x_goto (tgt := 51) X dX8_neighbour_38 rfl ?_
    exact b_X8_neighbour_51 X F x3_4 (1 : Int32) (x1 / (s 18 0)) s ls hf (lv_sub hl [1, 0] rfl)
set_option maxHeartbeats 4000000 in
set_option maxRecDepth 100000 in
theorem c_X8_neighbour (l : Launch) (D : va_G) (cI cZ cJ : ClassId) (b : Nat → Nat) (F : Nat) {s s' : CS} {r : Int32} {x1 x2 : Int32} (hf : r_X8_neighbour F x1 x2 s = some (r, s')) : x_Mi l yX8_neighbour wsX8_neighbour rm_X8_neighbour D (x_tys cI cZ cJ) (mwld cI cZ b) [.ref (b 0), .int x1, .int x2] s r s' := by
  refine x_enteri (cc := cX8_neighbour) (nL := 6) (ty := .int) (own := RX8) (by decide) rfl rfl (Nat.le_of_ble_eq_true rfl) ?_
  intro p e S0 m args below meth c A X ls hl
  have hl : lv_has ls 6 [(0, .ref (b 0)), (1, .int x1), (2, .int x2)] := hl
  unfold r_X8_neighbour at hf
  refine x_iload_n X dX8_neighbour_0 rfl hl 1 rfl ?_
  refine x_aload_n X dX8_neighbour_1 rfl hl 0 rfl ?_
  refine x_getf X in_X8_neighbour_X8 (mw_o _ _ _ _) rfl 0 (by decide) lk_X8_neighbour_7 rfl rfl dX8_neighbour_2 ?_
  obtain ⟨g1, hf⟩ := x_og_of hf
  refine x_irem X dX8_neighbour_5 (x_nz_of g1) ?_
  refine x_iload_n X dX8_neighbour_6 rfl hl 2 rfl ?_
  refine x_if_ne (tgt := 14) X dX8_neighbour_7 rfl (fun q2 => ?_) (fun q2 => ?_)
  · have hf := (if_neg q2).symm.trans hf
    refine x_iload_n X dX8_neighbour_14 rfl hl 2 rfl ?_
    refine x_iconst X dX8_neighbour_15 xk_iconst_2 ?_
    refine x_icmp_ne (tgt := 23) X dX8_neighbour_16 rfl (fun q3 => ?_) (fun q3 => ?_)
    · have hf := (if_neg q3).symm.trans hf
      refine x_iconst X dX8_neighbour_23 xk_iconst_0 ?_
      exact b_X8_neighbour_24 X F x1 x2 (0 : Int32) (x_rem x1 (s 18 0)) s ls hf (lv_sub hl [0, 1, 2] rfl)
    · have hf := (if_pos q3).symm.trans hf
      refine x_iconst X dX8_neighbour_19 xk_iconst_m1 ?_
      refine x_goto (tgt := 24) X dX8_neighbour_20 rfl ?_
      exact b_X8_neighbour_24 X F x1 x2 (-1 : Int32) (x_rem x1 (s 18 0)) s ls hf (lv_sub hl [0, 1, 2] rfl)
  · have hf := (if_pos q2).symm.trans hf
    refine x_iconst X dX8_neighbour_10 xk_iconst_1 ?_
    refine x_goto (tgt := 24) X dX8_neighbour_11 rfl ?_
    exact b_X8_neighbour_24 X F x1 x2 (1 : Int32) (x_rem x1 (s 18 0)) s ls hf (lv_sub hl [0, 1, 2] rfl)
def rm_X8_isLink : Room := { frames := 1, cells := 0, slots := 0, locals := 25 }
set_option maxHeartbeats 4000000 in
set_option maxRecDepth 100000 in
theorem b_X8_isLink_31 {p : Program} {l : Launch} {e : Env} {S0 : State} {m : MethodId} {args : Array Value} {below : List Frame} {meth : Method} {c : Code} {A : Nat → Prop} {D : va_G} {cI cZ cJ : ClassId} {b : Nat → Nat} (X : x_X p S0 m args meth c cX8_isLink 3 (some .boolean) RX8 wsX8_isLink D (x_tys cI cZ cJ) A) (F : Nat) {r : Int32} {s' : CS}  : ∀ (t0 : Int32) (s : CS) (ls : Array Slot), r_X8_isLink_b31 F t0 s = some (r, s') → lv_has ls 3 [] → x_W p l e rm_X8_isLink S0 m args below meth c A D (mwld cI cZ b) 0 0 (x_Ri below args S0 A D (mwld cI cZ b) r s') s (F0 m 31 ls [.int t0]) := by
  intro t0 s ls hf hl
  unfold r_X8_isLink_b31 at hf
  obtain ⟨g5, hf⟩ := x_og_of hf
  exact x_iret X rfl (x_bo_of g5) hf dX8_isLink_31
set_option maxHeartbeats 4000000 in
set_option maxRecDepth 100000 in
theorem b_X8_isLink_30 {p : Program} {l : Launch} {e : Env} {S0 : State} {m : MethodId} {args : Array Value} {below : List Frame} {meth : Method} {c : Code} {A : Nat → Prop} {D : va_G} {cI cZ cJ : ClassId} {b : Nat → Nat} (X : x_X p S0 m args meth c cX8_isLink 3 (some .boolean) RX8 wsX8_isLink D (x_tys cI cZ cJ) A) (F : Nat) {r : Int32} {s' : CS}  : ∀ (s : CS) (ls : Array Slot), r_X8_isLink_b30 F s = some (r, s') → lv_has ls 3 [] → x_W p l e rm_X8_isLink S0 m args below meth c A D (mwld cI cZ b) 0 0 (x_Ri below args S0 A D (mwld cI cZ b) r s') s (F0 m 30 ls []) := by
  intro s ls hf hl
  unfold r_X8_isLink_b30 at hf
  refine x_iconst X dX8_isLink_30 xk_iconst_0 ?_
  exact b_X8_isLink_31 X F (0 : Int32) s ls hf (lv_sub hl [] rfl)
set_option maxHeartbeats 4000000 in
set_option maxRecDepth 100000 in
theorem c_X8_isLink (l : Launch) (D : va_G) (cI cZ cJ : ClassId) (b : Nat → Nat) (F : Nat) {s s' : CS} {r : Int32} {x1 x2 : Int32} (hf : r_X8_isLink F x1 x2 s = some (r, s')) : x_Mi l yX8_isLink wsX8_isLink rm_X8_isLink D (x_tys cI cZ cJ) (mwld cI cZ b) [.ref (b 0), .int x1, .int x2] s r s' := by
  refine x_enteri (cc := cX8_isLink) (nL := 3) (ty := .boolean) (own := RX8) (by decide) rfl rfl (Nat.le_of_ble_eq_true rfl) ?_
  intro p e S0 m args below meth c A X ls hl
  have hl : lv_has ls 3 [(0, .ref (b 0)), (1, .int x1), (2, .int x2)] := hl
  unfold r_X8_isLink at hf
  refine x_aload_n X dX8_isLink_0 rfl hl 0 rfl ?_
  refine x_iload_n X dX8_isLink_1 rfl hl 1 rfl ?_
  obtain ⟨v2, s1, c3, hf⟩ := x_ob_of hf
  refine x_cVi X 0 8 (mw_o _ _ _ _) rfl rfl (c_X8_isSwitch l D cI cZ cJ b F c3) (cwV 1 X.2.2.2.2.1 gX8_isLink_X8_isSwitch rfl rfl rfl (by decide +kernel) ⟨Nat.le_of_ble_eq_true rfl, Nat.le_of_ble_eq_true rfl⟩) rfl hl rfl (Nat.le_of_ble_eq_true rfl) ⟨Nat.zero_le _, Nat.zero_le _⟩ dX8_isLink_2 ?_
  refine x_if_eq (tgt := 30) X dX8_isLink_5 rfl (fun q4 => ?_) (fun q4 => ?_)
  · have hf := (if_pos q4).symm.trans hf
    exact b_X8_isLink_30 X F s1 ls hf (lv_sub hl [] rfl)
  · have hf := (if_neg q4).symm.trans hf
    refine x_iload_n X dX8_isLink_8 rfl hl 2 rfl ?_
    refine x_iconst X dX8_isLink_9 xk_iconst_0 ?_
    refine x_iconst X dX8_isLink_10 xk_iconst_3 ?_
    obtain ⟨v7, s6, c8, hf⟩ := x_ob_of hf
    refine x_cSi X (c_X8_isWithin l D cI cZ cJ b F c8) (va_cwS 3 X.2.2.2.2.1 gX8_isLink_X8_isWithin rfl rfl rfl (by decide +kernel) ⟨Nat.le_of_ble_eq_true rfl, Nat.le_of_ble_eq_true rfl⟩) rfl hl rfl (Nat.le_of_ble_eq_true rfl) ⟨Nat.zero_le _, Nat.zero_le _⟩ dX8_isLink_11 ?_
    refine x_if_eq (tgt := 30) X dX8_isLink_14 rfl (fun q9 => ?_) (fun q9 => ?_)
    · have hf := (if_pos q9).symm.trans hf
      exact b_X8_isLink_30 X F s6 ls hf (lv_sub hl [] rfl)
    · have hf := (if_neg q9).symm.trans hf
      refine x_aload_n X dX8_isLink_17 rfl hl 0 rfl ?_
      refine x_iload_n X dX8_isLink_18 rfl hl 1 rfl ?_
      refine x_iload_n X dX8_isLink_19 rfl hl 2 rfl ?_
      obtain ⟨v11, s10, c12, hf⟩ := x_ob_of hf
      refine x_cVi X 0 8 (mw_o _ _ _ _) rfl rfl (c_X8_neighbour l D cI cZ cJ b F c12) (cwV 2 X.2.2.2.2.1 gX8_isLink_X8_neighbour rfl rfl rfl (by decide +kernel) ⟨Nat.le_of_ble_eq_true rfl, Nat.le_of_ble_eq_true rfl⟩) rfl hl rfl (Nat.le_of_ble_eq_true rfl) ⟨Nat.zero_le _, Nat.zero_le _⟩ dX8_isLink_20 ?_
      refine x_if_lt (tgt := 30) X dX8_isLink_23 rfl (fun q13 => ?_) (fun q13 => ?_)
      · have hf := (if_pos q13).symm.trans hf
        exact b_X8_isLink_30 X F s10 ls hf (lv_sub hl [] rfl)
      · have hf := (if_neg q13).symm.trans hf
        refine x_iconst X dX8_isLink_26 xk_iconst_1 ?_
        refine x_goto (tgt := 31) X dX8_isLink_27 rfl ?_
        exact b_X8_isLink_31 X F (1 : Int32) s10 ls hf (lv_sub hl [] rfl)
def rm_X8_begins : Room := { frames := 0, cells := 0, slots := 0, locals := 0 }
theorem in_X8_begins_X8 : ∀ w ∈ wsX80, w ∈ wsX8_begins := by decide +kernel
theorem lk_X8_begins_7 : Cond.fieldLink RX8 7 "CreditfabricModel" "columns" "I" ∈ wsX8_begins := by decide +kernel
theorem lk_X8_begins_13 : Cond.fieldLink RX8 13 "CreditfabricModel" "rows" "I" ∈ wsX8_begins := by decide +kernel
theorem lk_X8_begins_16 : Cond.fieldLink RX8 16 "CreditfabricModel" "room" "I" ∈ wsX8_begins := by decide +kernel
theorem lk_X8_begins_23 : Cond.fieldLink RX8 23 "CreditfabricModel" "many" "[I" ∈ wsX8_begins := by decide +kernel
theorem lk_X8_begins_26 : Cond.fieldLink RX8 26 "CreditfabricModel" "credit" "[I" ∈ wsX8_begins := by decide +kernel
theorem lk_X8_begins_29 : Cond.fieldLink RX8 29 "CreditfabricModel" "coming" "[I" ∈ wsX8_begins := by decide +kernel
theorem lk_X8_begins_32 : Cond.fieldLink RX8 32 "CreditfabricModel" "next" "[I" ∈ wsX8_begins := by decide +kernel
theorem lk_X8_begins_35 : Cond.fieldLink RX8 35 "CreditfabricModel" "gap" "[I" ∈ wsX8_begins := by decide +kernel
theorem lk_X8_begins_38 : Cond.fieldLink RX8 38 "CreditfabricModel" "last" "[I" ∈ wsX8_begins := by decide +kernel
theorem lk_X8_begins_41 : Cond.fieldLink RX8 41 "CreditfabricModel" "isPaused" "[Z" ∈ wsX8_begins := by decide +kernel
theorem lk_X8_begins_82 : Cond.fieldLink RX8 82 "CreditfabricModel" "sent" "I" ∈ wsX8_begins := by decide +kernel
theorem lk_X8_begins_97 : Cond.fieldLink RX8 97 "CreditfabricModel" "delay" "I" ∈ wsX8_begins := by decide +kernel
theorem lk_X8_begins_100 : Cond.fieldLink RX8 100 "CreditfabricModel" "tick" "I" ∈ wsX8_begins := by decide +kernel
theorem lk_X8_begins_103 : Cond.fieldLink RX8 103 "CreditfabricModel" "out" "I" ∈ wsX8_begins := by decide +kernel
set_option maxHeartbeats 4000000 in
set_option maxRecDepth 100000 in
theorem b_X8_begins_138 {p : Program} {l : Launch} {e : Env} {S0 : State} {m : MethodId} {args : Array Value} {below : List Frame} {meth : Method} {c : Code} {A : Nat → Prop} {D : va_G} {cI cZ cJ : ClassId} {b : Nat → Nat} (X : x_X p S0 m args meth c cX8_begins 6 none RX8 wsX8_begins D (x_tys cI cZ cJ) A) (F : Nat) {r : Int32} {s' : CS}  : ∀ (n : Nat) (x5 : Int32) (s : CS) (ls : Array Slot), r_X8_begins_b138 F n x5 s = some (r, s') → lv_has ls 6 [(0, .ref (b 0)), (5, .int x5)] → x_W p l e rm_X8_begins S0 m args below meth c A D (mwld cI cZ b) 0 0 (x_Rv below args S0 A D (mwld cI cZ b) s') s (F0 m 138 ls []) := by
  intro n
  induction n with
  | zero =>
    intro x5 s ls hf hl
    have hf : (none : Option (Int32 × CS)) = some (r, s') := hf
    cases hf
  | succ n ih =>
    intro x5 s ls hf hl
    rw [r_X8_begins_b138_s] at hf
    refine x_iload X dX8_begins_138 hl 1 rfl ?_
    refine x_bipush X dX8_begins_140 xk_bipush_16 ?_
    refine x_icmp_ge (tgt := 175) X dX8_begins_142 rfl (fun q12 => ?_) (fun q12 => ?_)
    · have hf := (if_pos q12).symm.trans hf
      exact x_vret X rfl hf dX8_begins_175
    · have hf := (if_neg q12).symm.trans hf
      refine x_aload_n X dX8_begins_145 rfl hl 0 rfl ?_
      refine x_getf X in_X8_begins_X8 (mw_o _ _ _ _) rfl 12 (by decide) lk_X8_begins_35 rfl rfl dX8_begins_146 ?_
      refine x_iload X dX8_begins_149 hl 1 rfl ?_
      refine x_iconst X dX8_begins_151 xk_iconst_1 ?_
      obtain ⟨g13, hf⟩ := x_og_of hf
      refine x_iast X (1 + 5) 0 (mw_r5 _ _ _ _) rfl (x_in_of g13) (mw_a5 _ _ _ _ _ _) dX8_begins_152 (fun s14 es14 => ?_)
      have hf := x_os_of es14 hf
      refine x_aload_n X dX8_begins_153 rfl hl 0 rfl ?_
      refine x_getf X in_X8_begins_X8 (mw_o _ _ _ _) rfl 13 (by decide) lk_X8_begins_38 rfl rfl dX8_begins_154 ?_
      refine x_iload X dX8_begins_157 hl 1 rfl ?_
      refine x_iconst X dX8_begins_159 xk_iconst_m1 ?_
      obtain ⟨g15, hf⟩ := x_og_of hf
      refine x_iast X (1 + 6) 0 (mw_r6 _ _ _ _) rfl (x_in_of g15) (mw_a6 _ _ _ _ _ _) dX8_begins_160 (fun s16 es16 => ?_)
      have hf := x_os_of es16 hf
      refine x_aload_n X dX8_begins_161 rfl hl 0 rfl ?_
      refine x_getf X in_X8_begins_X8 (mw_o _ _ _ _) rfl 14 (by decide) lk_X8_begins_41 rfl rfl dX8_begins_162 ?_
      refine x_iload X dX8_begins_165 hl 1 rfl ?_
      refine x_iconst X dX8_begins_167 xk_iconst_0 ?_
      obtain ⟨g17, hf⟩ := x_og_of hf
      refine x_zast X (1 + 7) 1 (mw_r7 _ _ _ _) rfl (x_in_of g17) (mw_a7 _ _ _ _ _ _) dX8_begins_168 (fun s18 es18 => ?_)
      have hf := x_os_of es18 hf
      refine x_iinc (v := (x5 + (1 : Int32))) (lv' := [(5, .int (x5 + (1 : Int32))), (0, .ref (b 0))]) X dX8_begins_169 hl (j := 1) rfl rfl (by decide) rfl (fun ls hl => ?_)
      refine x_goto (tgt := 138) X dX8_begins_172 rfl ?_
      exact ih (x5 + (1 : Int32)) s18 ls hf (lv_sub hl [1, 0] rfl)
set_option maxHeartbeats 4000000 in
set_option maxRecDepth 100000 in
theorem b_X8_begins_114 {p : Program} {l : Launch} {e : Env} {S0 : State} {m : MethodId} {args : Array Value} {below : List Frame} {meth : Method} {c : Code} {A : Nat → Prop} {D : va_G} {cI cZ cJ : ClassId} {b : Nat → Nat} (X : x_X p S0 m args meth c cX8_begins 6 none RX8 wsX8_begins D (x_tys cI cZ cJ) A) (F : Nat) {r : Int32} {s' : CS}  : ∀ (n : Nat) (x5 : Int32) (s : CS) (ls : Array Slot), r_X8_begins_b114 F n x5 s = some (r, s') → lv_has ls 6 [(0, .ref (b 0)), (5, .int x5)] → x_W p l e rm_X8_begins S0 m args below meth c A D (mwld cI cZ b) 0 0 (x_Rv below args S0 A D (mwld cI cZ b) s') s (F0 m 114 ls []) := by
  intro n
  induction n with
  | zero =>
    intro x5 s ls hf hl
    have hf : (none : Option (Int32 × CS)) = some (r, s') := hf
    cases hf
  | succ n ih =>
    intro x5 s ls hf hl
    rw [r_X8_begins_b114_s] at hf
    refine x_iload X dX8_begins_114 hl 1 rfl ?_
    refine x_bipush X dX8_begins_116 xk_bipush_80 ?_
    refine x_icmp_ge (tgt := 135) X dX8_begins_118 rfl (fun q11 => ?_) (fun q11 => ?_)
    · have hf := (if_pos q11).symm.trans hf
      refine x_iconst X dX8_begins_135 xk_iconst_0 ?_
      refine x_istoreA (lv' := [(5, .int (0 : Int32)), (0, .ref (b 0))]) X dX8_begins_136 hl (by decide) rfl (fun ls hl => ?_)
      exact b_X8_begins_138 X F F (0 : Int32) s ls hf (lv_sub hl [1, 0] rfl)
    · have hf := (if_neg q11).symm.trans hf
      refine x_aload_n X dX8_begins_121 rfl hl 0 rfl ?_
      refine x_getf X in_X8_begins_X8 (mw_o _ _ _ _) rfl 11 (by decide) lk_X8_begins_32 rfl rfl dX8_begins_122 ?_
      refine x_iload X dX8_begins_125 hl 1 rfl ?_
      refine x_iconst X dX8_begins_127 xk_iconst_0 ?_
      obtain ⟨g19, hf⟩ := x_og_of hf
      refine x_iast X (1 + 4) 0 (mw_r4 _ _ _ _) rfl (x_in_of g19) (mw_a4 _ _ _ _ _ _) dX8_begins_128 (fun s20 es20 => ?_)
      have hf := x_os_of es20 hf
      refine x_iinc (v := (x5 + (1 : Int32))) (lv' := [(5, .int (x5 + (1 : Int32))), (0, .ref (b 0))]) X dX8_begins_129 hl (j := 1) rfl rfl (by decide) rfl (fun ls hl => ?_)
      refine x_goto (tgt := 114) X dX8_begins_132 rfl ?_
      exact ih (x5 + (1 : Int32)) s20 ls hf (lv_sub hl [1, 0] rfl)
set_option maxHeartbeats 4000000 in
set_option maxRecDepth 100000 in
theorem b_X8_begins_89 {p : Program} {l : Launch} {e : Env} {S0 : State} {m : MethodId} {args : Array Value} {below : List Frame} {meth : Method} {c : Code} {A : Nat → Prop} {D : va_G} {cI cZ cJ : ClassId} {b : Nat → Nat} (X : x_X p S0 m args meth c cX8_begins 6 none RX8 wsX8_begins D (x_tys cI cZ cJ) A) (F : Nat) {r : Int32} {s' : CS}  : ∀ (n : Nat) (x5 : Int32) (s : CS) (ls : Array Slot), r_X8_begins_b89 F n x5 s = some (r, s') → lv_has ls 6 [(0, .ref (b 0)), (5, .int x5)] → x_W p l e rm_X8_begins S0 m args below meth c A D (mwld cI cZ b) 0 0 (x_Rv below args S0 A D (mwld cI cZ b) s') s (F0 m 89 ls []) := by
  intro n
  induction n with
  | zero =>
    intro x5 s ls hf hl
    have hf : (none : Option (Int32 × CS)) = some (r, s') := hf
    cases hf
  | succ n ih =>
    intro x5 s ls hf hl
    rw [r_X8_begins_b89_s] at hf
    refine x_iload X dX8_begins_89 hl 1 rfl ?_
    refine x_sipush X dX8_begins_91 xk_sipush_640 ?_
    refine x_icmp_ge (tgt := 111) X dX8_begins_94 rfl (fun q10 => ?_) (fun q10 => ?_)
    · have hf := (if_pos q10).symm.trans hf
      refine x_iconst X dX8_begins_111 xk_iconst_0 ?_
      refine x_istoreA (lv' := [(5, .int (0 : Int32)), (0, .ref (b 0))]) X dX8_begins_112 hl (by decide) rfl (fun ls hl => ?_)
      exact b_X8_begins_114 X F F (0 : Int32) s ls hf (lv_sub hl [1, 0] rfl)
    · have hf := (if_neg q10).symm.trans hf
      refine x_aload_n X dX8_begins_97 rfl hl 0 rfl ?_
      refine x_getf X in_X8_begins_X8 (mw_o _ _ _ _) rfl 10 (by decide) lk_X8_begins_29 rfl rfl dX8_begins_98 ?_
      refine x_iload X dX8_begins_101 hl 1 rfl ?_
      refine x_iconst X dX8_begins_103 xk_iconst_0 ?_
      obtain ⟨g21, hf⟩ := x_og_of hf
      refine x_iast X (1 + 3) 0 (mw_r3 _ _ _ _) rfl (x_in_of g21) (mw_a3 _ _ _ _ _ _) dX8_begins_104 (fun s22 es22 => ?_)
      have hf := x_os_of es22 hf
      refine x_iinc (v := (x5 + (1 : Int32))) (lv' := [(5, .int (x5 + (1 : Int32))), (0, .ref (b 0))]) X dX8_begins_105 hl (j := 1) rfl rfl (by decide) rfl (fun ls hl => ?_)
      refine x_goto (tgt := 89) X dX8_begins_108 rfl ?_
      exact ih (x5 + (1 : Int32)) s22 ls hf (lv_sub hl [1, 0] rfl)
set_option maxHeartbeats 4000000 in
set_option maxRecDepth 100000 in
theorem b_X8_begins_64 {p : Program} {l : Launch} {e : Env} {S0 : State} {m : MethodId} {args : Array Value} {below : List Frame} {meth : Method} {c : Code} {A : Nat → Prop} {D : va_G} {cI cZ cJ : ClassId} {b : Nat → Nat} (X : x_X p S0 m args meth c cX8_begins 6 none RX8 wsX8_begins D (x_tys cI cZ cJ) A) (F : Nat) {r : Int32} {s' : CS}  : ∀ (n : Nat) (x3 x5 : Int32) (s : CS) (ls : Array Slot), r_X8_begins_b64 F n x3 x5 s = some (r, s') → lv_has ls 6 [(0, .ref (b 0)), (3, .int x3), (5, .int x5)] → x_W p l e rm_X8_begins S0 m args below meth c A D (mwld cI cZ b) 0 0 (x_Rv below args S0 A D (mwld cI cZ b) s') s (F0 m 64 ls []) := by
  intro n
  induction n with
  | zero =>
    intro x3 x5 s ls hf hl
    have hf : (none : Option (Int32 × CS)) = some (r, s') := hf
    cases hf
  | succ n ih =>
    intro x3 x5 s ls hf hl
    rw [r_X8_begins_b64_s] at hf
    refine x_iload X dX8_begins_64 hl 2 rfl ?_
    refine x_sipush X dX8_begins_66 xk_sipush_128 ?_
    refine x_icmp_ge (tgt := 86) X dX8_begins_69 rfl (fun q9 => ?_) (fun q9 => ?_)
    · have hf := (if_pos q9).symm.trans hf
      refine x_iconst X dX8_begins_86 xk_iconst_0 ?_
      refine x_istoreA (lv' := [(5, .int (0 : Int32)), (0, .ref (b 0)), (3, .int x3)]) X dX8_begins_87 hl (by decide) rfl (fun ls hl => ?_)
      exact b_X8_begins_89 X F F (0 : Int32) s ls hf (lv_sub hl [1, 0] rfl)
    · have hf := (if_neg q9).symm.trans hf
      refine x_aload_n X dX8_begins_72 rfl hl 0 rfl ?_
      refine x_getf X in_X8_begins_X8 (mw_o _ _ _ _) rfl 9 (by decide) lk_X8_begins_26 rfl rfl dX8_begins_73 ?_
      refine x_iload X dX8_begins_76 hl 2 rfl ?_
      refine x_iload_n X dX8_begins_78 rfl hl 1 rfl ?_
      obtain ⟨g23, hf⟩ := x_og_of hf
      refine x_iast X (1 + 2) 0 (mw_r2 _ _ _ _) rfl (x_in_of g23) (mw_a2 _ _ _ _ _ _) dX8_begins_79 (fun s24 es24 => ?_)
      have hf := x_os_of es24 hf
      refine x_iinc (v := (x5 + (1 : Int32))) (lv' := [(5, .int (x5 + (1 : Int32))), (0, .ref (b 0)), (3, .int x3)]) X dX8_begins_80 hl (j := 2) rfl rfl (by decide) rfl (fun ls hl => ?_)
      refine x_goto (tgt := 64) X dX8_begins_83 rfl ?_
      exact ih x3 (x5 + (1 : Int32)) s24 ls hf (lv_sub hl [1, 2, 0] rfl)
set_option maxHeartbeats 4000000 in
set_option maxRecDepth 100000 in
theorem b_X8_begins_39 {p : Program} {l : Launch} {e : Env} {S0 : State} {m : MethodId} {args : Array Value} {below : List Frame} {meth : Method} {c : Code} {A : Nat → Prop} {D : va_G} {cI cZ cJ : ClassId} {b : Nat → Nat} (X : x_X p S0 m args meth c cX8_begins 6 none RX8 wsX8_begins D (x_tys cI cZ cJ) A) (F : Nat) {r : Int32} {s' : CS}  : ∀ (n : Nat) (x3 x5 : Int32) (s : CS) (ls : Array Slot), r_X8_begins_b39 F n x3 x5 s = some (r, s') → lv_has ls 6 [(0, .ref (b 0)), (3, .int x3), (5, .int x5)] → x_W p l e rm_X8_begins S0 m args below meth c A D (mwld cI cZ b) 0 0 (x_Rv below args S0 A D (mwld cI cZ b) s') s (F0 m 39 ls []) := by
  intro n
  induction n with
  | zero =>
    intro x3 x5 s ls hf hl
    have hf : (none : Option (Int32 × CS)) = some (r, s') := hf
    cases hf
  | succ n ih =>
    intro x3 x5 s ls hf hl
    rw [r_X8_begins_b39_s] at hf
    refine x_iload X dX8_begins_39 hl 2 rfl ?_
    refine x_sipush X dX8_begins_41 xk_sipush_160 ?_
    refine x_icmp_ge (tgt := 61) X dX8_begins_44 rfl (fun q8 => ?_) (fun q8 => ?_)
    · have hf := (if_pos q8).symm.trans hf
      refine x_iconst X dX8_begins_61 xk_iconst_0 ?_
      refine x_istoreA (lv' := [(5, .int (0 : Int32)), (0, .ref (b 0)), (3, .int x3)]) X dX8_begins_62 hl (by decide) rfl (fun ls hl => ?_)
      exact b_X8_begins_64 X F F x3 (0 : Int32) s ls hf (lv_sub hl [1, 2, 0] rfl)
    · have hf := (if_neg q8).symm.trans hf
      refine x_aload_n X dX8_begins_47 rfl hl 0 rfl ?_
      refine x_getf X in_X8_begins_X8 (mw_o _ _ _ _) rfl 8 (by decide) lk_X8_begins_23 rfl rfl dX8_begins_48 ?_
      refine x_iload X dX8_begins_51 hl 2 rfl ?_
      refine x_iconst X dX8_begins_53 xk_iconst_0 ?_
      obtain ⟨g25, hf⟩ := x_og_of hf
      refine x_iast X (1 + 1) 0 (mw_r1 _ _ _ _) rfl (x_in_of g25) (mw_a1 _ _ _ _ _ _) dX8_begins_54 (fun s26 es26 => ?_)
      have hf := x_os_of es26 hf
      refine x_iinc (v := (x5 + (1 : Int32))) (lv' := [(5, .int (x5 + (1 : Int32))), (0, .ref (b 0)), (3, .int x3)]) X dX8_begins_55 hl (j := 2) rfl rfl (by decide) rfl (fun ls hl => ?_)
      refine x_goto (tgt := 39) X dX8_begins_58 rfl ?_
      exact ih x3 (x5 + (1 : Int32)) s26 ls hf (lv_sub hl [1, 2, 0] rfl)
set_option maxHeartbeats 4000000 in
set_option maxRecDepth 100000 in
theorem c_X8_begins (l : Launch) (D : va_G) (cI cZ cJ : ClassId) (b : Nat → Nat) (F : Nat) {s s' : CS} {r : Int32} {x1 x2 x3 x4 : Int32} (hf : r_X8_begins F x1 x2 x3 x4 s = some (r, s')) : x_Mv l yX8_begins wsX8_begins rm_X8_begins D (x_tys cI cZ cJ) (mwld cI cZ b) [.ref (b 0), .int x1, .int x2, .int x3, .int x4] s s' := by
  refine x_enterv (cc := cX8_begins) (nL := 6) (own := RX8) (by decide) rfl rfl (Nat.le_of_ble_eq_true rfl) ?_
  intro p e S0 m args below meth c A X ls hl
  have hl : lv_has ls 6 [(0, .ref (b 0)), (1, .int x1), (2, .int x2), (3, .int x3), (4, .int x4)] := hl
  unfold r_X8_begins at hf
  refine x_aload_n X dX8_begins_0 rfl hl 0 rfl ?_
  refine x_iload_n X dX8_begins_1 rfl hl 1 rfl ?_
  refine x_puti X in_X8_begins_X8 (mw_o _ _ _ _) rfl 0 (by decide) tyX8 tyX8_ok nmX8 lk_X8_begins_7 rfl rfl (by decide +kernel) (Nat.le_of_ble_eq_true rfl) (mw_s0 _ _ _ _ _) dX8_begins_2 (fun s1 es1 => ?_)
  have hf := x_os_of es1 hf
  refine x_aload_n X dX8_begins_5 rfl hl 0 rfl ?_
  refine x_iload_n X dX8_begins_6 rfl hl 2 rfl ?_
  refine x_puti X in_X8_begins_X8 (mw_o _ _ _ _) rfl 1 (by decide) tyX8 tyX8_ok nmX8 lk_X8_begins_13 rfl rfl (by decide +kernel) (Nat.le_of_ble_eq_true rfl) (mw_s1 _ _ _ _ _) dX8_begins_7 (fun s2 es2 => ?_)
  have hf := x_os_of es2 hf
  refine x_aload_n X dX8_begins_10 rfl hl 0 rfl ?_
  refine x_iload_n X dX8_begins_11 rfl hl 3 rfl ?_
  refine x_puti X in_X8_begins_X8 (mw_o _ _ _ _) rfl 2 (by decide) tyX8 tyX8_ok nmX8 lk_X8_begins_16 rfl rfl (by decide +kernel) (Nat.le_of_ble_eq_true rfl) (mw_s2 _ _ _ _ _) dX8_begins_12 (fun s3 es3 => ?_)
  have hf := x_os_of es3 hf
  refine x_aload_n X dX8_begins_15 rfl hl 0 rfl ?_
  refine x_iload X dX8_begins_16 hl 4 rfl ?_
  refine x_puti X in_X8_begins_X8 (mw_o _ _ _ _) rfl 3 (by decide) tyX8 tyX8_ok nmX8 lk_X8_begins_97 rfl rfl (by decide +kernel) (Nat.le_of_ble_eq_true rfl) (mw_s3 _ _ _ _ _) dX8_begins_18 (fun s4 es4 => ?_)
  have hf := x_os_of es4 hf
  refine x_aload_n X dX8_begins_21 rfl hl 0 rfl ?_
  refine x_iconst X dX8_begins_22 xk_iconst_0 ?_
  refine x_puti X in_X8_begins_X8 (mw_o _ _ _ _) rfl 4 (by decide) tyX8 tyX8_ok nmX8 lk_X8_begins_100 rfl rfl (by decide +kernel) (Nat.le_of_ble_eq_true rfl) (mw_s4 _ _ _ _ _) dX8_begins_23 (fun s5 es5 => ?_)
  have hf := x_os_of es5 hf
  refine x_aload_n X dX8_begins_26 rfl hl 0 rfl ?_
  refine x_iconst X dX8_begins_27 xk_iconst_0 ?_
  refine x_puti X in_X8_begins_X8 (mw_o _ _ _ _) rfl 5 (by decide) tyX8 tyX8_ok nmX8 lk_X8_begins_82 rfl rfl (by decide +kernel) (Nat.le_of_ble_eq_true rfl) (mw_s5 _ _ _ _ _) dX8_begins_28 (fun s6 es6 => ?_)
  have hf := x_os_of es6 hf
  refine x_aload_n X dX8_begins_31 rfl hl 0 rfl ?_
  refine x_iconst X dX8_begins_32 xk_iconst_0 ?_
  refine x_puti X in_X8_begins_X8 (mw_o _ _ _ _) rfl 6 (by decide) tyX8 tyX8_ok nmX8 lk_X8_begins_103 rfl rfl (by decide +kernel) (Nat.le_of_ble_eq_true rfl) (mw_s6 _ _ _ _ _) dX8_begins_33 (fun s7 es7 => ?_)
  have hf := x_os_of es7 hf
  refine x_iconst X dX8_begins_36 xk_iconst_0 ?_
  refine x_istoreA (lv' := [(5, .int (0 : Int32)), (0, .ref (b 0)), (1, .int x1), (2, .int x2), (3, .int x3), (4, .int x4)]) X dX8_begins_37 hl (by decide) rfl (fun ls hl => ?_)
  exact b_X8_begins_39 X F F x3 (0 : Int32) s7 ls hf (lv_sub hl [1, 4, 0] rfl)
def rm_X8_begin : Room := { frames := 1, cells := 0, slots := 0, locals := 25 }
set_option maxHeartbeats 4000000 in
set_option maxRecDepth 100000 in
theorem b_X8_begin_43 {p : Program} {l : Launch} {e : Env} {S0 : State} {m : MethodId} {args : Array Value} {below : List Frame} {meth : Method} {c : Code} {A : Nat → Prop} {D : va_G} {cI cZ cJ : ClassId} {b : Nat → Nat} (X : x_X p S0 m args meth c cX8_begin 5 (some .int) RX8 wsX8_begin D (x_tys cI cZ cJ) A) (F : Nat) {r : Int32} {s' : CS}  : ∀ (x1 x2 x3 x4 t0 : Int32) (s : CS) (ls : Array Slot), r_X8_begin_b43 F x1 x2 x3 x4 t0 s = some (r, s') → lv_has ls 5 [(0, .ref (b 0)), (1, .int x1), (2, .int x2), (3, .int x3), (4, .int x4)] → x_W p l e rm_X8_begin S0 m args below meth c A D (mwld cI cZ b) 0 0 (x_Ri below args S0 A D (mwld cI cZ b) r s') s (F0 m 43 ls [.int t0, .ref (b 0)]) := by
  intro x1 x2 x3 x4 t0 s ls hf hl
  unfold r_X8_begin_b43 at hf
  refine x_iconst X dX8_begin_43 xk_iconst_1 ?_
  refine x_iconst X dX8_begin_44 xk_iconst_1 ?_
  obtain ⟨v6, s5, c7, hf⟩ := x_ob_of hf
  refine x_cVi X 0 8 (mw_o _ _ _ _) rfl rfl (c_X8_goes l D cI cZ cJ b F c7) (cwV 3 X.2.2.2.2.1 gX8_begin_X8_goes rfl rfl rfl (by decide +kernel) ⟨Nat.le_of_ble_eq_true rfl, Nat.le_of_ble_eq_true rfl⟩) rfl hl rfl (Nat.le_of_ble_eq_true rfl) ⟨Nat.zero_le _, Nat.zero_le _⟩ dX8_begin_45 ?_
  refine x_if_ne (tgt := 53) X dX8_begin_48 rfl (fun q8 => ?_) (fun q8 => ?_)
  · have hf := (if_neg q8).symm.trans hf
    refine x_aload_n X dX8_begin_53 rfl hl 0 rfl ?_
    refine x_iload_n X dX8_begin_54 rfl hl 1 rfl ?_
    refine x_iload_n X dX8_begin_55 rfl hl 2 rfl ?_
    refine x_iload_n X dX8_begin_56 rfl hl 3 rfl ?_
    refine x_iload X dX8_begin_57 hl 4 rfl ?_
    obtain ⟨v10, s9, c11, hf⟩ := x_ob_of hf
    refine x_cVv X 0 8 (mw_o _ _ _ _) rfl rfl (c_X8_begins l D cI cZ cJ b F c11) (cwV 4 X.2.2.2.2.1 gX8_begin_X8_begins rfl rfl rfl (by decide +kernel) ⟨Nat.le_of_ble_eq_true rfl, Nat.le_of_ble_eq_true rfl⟩) rfl hl rfl (Nat.le_of_ble_eq_true rfl) ⟨Nat.zero_le _, Nat.zero_le _⟩ dX8_begin_59 ?_
    refine x_iload_n X dX8_begin_62 rfl hl 1 rfl ?_
    refine x_iload_n X dX8_begin_63 rfl hl 2 rfl ?_
    refine x_imul X dX8_begin_64 ?_
    exact x_iret X rfl rfl hf dX8_begin_65
  · have hf := (if_pos q8).symm.trans hf
    refine x_iconst X dX8_begin_51 xk_iconst_0 ?_
    exact x_iret X rfl rfl hf dX8_begin_52
set_option maxHeartbeats 4000000 in
set_option maxRecDepth 100000 in
theorem b_X8_begin_42 {p : Program} {l : Launch} {e : Env} {S0 : State} {m : MethodId} {args : Array Value} {below : List Frame} {meth : Method} {c : Code} {A : Nat → Prop} {D : va_G} {cI cZ cJ : ClassId} {b : Nat → Nat} (X : x_X p S0 m args meth c cX8_begin 5 (some .int) RX8 wsX8_begin D (x_tys cI cZ cJ) A) (F : Nat) {r : Int32} {s' : CS}  : ∀ (x1 x2 x3 x4 : Int32) (s : CS) (ls : Array Slot), r_X8_begin_b42 F x1 x2 x3 x4 s = some (r, s') → lv_has ls 5 [(0, .ref (b 0)), (1, .int x1), (2, .int x2), (3, .int x3), (4, .int x4)] → x_W p l e rm_X8_begin S0 m args below meth c A D (mwld cI cZ b) 0 0 (x_Ri below args S0 A D (mwld cI cZ b) r s') s (F0 m 42 ls [.ref (b 0)]) := by
  intro x1 x2 x3 x4 s ls hf hl
  unfold r_X8_begin_b42 at hf
  refine x_iconst X dX8_begin_42 xk_iconst_0 ?_
  exact b_X8_begin_43 X F x1 x2 x3 x4 (0 : Int32) s ls hf (lv_sub hl [0, 1, 2, 3, 4] rfl)
set_option maxHeartbeats 4000000 in
set_option maxRecDepth 100000 in
theorem c_X8_begin (l : Launch) (D : va_G) (cI cZ cJ : ClassId) (b : Nat → Nat) (F : Nat) {s s' : CS} {r : Int32} {x1 x2 x3 x4 : Int32} (hf : r_X8_begin F x1 x2 x3 x4 s = some (r, s')) : x_Mi l yX8_begin wsX8_begin rm_X8_begin D (x_tys cI cZ cJ) (mwld cI cZ b) [.ref (b 0), .int x1, .int x2, .int x3, .int x4] s r s' := by
  refine x_enteri (cc := cX8_begin) (nL := 5) (ty := .int) (own := RX8) (by decide) rfl rfl (Nat.le_of_ble_eq_true rfl) ?_
  intro p e S0 m args below meth c A X ls hl
  have hl : lv_has ls 5 [(0, .ref (b 0)), (1, .int x1), (2, .int x2), (3, .int x3), (4, .int x4)] := hl
  unfold r_X8_begin at hf
  refine x_aload_n X dX8_begin_0 rfl hl 0 rfl ?_
  refine x_iload_n X dX8_begin_1 rfl hl 1 rfl ?_
  refine x_iconst X dX8_begin_2 xk_iconst_2 ?_
  refine x_iconst X dX8_begin_3 xk_iconst_4 ?_
  obtain ⟨v2, s1, c3, hf⟩ := x_ob_of hf
  refine x_cSi X (c_X8_isWithin l D cI cZ cJ b F c3) (va_cwS 3 X.2.2.2.2.1 gX8_begin_X8_isWithin rfl rfl rfl (by decide +kernel) ⟨Nat.le_of_ble_eq_true rfl, Nat.le_of_ble_eq_true rfl⟩) rfl hl rfl (Nat.le_of_ble_eq_true rfl) ⟨Nat.zero_le _, Nat.zero_le _⟩ dX8_begin_4 ?_
  refine x_if_eq (tgt := 42) X dX8_begin_7 rfl (fun q4 => ?_) (fun q4 => ?_)
  · have hf := (if_pos q4).symm.trans hf
    exact b_X8_begin_42 X F x1 x2 x3 x4 s1 ls hf (lv_sub hl [0, 1, 2, 3, 4] rfl)
  · have hf := (if_neg q4).symm.trans hf
    refine x_iload_n X dX8_begin_10 rfl hl 2 rfl ?_
    refine x_iconst X dX8_begin_11 xk_iconst_2 ?_
    refine x_iconst X dX8_begin_12 xk_iconst_4 ?_
    obtain ⟨v13, s12, c14, hf⟩ := x_ob_of hf
    refine x_cSi X (c_X8_isWithin l D cI cZ cJ b F c14) (va_cwS 3 X.2.2.2.2.1 gX8_begin_X8_isWithin rfl rfl rfl (by decide +kernel) ⟨Nat.le_of_ble_eq_true rfl, Nat.le_of_ble_eq_true rfl⟩) rfl hl rfl (Nat.le_of_ble_eq_true rfl) ⟨Nat.zero_le _, Nat.zero_le _⟩ dX8_begin_13 ?_
    refine x_if_eq (tgt := 42) X dX8_begin_16 rfl (fun q15 => ?_) (fun q15 => ?_)
    · have hf := (if_pos q15).symm.trans hf
      exact b_X8_begin_42 X F x1 x2 x3 x4 s12 ls hf (lv_sub hl [0, 1, 2, 3, 4] rfl)
    · have hf := (if_neg q15).symm.trans hf
      refine x_iload_n X dX8_begin_19 rfl hl 3 rfl ?_
      refine x_iconst X dX8_begin_20 xk_iconst_1 ?_
      refine x_iconst X dX8_begin_21 xk_iconst_3 ?_
      obtain ⟨v17, s16, c18, hf⟩ := x_ob_of hf
      refine x_cSi X (c_X8_isWithin l D cI cZ cJ b F c18) (va_cwS 3 X.2.2.2.2.1 gX8_begin_X8_isWithin rfl rfl rfl (by decide +kernel) ⟨Nat.le_of_ble_eq_true rfl, Nat.le_of_ble_eq_true rfl⟩) rfl hl rfl (Nat.le_of_ble_eq_true rfl) ⟨Nat.zero_le _, Nat.zero_le _⟩ dX8_begin_22 ?_
      refine x_if_eq (tgt := 42) X dX8_begin_25 rfl (fun q19 => ?_) (fun q19 => ?_)
      · have hf := (if_pos q19).symm.trans hf
        exact b_X8_begin_42 X F x1 x2 x3 x4 s16 ls hf (lv_sub hl [0, 1, 2, 3, 4] rfl)
      · have hf := (if_neg q19).symm.trans hf
        refine x_iload X dX8_begin_28 hl 4 rfl ?_
        refine x_iconst X dX8_begin_30 xk_iconst_0 ?_
        refine x_iconst X dX8_begin_31 xk_iconst_3 ?_
        obtain ⟨v21, s20, c22, hf⟩ := x_ob_of hf
        refine x_cSi X (c_X8_isWithin l D cI cZ cJ b F c22) (va_cwS 3 X.2.2.2.2.1 gX8_begin_X8_isWithin rfl rfl rfl (by decide +kernel) ⟨Nat.le_of_ble_eq_true rfl, Nat.le_of_ble_eq_true rfl⟩) rfl hl rfl (Nat.le_of_ble_eq_true rfl) ⟨Nat.zero_le _, Nat.zero_le _⟩ dX8_begin_32 ?_
        refine x_if_eq (tgt := 42) X dX8_begin_35 rfl (fun q23 => ?_) (fun q23 => ?_)
        · have hf := (if_pos q23).symm.trans hf
          exact b_X8_begin_42 X F x1 x2 x3 x4 s20 ls hf (lv_sub hl [0, 1, 2, 3, 4] rfl)
        · have hf := (if_neg q23).symm.trans hf
          refine x_iconst X dX8_begin_38 xk_iconst_1 ?_
          refine x_goto (tgt := 43) X dX8_begin_39 rfl ?_
          exact b_X8_begin_43 X F x1 x2 x3 x4 (1 : Int32) s20 ls hf (lv_sub hl [0, 1, 2, 3, 4] rfl)
def rm_X8_puts : Room := { frames := 0, cells := 0, slots := 0, locals := 0 }
theorem in_X8_puts_X8 : ∀ w ∈ wsX80, w ∈ wsX8_puts := by decide +kernel
theorem lk_X8_puts_19 : Cond.fieldLink RX8 19 "CreditfabricModel" "buffer" "[I" ∈ wsX8_puts := by decide +kernel
theorem lk_X8_puts_23 : Cond.fieldLink RX8 23 "CreditfabricModel" "many" "[I" ∈ wsX8_puts := by decide +kernel
set_option maxHeartbeats 4000000 in
set_option maxRecDepth 100000 in
theorem c_X8_puts (l : Launch) (D : va_G) (cI cZ cJ : ClassId) (b : Nat → Nat) (F : Nat) {s s' : CS} {r : Int32} {x1 x2 : Int32} (hf : r_X8_puts F x1 x2 s = some (r, s')) : x_Mv l yX8_puts wsX8_puts rm_X8_puts D (x_tys cI cZ cJ) (mwld cI cZ b) [.ref (b 0), .int x1, .int x2] s s' := by
  refine x_enterv (cc := cX8_puts) (nL := 3) (own := RX8) (by decide) rfl rfl (Nat.le_of_ble_eq_true rfl) ?_
  intro p e S0 m args below meth c A X ls hl
  have hl : lv_has ls 3 [(0, .ref (b 0)), (1, .int x1), (2, .int x2)] := hl
  unfold r_X8_puts at hf
  refine x_aload_n X dX8_puts_0 rfl hl 0 rfl ?_
  refine x_getf X in_X8_puts_X8 (mw_o _ _ _ _) rfl 7 (by decide) lk_X8_puts_19 rfl rfl dX8_puts_1 ?_
  refine x_iconst X dX8_puts_4 xk_iconst_3 ?_
  refine x_iload_n X dX8_puts_5 rfl hl 1 rfl ?_
  refine x_imul X dX8_puts_6 ?_
  refine x_aload_n X dX8_puts_7 rfl hl 0 rfl ?_
  refine x_getf X in_X8_puts_X8 (mw_o _ _ _ _) rfl 8 (by decide) lk_X8_puts_23 rfl rfl dX8_puts_8 ?_
  refine x_iload_n X dX8_puts_11 rfl hl 1 rfl ?_
  obtain ⟨g1, hf⟩ := x_og_of hf
  refine x_iald X (1 + 1) 0 (mw_r1 _ _ _ _) rfl (x_in_of g1) dX8_puts_12 ?_
  refine x_iadd X dX8_puts_13 ?_
  refine x_iload_n X dX8_puts_14 rfl hl 2 rfl ?_
  obtain ⟨g2, hf⟩ := x_og_of hf
  refine x_iast X (1 + 0) 0 (mw_r0 _ _ _ _) rfl (x_in_of g2) (mw_a0 _ _ _ _ _ _) dX8_puts_15 (fun s3 es3 => ?_)
  have hf := x_os_of es3 hf
  refine x_aload_n X dX8_puts_16 rfl hl 0 rfl ?_
  refine x_getf X in_X8_puts_X8 (mw_o _ _ _ _) rfl 8 (by decide) lk_X8_puts_23 rfl rfl dX8_puts_17 ?_
  refine x_iload_n X dX8_puts_20 rfl hl 1 rfl ?_
  refine x_dup2 X dX8_puts_21 rfl rfl ?_
  obtain ⟨g4, hf⟩ := x_og_of hf
  refine x_iald X (1 + 1) 0 (mw_r1 _ _ _ _) rfl (x_in_of g4) dX8_puts_22 ?_
  refine x_iconst X dX8_puts_23 xk_iconst_1 ?_
  refine x_iadd X dX8_puts_24 ?_
  obtain ⟨g5, hf⟩ := x_og_of hf
  refine x_iast X (1 + 1) 0 (mw_r1 _ _ _ _) rfl (x_in_of g5) (mw_a1 _ _ _ _ _ _) dX8_puts_25 (fun s6 es6 => ?_)
  have hf := x_os_of es6 hf
  exact x_vret X rfl hf dX8_puts_26
def rm_X8_takes : Room := { frames := 0, cells := 0, slots := 0, locals := 0 }
theorem in_X8_takes_X8 : ∀ w ∈ wsX80, w ∈ wsX8_takes := by decide +kernel
theorem lk_X8_takes_19 : Cond.fieldLink RX8 19 "CreditfabricModel" "buffer" "[I" ∈ wsX8_takes := by decide +kernel
theorem lk_X8_takes_23 : Cond.fieldLink RX8 23 "CreditfabricModel" "many" "[I" ∈ wsX8_takes := by decide +kernel
set_option maxHeartbeats 4000000 in
set_option maxRecDepth 100000 in
theorem b_X8_takes_21 {p : Program} {l : Launch} {e : Env} {S0 : State} {m : MethodId} {args : Array Value} {below : List Frame} {meth : Method} {c : Code} {A : Nat → Prop} {D : va_G} {cI cZ cJ : ClassId} {b : Nat → Nat} (X : x_X p S0 m args meth c cX8_takes 4 (some .int) RX8 wsX8_takes D (x_tys cI cZ cJ) A) (F : Nat) {r : Int32} {s' : CS}  : ∀ (n : Nat) (x1 x2 x3 : Int32) (s : CS) (ls : Array Slot), r_X8_takes_b21 F n x1 x2 x3 s = some (r, s') → lv_has ls 4 [(0, .ref (b 0)), (1, .int x1), (2, .int x2), (3, .int x3)] → x_W p l e rm_X8_takes S0 m args below meth c A D (mwld cI cZ b) 0 0 (x_Ri below args S0 A D (mwld cI cZ b) r s') s (F0 m 21 ls []) := by
  intro n
  induction n with
  | zero =>
    intro x1 x2 x3 s ls hf hl
    have hf : (none : Option (Int32 × CS)) = some (r, s') := hf
    cases hf
  | succ n ih =>
    intro x1 x2 x3 s ls hf hl
    rw [r_X8_takes_b21_s] at hf
    refine x_iload_n X dX8_takes_21 rfl hl 3 rfl ?_
    refine x_aload_n X dX8_takes_22 rfl hl 0 rfl ?_
    refine x_getf X in_X8_takes_X8 (mw_o _ _ _ _) rfl 8 (by decide) lk_X8_takes_23 rfl rfl dX8_takes_23 ?_
    refine x_iload_n X dX8_takes_26 rfl hl 1 rfl ?_
    obtain ⟨g6, hf⟩ := x_og_of hf
    refine x_iald X (1 + 1) 0 (mw_r1 _ _ _ _) rfl (x_in_of g6) dX8_takes_27 ?_
    refine x_icmp_ge (tgt := 59) X dX8_takes_28 rfl (fun q7 => ?_) (fun q7 => ?_)
    · have hf := (if_pos q7).symm.trans hf
      refine x_iload_n X dX8_takes_59 rfl hl 2 rfl ?_
      exact x_iret X rfl rfl hf dX8_takes_60
    · have hf := (if_neg q7).symm.trans hf
      refine x_aload_n X dX8_takes_31 rfl hl 0 rfl ?_
      refine x_getf X in_X8_takes_X8 (mw_o _ _ _ _) rfl 7 (by decide) lk_X8_takes_19 rfl rfl dX8_takes_32 ?_
      refine x_iconst X dX8_takes_35 xk_iconst_3 ?_
      refine x_iload_n X dX8_takes_36 rfl hl 1 rfl ?_
      refine x_imul X dX8_takes_37 ?_
      refine x_iload_n X dX8_takes_38 rfl hl 3 rfl ?_
      refine x_iadd X dX8_takes_39 ?_
      refine x_aload_n X dX8_takes_40 rfl hl 0 rfl ?_
      refine x_getf X in_X8_takes_X8 (mw_o _ _ _ _) rfl 7 (by decide) lk_X8_takes_19 rfl rfl dX8_takes_41 ?_
      refine x_iconst X dX8_takes_44 xk_iconst_3 ?_
      refine x_iload_n X dX8_takes_45 rfl hl 1 rfl ?_
      refine x_imul X dX8_takes_46 ?_
      refine x_iload_n X dX8_takes_47 rfl hl 3 rfl ?_
      refine x_iadd X dX8_takes_48 ?_
      refine x_iconst X dX8_takes_49 xk_iconst_1 ?_
      refine x_iadd X dX8_takes_50 ?_
      obtain ⟨g8, hf⟩ := x_og_of hf
      refine x_iald X (1 + 0) 0 (mw_r0 _ _ _ _) rfl (x_in_of g8) dX8_takes_51 ?_
      obtain ⟨g9, hf⟩ := x_og_of hf
      refine x_iast X (1 + 0) 0 (mw_r0 _ _ _ _) rfl (x_in_of g9) (mw_a0 _ _ _ _ _ _) dX8_takes_52 (fun s10 es10 => ?_)
      have hf := x_os_of es10 hf
      refine x_iinc (v := (x3 + (1 : Int32))) (lv' := [(3, .int (x3 + (1 : Int32))), (0, .ref (b 0)), (1, .int x1), (2, .int x2)]) X dX8_takes_53 hl (j := 3) rfl rfl (by decide) rfl (fun ls hl => ?_)
      refine x_goto (tgt := 21) X dX8_takes_56 rfl ?_
      exact ih x1 x2 (x3 + (1 : Int32)) s10 ls hf (lv_sub hl [1, 2, 3, 0] rfl)
set_option maxHeartbeats 4000000 in
set_option maxRecDepth 100000 in
theorem c_X8_takes (l : Launch) (D : va_G) (cI cZ cJ : ClassId) (b : Nat → Nat) (F : Nat) {s s' : CS} {r : Int32} {x1 : Int32} (hf : r_X8_takes F x1 s = some (r, s')) : x_Mi l yX8_takes wsX8_takes rm_X8_takes D (x_tys cI cZ cJ) (mwld cI cZ b) [.ref (b 0), .int x1] s r s' := by
  refine x_enteri (cc := cX8_takes) (nL := 4) (ty := .int) (own := RX8) (by decide) rfl rfl (Nat.le_of_ble_eq_true rfl) ?_
  intro p e S0 m args below meth c A X ls hl
  have hl : lv_has ls 4 [(0, .ref (b 0)), (1, .int x1)] := hl
  unfold r_X8_takes at hf
  refine x_aload_n X dX8_takes_0 rfl hl 0 rfl ?_
  refine x_getf X in_X8_takes_X8 (mw_o _ _ _ _) rfl 7 (by decide) lk_X8_takes_19 rfl rfl dX8_takes_1 ?_
  refine x_iconst X dX8_takes_4 xk_iconst_3 ?_
  refine x_iload_n X dX8_takes_5 rfl hl 1 rfl ?_
  refine x_imul X dX8_takes_6 ?_
  obtain ⟨g1, hf⟩ := x_og_of hf
  refine x_iald X (1 + 0) 0 (mw_r0 _ _ _ _) rfl (x_in_of g1) dX8_takes_7 ?_
  refine x_istore_n (lv' := [(0, .ref (b 0)), (1, .int x1)]) X dX8_takes_8 rfl hl (by decide) (fun _ => rfl) (fun x2_2 ls ex2_2 hl => ?_)
  have hf := x_oi_of ex2_2 hf
  refine x_aload_n X dX8_takes_9 rfl hl 1 rfl ?_
  refine x_getf X in_X8_takes_X8 (mw_o _ _ _ _) rfl 8 (by decide) lk_X8_takes_23 rfl rfl dX8_takes_10 ?_
  refine x_iload_n X dX8_takes_13 rfl hl 2 rfl ?_
  refine x_dup2 X dX8_takes_14 rfl rfl ?_
  obtain ⟨g3, hf⟩ := x_og_of hf
  refine x_iald X (1 + 1) 0 (mw_r1 _ _ _ _) rfl (x_in_of g3) dX8_takes_15 ?_
  refine x_iconst X dX8_takes_16 xk_iconst_1 ?_
  refine x_isub X dX8_takes_17 ?_
  obtain ⟨g4, hf⟩ := x_og_of hf
  refine x_iast X (1 + 1) 0 (mw_r1 _ _ _ _) rfl (x_in_of g4) (mw_a1 _ _ _ _ _ _) dX8_takes_18 (fun s5 es5 => ?_)
  have hf := x_os_of es5 hf
  refine x_iconst X dX8_takes_19 xk_iconst_0 ?_
  refine x_istoreA_n (lv' := [(3, .int (0 : Int32)), (2, .int x2_2), (0, .ref (b 0)), (1, .int x1)]) X dX8_takes_20 rfl hl (by decide) rfl (fun ls hl => ?_)
  exact b_X8_takes_21 X F F x1 x2_2 (0 : Int32) s5 ls hf (lv_sub hl [2, 3, 1, 0] rfl)
def rm_X8_send : Room := { frames := 1, cells := 0, slots := 0, locals := 23 }
theorem in_X8_send_X8 : ∀ w ∈ wsX80, w ∈ wsX8_send := by decide +kernel
theorem lk_X8_send_16 : Cond.fieldLink RX8 16 "CreditfabricModel" "room" "I" ∈ wsX8_send := by decide +kernel
theorem lk_X8_send_23 : Cond.fieldLink RX8 23 "CreditfabricModel" "many" "[I" ∈ wsX8_send := by decide +kernel
theorem lk_X8_send_35 : Cond.fieldLink RX8 35 "CreditfabricModel" "gap" "[I" ∈ wsX8_send := by decide +kernel
theorem lk_X8_send_38 : Cond.fieldLink RX8 38 "CreditfabricModel" "last" "[I" ∈ wsX8_send := by decide +kernel
theorem lk_X8_send_45 : Cond.fieldLink RX8 45 "CreditfabricModel" "goal" "[I" ∈ wsX8_send := by decide +kernel
theorem lk_X8_send_48 : Cond.fieldLink RX8 48 "CreditfabricModel" "source" "[I" ∈ wsX8_send := by decide +kernel
theorem lk_X8_send_51 : Cond.fieldLink RX8 51 "CreditfabricModel" "lane" "[I" ∈ wsX8_send := by decide +kernel
theorem lk_X8_send_54 : Cond.fieldLink RX8 54 "CreditfabricModel" "mode" "[I" ∈ wsX8_send := by decide +kernel
theorem lk_X8_send_57 : Cond.fieldLink RX8 57 "CreditfabricModel" "place" "[I" ∈ wsX8_send := by decide +kernel
theorem lk_X8_send_60 : Cond.fieldLink RX8 60 "CreditfabricModel" "hops" "[I" ∈ wsX8_send := by decide +kernel
theorem lk_X8_send_63 : Cond.fieldLink RX8 63 "CreditfabricModel" "isMarked" "[Z" ∈ wsX8_send := by decide +kernel
theorem lk_X8_send_82 : Cond.fieldLink RX8 82 "CreditfabricModel" "sent" "I" ∈ wsX8_send := by decide +kernel
theorem lk_X8_send_100 : Cond.fieldLink RX8 100 "CreditfabricModel" "tick" "I" ∈ wsX8_send := by decide +kernel
set_option maxHeartbeats 4000000 in
set_option maxRecDepth 100000 in
theorem b_X8_send_125 {p : Program} {l : Launch} {e : Env} {S0 : State} {m : MethodId} {args : Array Value} {below : List Frame} {meth : Method} {c : Code} {A : Nat → Prop} {D : va_G} {cI cZ cJ : ClassId} {b : Nat → Nat} (X : x_X p S0 m args meth c cX8_send 8 (some .int) RX8 wsX8_send D (x_tys cI cZ cJ) A) (F : Nat) {r : Int32} {s' : CS}  : ∀ (x1 x2 x3 x4 x5 x6 t0 : Int32) (s : CS) (ls : Array Slot), r_X8_send_b125 F x1 x2 x3 x4 x5 x6 t0 s = some (r, s') → lv_has ls 8 [(0, .ref (b 0)), (1, .int x1), (2, .int x2), (3, .int x3), (4, .int x4), (5, .int x5), (6, .int x6)] → x_W p l e rm_X8_send S0 m args below meth c A D (mwld cI cZ b) 0 0 (x_Ri below args S0 A D (mwld cI cZ b) r s') s (F0 m 125 ls [.int t0]) := by
  intro x1 x2 x3 x4 x5 x6 t0 s ls hf hl
  unfold r_X8_send_b125 at hf
  refine x_istoreA (lv' := [(7, .int t0), (0, .ref (b 0)), (1, .int x1), (2, .int x2), (3, .int x3), (4, .int x4), (5, .int x5), (6, .int x6)]) X dX8_send_125 hl (by decide) rfl (fun ls hl => ?_)
  refine x_aload_n X dX8_send_127 rfl hl 1 rfl ?_
  refine x_iload X dX8_send_128 hl 6 rfl ?_
  refine x_iload X dX8_send_130 hl 7 rfl ?_
  refine x_iload X dX8_send_132 hl 0 rfl ?_
  obtain ⟨v8, s7, c9, hf⟩ := x_ob_of hf
  refine x_cVi X 0 8 (mw_o _ _ _ _) rfl rfl (c_X8_goes l D cI cZ cJ b F c9) (cwV 3 X.2.2.2.2.1 gX8_send_X8_goes rfl rfl rfl (by decide +kernel) ⟨Nat.le_of_ble_eq_true rfl, Nat.le_of_ble_eq_true rfl⟩) rfl hl rfl (Nat.le_of_ble_eq_true rfl) ⟨Nat.zero_le _, Nat.zero_le _⟩ dX8_send_134 ?_
  refine x_if_ne (tgt := 142) X dX8_send_137 rfl (fun q10 => ?_) (fun q10 => ?_)
  · have hf := (if_neg q10).symm.trans hf
    refine x_aload_n X dX8_send_142 rfl hl 1 rfl ?_
    refine x_getf X in_X8_send_X8 (mw_o _ _ _ _) rfl 16 (by decide) lk_X8_send_48 rfl rfl dX8_send_143 ?_
    refine x_aload_n X dX8_send_146 rfl hl 1 rfl ?_
    refine x_getf X in_X8_send_X8 (mw_o _ _ _ _) rfl 5 (by decide) lk_X8_send_82 rfl rfl dX8_send_147 ?_
    refine x_iload_n X dX8_send_150 rfl hl 2 rfl ?_
    obtain ⟨g11, hf⟩ := x_og_of hf
    refine x_iast X (1 + 9) 0 (mw_r9 _ _ _ _) rfl (x_in_of g11) (mw_a9 _ _ _ _ _ _) dX8_send_151 (fun s12 es12 => ?_)
    have hf := x_os_of es12 hf
    refine x_aload_n X dX8_send_152 rfl hl 1 rfl ?_
    refine x_getf X in_X8_send_X8 (mw_o _ _ _ _) rfl 15 (by decide) lk_X8_send_45 rfl rfl dX8_send_153 ?_
    refine x_aload_n X dX8_send_156 rfl hl 1 rfl ?_
    refine x_getf X in_X8_send_X8 (mw_o _ _ _ _) rfl 5 (by decide) lk_X8_send_82 rfl rfl dX8_send_157 ?_
    refine x_iload_n X dX8_send_160 rfl hl 3 rfl ?_
    obtain ⟨g13, hf⟩ := x_og_of hf
    refine x_iast X (1 + 8) 0 (mw_r8 _ _ _ _) rfl (x_in_of g13) (mw_a8 _ _ _ _ _ _) dX8_send_161 (fun s14 es14 => ?_)
    have hf := x_os_of es14 hf
    refine x_aload_n X dX8_send_162 rfl hl 1 rfl ?_
    refine x_getf X in_X8_send_X8 (mw_o _ _ _ _) rfl 17 (by decide) lk_X8_send_51 rfl rfl dX8_send_163 ?_
    refine x_aload_n X dX8_send_166 rfl hl 1 rfl ?_
    refine x_getf X in_X8_send_X8 (mw_o _ _ _ _) rfl 5 (by decide) lk_X8_send_82 rfl rfl dX8_send_167 ?_
    refine x_iload_n X dX8_send_170 rfl hl 4 rfl ?_
    obtain ⟨g15, hf⟩ := x_og_of hf
    refine x_iast X (1 + 10) 0 (mw_r10 _ _ _ _) rfl (x_in_of g15) (mw_a10 _ _ _ _ _ _) dX8_send_171 (fun s16 es16 => ?_)
    have hf := x_os_of es16 hf
    refine x_aload_n X dX8_send_172 rfl hl 1 rfl ?_
    refine x_getf X in_X8_send_X8 (mw_o _ _ _ _) rfl 18 (by decide) lk_X8_send_54 rfl rfl dX8_send_173 ?_
    refine x_aload_n X dX8_send_176 rfl hl 1 rfl ?_
    refine x_getf X in_X8_send_X8 (mw_o _ _ _ _) rfl 5 (by decide) lk_X8_send_82 rfl rfl dX8_send_177 ?_
    refine x_iload X dX8_send_180 hl 5 rfl ?_
    obtain ⟨g17, hf⟩ := x_og_of hf
    refine x_iast X (1 + 11) 0 (mw_r11 _ _ _ _) rfl (x_in_of g17) (mw_a11 _ _ _ _ _ _) dX8_send_182 (fun s18 es18 => ?_)
    have hf := x_os_of es18 hf
    refine x_aload_n X dX8_send_183 rfl hl 1 rfl ?_
    refine x_getf X in_X8_send_X8 (mw_o _ _ _ _) rfl 19 (by decide) lk_X8_send_57 rfl rfl dX8_send_184 ?_
    refine x_aload_n X dX8_send_187 rfl hl 1 rfl ?_
    refine x_getf X in_X8_send_X8 (mw_o _ _ _ _) rfl 5 (by decide) lk_X8_send_82 rfl rfl dX8_send_188 ?_
    refine x_iload_n X dX8_send_191 rfl hl 2 rfl ?_
    obtain ⟨g19, hf⟩ := x_og_of hf
    refine x_iast X (1 + 12) 0 (mw_r12 _ _ _ _) rfl (x_in_of g19) (mw_a12 _ _ _ _ _ _) dX8_send_192 (fun s20 es20 => ?_)
    have hf := x_os_of es20 hf
    refine x_aload_n X dX8_send_193 rfl hl 1 rfl ?_
    refine x_getf X in_X8_send_X8 (mw_o _ _ _ _) rfl 20 (by decide) lk_X8_send_60 rfl rfl dX8_send_194 ?_
    refine x_aload_n X dX8_send_197 rfl hl 1 rfl ?_
    refine x_getf X in_X8_send_X8 (mw_o _ _ _ _) rfl 5 (by decide) lk_X8_send_82 rfl rfl dX8_send_198 ?_
    refine x_iconst X dX8_send_201 xk_iconst_0 ?_
    obtain ⟨g21, hf⟩ := x_og_of hf
    refine x_iast X (1 + 13) 0 (mw_r13 _ _ _ _) rfl (x_in_of g21) (mw_a13 _ _ _ _ _ _) dX8_send_202 (fun s22 es22 => ?_)
    have hf := x_os_of es22 hf
    refine x_aload_n X dX8_send_203 rfl hl 1 rfl ?_
    refine x_getf X in_X8_send_X8 (mw_o _ _ _ _) rfl 21 (by decide) lk_X8_send_63 rfl rfl dX8_send_204 ?_
    refine x_aload_n X dX8_send_207 rfl hl 1 rfl ?_
    refine x_getf X in_X8_send_X8 (mw_o _ _ _ _) rfl 5 (by decide) lk_X8_send_82 rfl rfl dX8_send_208 ?_
    refine x_iconst X dX8_send_211 xk_iconst_0 ?_
    obtain ⟨g23, hf⟩ := x_og_of hf
    refine x_zast X (1 + 14) 1 (mw_r14 _ _ _ _) rfl (x_in_of g23) (mw_a14 _ _ _ _ _ _) dX8_send_212 (fun s24 es24 => ?_)
    have hf := x_os_of es24 hf
    refine x_aload_n X dX8_send_213 rfl hl 1 rfl ?_
    refine x_iload_n X dX8_send_214 rfl hl 2 rfl ?_
    refine x_iconst X dX8_send_215 xk_iconst_4 ?_
    refine x_iload_n X dX8_send_216 rfl hl 4 rfl ?_
    obtain ⟨v26, s25, c27, hf⟩ := x_ob_of hf
    refine x_cSi X (c_X8_bufferOf l D cI cZ cJ b F c27) (va_cwS 3 X.2.2.2.2.1 gX8_send_X8_bufferOf rfl rfl rfl (by decide +kernel) ⟨Nat.le_of_ble_eq_true rfl, Nat.le_of_ble_eq_true rfl⟩) rfl hl rfl (Nat.le_of_ble_eq_true rfl) ⟨Nat.zero_le _, Nat.zero_le _⟩ dX8_send_217 ?_
    refine x_aload_n X dX8_send_220 rfl hl 1 rfl ?_
    refine x_getf X in_X8_send_X8 (mw_o _ _ _ _) rfl 5 (by decide) lk_X8_send_82 rfl rfl dX8_send_221 ?_
    obtain ⟨v29, s28, c30, hf⟩ := x_ob_of hf
    refine x_cVv X 0 8 (mw_o _ _ _ _) rfl rfl (c_X8_puts l D cI cZ cJ b F c30) (cwV 2 X.2.2.2.2.1 gX8_send_X8_puts rfl rfl rfl (by decide +kernel) ⟨Nat.le_of_ble_eq_true rfl, Nat.le_of_ble_eq_true rfl⟩) rfl hl rfl (Nat.le_of_ble_eq_true rfl) ⟨Nat.zero_le _, Nat.zero_le _⟩ dX8_send_224 ?_
    refine x_aload_n X dX8_send_227 rfl hl 1 rfl ?_
    refine x_getf X in_X8_send_X8 (mw_o _ _ _ _) rfl 13 (by decide) lk_X8_send_38 rfl rfl dX8_send_228 ?_
    refine x_iload_n X dX8_send_231 rfl hl 2 rfl ?_
    refine x_aload_n X dX8_send_232 rfl hl 1 rfl ?_
    refine x_getf X in_X8_send_X8 (mw_o _ _ _ _) rfl 4 (by decide) lk_X8_send_100 rfl rfl dX8_send_233 ?_
    obtain ⟨g31, hf⟩ := x_og_of hf
    refine x_iast X (1 + 6) 0 (mw_r6 _ _ _ _) rfl (x_in_of g31) (mw_a6 _ _ _ _ _ _) dX8_send_236 (fun s32 es32 => ?_)
    have hf := x_os_of es32 hf
    refine x_aload_n X dX8_send_237 rfl hl 1 rfl ?_
    refine x_dup X dX8_send_238 rfl ?_
    refine x_getf X in_X8_send_X8 (mw_o _ _ _ _) rfl 5 (by decide) lk_X8_send_82 rfl rfl dX8_send_239 ?_
    refine x_iconst X dX8_send_242 xk_iconst_1 ?_
    refine x_iadd X dX8_send_243 ?_
    refine x_puti X in_X8_send_X8 (mw_o _ _ _ _) rfl 5 (by decide) tyX8 tyX8_ok nmX8 lk_X8_send_82 rfl rfl (by decide +kernel) (Nat.le_of_ble_eq_true rfl) (mw_s5 _ _ _ _ _) dX8_send_244 (fun s33 es33 => ?_)
    have hf := x_os_of es33 hf
    refine x_aload_n X dX8_send_247 rfl hl 1 rfl ?_
    refine x_getf X in_X8_send_X8 (mw_o _ _ _ _) rfl 5 (by decide) lk_X8_send_82 rfl rfl dX8_send_248 ?_
    refine x_iconst X dX8_send_251 xk_iconst_1 ?_
    refine x_isub X dX8_send_252 ?_
    exact x_iret X rfl rfl hf dX8_send_253
  · have hf := (if_pos q10).symm.trans hf
    refine x_iconst X dX8_send_140 xk_iconst_0 ?_
    exact x_iret X rfl rfl hf dX8_send_141
set_option maxHeartbeats 4000000 in
set_option maxRecDepth 100000 in
theorem b_X8_send_124 {p : Program} {l : Launch} {e : Env} {S0 : State} {m : MethodId} {args : Array Value} {below : List Frame} {meth : Method} {c : Code} {A : Nat → Prop} {D : va_G} {cI cZ cJ : ClassId} {b : Nat → Nat} (X : x_X p S0 m args meth c cX8_send 8 (some .int) RX8 wsX8_send D (x_tys cI cZ cJ) A) (F : Nat) {r : Int32} {s' : CS}  : ∀ (x1 x2 x3 x4 x5 x6 : Int32) (s : CS) (ls : Array Slot), r_X8_send_b124 F x1 x2 x3 x4 x5 x6 s = some (r, s') → lv_has ls 8 [(0, .ref (b 0)), (1, .int x1), (2, .int x2), (3, .int x3), (4, .int x4), (5, .int x5), (6, .int x6)] → x_W p l e rm_X8_send S0 m args below meth c A D (mwld cI cZ b) 0 0 (x_Ri below args S0 A D (mwld cI cZ b) r s') s (F0 m 124 ls []) := by
  intro x1 x2 x3 x4 x5 x6 s ls hf hl
  unfold r_X8_send_b124 at hf
  refine x_iconst X dX8_send_124 xk_iconst_0 ?_
  exact b_X8_send_125 X F x1 x2 x3 x4 x5 x6 (0 : Int32) s ls hf (lv_sub hl [0, 1, 2, 3, 4, 5, 6] rfl)
set_option maxHeartbeats 4000000 in
set_option maxRecDepth 100000 in
theorem b_X8_send_120 {p : Program} {l : Launch} {e : Env} {S0 : State} {m : MethodId} {args : Array Value} {below : List Frame} {meth : Method} {c : Code} {A : Nat → Prop} {D : va_G} {cI cZ cJ : ClassId} {b : Nat → Nat} (X : x_X p S0 m args meth c cX8_send 8 (some .int) RX8 wsX8_send D (x_tys cI cZ cJ) A) (F : Nat) {r : Int32} {s' : CS}  : ∀ (x1 x2 x3 x4 x5 x6 : Int32) (s : CS) (ls : Array Slot), r_X8_send_b120 F x1 x2 x3 x4 x5 x6 s = some (r, s') → lv_has ls 8 [(0, .ref (b 0)), (1, .int x1), (2, .int x2), (3, .int x3), (4, .int x4), (5, .int x5), (6, .int x6)] → x_W p l e rm_X8_send S0 m args below meth c A D (mwld cI cZ b) 0 0 (x_Ri below args S0 A D (mwld cI cZ b) r s') s (F0 m 120 ls []) := by
  intro x1 x2 x3 x4 x5 x6 s ls hf hl
  unfold r_X8_send_b120 at hf
  refine x_iconst X dX8_send_120 xk_iconst_1 ?_
  refine x_goto (tgt := 125) X dX8_send_121 rfl ?_
  exact b_X8_send_125 X F x1 x2 x3 x4 x5 x6 (1 : Int32) s ls hf (lv_sub hl [0, 1, 2, 3, 4, 5, 6] rfl)
set_option maxHeartbeats 4000000 in
set_option maxRecDepth 100000 in
theorem b_X8_send_52 {p : Program} {l : Launch} {e : Env} {S0 : State} {m : MethodId} {args : Array Value} {below : List Frame} {meth : Method} {c : Code} {A : Nat → Prop} {D : va_G} {cI cZ cJ : ClassId} {b : Nat → Nat} (X : x_X p S0 m args meth c cX8_send 8 (some .int) RX8 wsX8_send D (x_tys cI cZ cJ) A) (F : Nat) {r : Int32} {s' : CS}  : ∀ (x1 x2 x3 x4 x5 t0 : Int32) (s : CS) (ls : Array Slot), r_X8_send_b52 F x1 x2 x3 x4 x5 t0 s = some (r, s') → lv_has ls 8 [(0, .ref (b 0)), (1, .int x1), (2, .int x2), (3, .int x3), (4, .int x4), (5, .int x5)] → x_W p l e rm_X8_send S0 m args below meth c A D (mwld cI cZ b) 0 0 (x_Ri below args S0 A D (mwld cI cZ b) r s') s (F0 m 52 ls [.int t0]) := by
  intro x1 x2 x3 x4 x5 t0 s ls hf hl
  unfold r_X8_send_b52 at hf
  refine x_istoreA (lv' := [(6, .int t0), (0, .ref (b 0)), (1, .int x1), (2, .int x2), (3, .int x3), (4, .int x4), (5, .int x5)]) X dX8_send_52 hl (by decide) rfl (fun ls hl => ?_)
  refine x_iload X dX8_send_54 hl 6 rfl ?_
  refine x_if_eq (tgt := 124) X dX8_send_56 rfl (fun q6 => ?_) (fun q6 => ?_)
  · have hf := (if_pos q6).symm.trans hf
    exact b_X8_send_124 X F x1 x2 x3 x4 x5 t0 s ls hf (lv_sub hl [1, 2, 3, 4, 5, 6, 0] rfl)
  · have hf := (if_neg q6).symm.trans hf
    refine x_iload X dX8_send_59 hl 0 rfl ?_
    refine x_if_eq (tgt := 124) X dX8_send_61 rfl (fun q34 => ?_) (fun q34 => ?_)
    · have hf := (if_pos q34).symm.trans hf
      exact b_X8_send_124 X F x1 x2 x3 x4 x5 t0 s ls hf (lv_sub hl [1, 2, 3, 4, 5, 6, 0] rfl)
    · have hf := (if_neg q34).symm.trans hf
      refine x_aload_n X dX8_send_64 rfl hl 1 rfl ?_
      refine x_getf X in_X8_send_X8 (mw_o _ _ _ _) rfl 5 (by decide) lk_X8_send_82 rfl rfl dX8_send_65 ?_
      refine x_bipush X dX8_send_68 xk_bipush_80 ?_
      refine x_icmp_ge (tgt := 124) X dX8_send_70 rfl (fun q35 => ?_) (fun q35 => ?_)
      · have hf := (if_pos q35).symm.trans hf
        exact b_X8_send_124 X F x1 x2 x3 x4 x5 t0 s ls hf (lv_sub hl [1, 2, 3, 4, 5, 6, 0] rfl)
      · have hf := (if_neg q35).symm.trans hf
        refine x_aload_n X dX8_send_73 rfl hl 1 rfl ?_
        refine x_getf X in_X8_send_X8 (mw_o _ _ _ _) rfl 8 (by decide) lk_X8_send_23 rfl rfl dX8_send_74 ?_
        refine x_iload_n X dX8_send_77 rfl hl 2 rfl ?_
        refine x_iconst X dX8_send_78 xk_iconst_4 ?_
        refine x_iload_n X dX8_send_79 rfl hl 4 rfl ?_
        obtain ⟨v37, s36, c38, hf⟩ := x_ob_of hf
        refine x_cSi X (c_X8_bufferOf l D cI cZ cJ b F c38) (va_cwS 3 X.2.2.2.2.1 gX8_send_X8_bufferOf rfl rfl rfl (by decide +kernel) ⟨Nat.le_of_ble_eq_true rfl, Nat.le_of_ble_eq_true rfl⟩) rfl hl rfl (Nat.le_of_ble_eq_true rfl) ⟨Nat.zero_le _, Nat.zero_le _⟩ dX8_send_80 ?_
        obtain ⟨g39, hf⟩ := x_og_of hf
        refine x_iald X (1 + 1) 0 (mw_r1 _ _ _ _) rfl (x_in_of g39) dX8_send_83 ?_
        refine x_aload_n X dX8_send_84 rfl hl 1 rfl ?_
        refine x_getf X in_X8_send_X8 (mw_o _ _ _ _) rfl 2 (by decide) lk_X8_send_16 rfl rfl dX8_send_85 ?_
        refine x_icmp_ge (tgt := 124) X dX8_send_88 rfl (fun q40 => ?_) (fun q40 => ?_)
        · have hf := (if_pos q40).symm.trans hf
          exact b_X8_send_124 X F x1 x2 x3 x4 x5 t0 s36 ls hf (lv_sub hl [1, 2, 3, 4, 5, 6, 0] rfl)
        · have hf := (if_neg q40).symm.trans hf
          refine x_aload_n X dX8_send_91 rfl hl 1 rfl ?_
          refine x_getf X in_X8_send_X8 (mw_o _ _ _ _) rfl 13 (by decide) lk_X8_send_38 rfl rfl dX8_send_92 ?_
          refine x_iload_n X dX8_send_95 rfl hl 2 rfl ?_
          obtain ⟨g41, hf⟩ := x_og_of hf
          refine x_iald X (1 + 6) 0 (mw_r6 _ _ _ _) rfl (x_in_of g41) dX8_send_96 ?_
          refine x_if_lt (tgt := 120) X dX8_send_97 rfl (fun q42 => ?_) (fun q42 => ?_)
          · have hf := (if_pos q42).symm.trans hf
            exact b_X8_send_120 X F x1 x2 x3 x4 x5 t0 s36 ls hf (lv_sub hl [1, 2, 3, 4, 5, 6, 0] rfl)
          · have hf := (if_neg q42).symm.trans hf
            refine x_aload_n X dX8_send_100 rfl hl 1 rfl ?_
            refine x_getf X in_X8_send_X8 (mw_o _ _ _ _) rfl 4 (by decide) lk_X8_send_100 rfl rfl dX8_send_101 ?_
            refine x_aload_n X dX8_send_104 rfl hl 1 rfl ?_
            refine x_getf X in_X8_send_X8 (mw_o _ _ _ _) rfl 13 (by decide) lk_X8_send_38 rfl rfl dX8_send_105 ?_
            refine x_iload_n X dX8_send_108 rfl hl 2 rfl ?_
            obtain ⟨g43, hf⟩ := x_og_of hf
            refine x_iald X (1 + 6) 0 (mw_r6 _ _ _ _) rfl (x_in_of g43) dX8_send_109 ?_
            refine x_isub X dX8_send_110 ?_
            refine x_aload_n X dX8_send_111 rfl hl 1 rfl ?_
            refine x_getf X in_X8_send_X8 (mw_o _ _ _ _) rfl 12 (by decide) lk_X8_send_35 rfl rfl dX8_send_112 ?_
            refine x_iload_n X dX8_send_115 rfl hl 2 rfl ?_
            obtain ⟨g44, hf⟩ := x_og_of hf
            refine x_iald X (1 + 5) 0 (mw_r5 _ _ _ _) rfl (x_in_of g44) dX8_send_116 ?_
            refine x_icmp_lt (tgt := 124) X dX8_send_117 rfl (fun q45 => ?_) (fun q45 => ?_)
            · have hf := (if_pos q45).symm.trans hf
              exact b_X8_send_124 X F x1 x2 x3 x4 x5 t0 s36 ls hf (lv_sub hl [1, 2, 3, 4, 5, 6, 0] rfl)
            · have hf := (if_neg q45).symm.trans hf
              exact b_X8_send_120 X F x1 x2 x3 x4 x5 t0 s36 ls hf (lv_sub hl [1, 2, 3, 4, 5, 6, 0] rfl)
set_option maxHeartbeats 4000000 in
set_option maxRecDepth 100000 in
theorem b_X8_send_51 {p : Program} {l : Launch} {e : Env} {S0 : State} {m : MethodId} {args : Array Value} {below : List Frame} {meth : Method} {c : Code} {A : Nat → Prop} {D : va_G} {cI cZ cJ : ClassId} {b : Nat → Nat} (X : x_X p S0 m args meth c cX8_send 8 (some .int) RX8 wsX8_send D (x_tys cI cZ cJ) A) (F : Nat) {r : Int32} {s' : CS}  : ∀ (x1 x2 x3 x4 x5 : Int32) (s : CS) (ls : Array Slot), r_X8_send_b51 F x1 x2 x3 x4 x5 s = some (r, s') → lv_has ls 8 [(0, .ref (b 0)), (1, .int x1), (2, .int x2), (3, .int x3), (4, .int x4), (5, .int x5)] → x_W p l e rm_X8_send S0 m args below meth c A D (mwld cI cZ b) 0 0 (x_Ri below args S0 A D (mwld cI cZ b) r s') s (F0 m 51 ls []) := by
  intro x1 x2 x3 x4 x5 s ls hf hl
  unfold r_X8_send_b51 at hf
  refine x_iconst X dX8_send_51 xk_iconst_0 ?_
  exact b_X8_send_52 X F x1 x2 x3 x4 x5 (0 : Int32) s ls hf (lv_sub hl [0, 1, 2, 3, 4, 5] rfl)
set_option maxHeartbeats 4000000 in
set_option maxRecDepth 100000 in
theorem b_X8_send_21 {p : Program} {l : Launch} {e : Env} {S0 : State} {m : MethodId} {args : Array Value} {below : List Frame} {meth : Method} {c : Code} {A : Nat → Prop} {D : va_G} {cI cZ cJ : ClassId} {b : Nat → Nat} (X : x_X p S0 m args meth c cX8_send 8 (some .int) RX8 wsX8_send D (x_tys cI cZ cJ) A) (F : Nat) {r : Int32} {s' : CS}  : ∀ (x1 x2 x3 x4 t0 : Int32) (s : CS) (ls : Array Slot), r_X8_send_b21 F x1 x2 x3 x4 t0 s = some (r, s') → lv_has ls 8 [(0, .ref (b 0)), (1, .int x1), (2, .int x2), (3, .int x3), (4, .int x4)] → x_W p l e rm_X8_send S0 m args below meth c A D (mwld cI cZ b) 0 0 (x_Ri below args S0 A D (mwld cI cZ b) r s') s (F0 m 21 ls [.int t0]) := by
  intro x1 x2 x3 x4 t0 s ls hf hl
  unfold r_X8_send_b21 at hf
  refine x_istoreA (lv' := [(5, .int t0), (0, .ref (b 0)), (1, .int x1), (2, .int x2), (3, .int x3), (4, .int x4)]) X dX8_send_21 hl (by decide) rfl (fun ls hl => ?_)
  refine x_iload_n X dX8_send_23 rfl hl 2 rfl ?_
  refine x_iload_n X dX8_send_24 rfl hl 3 rfl ?_
  refine x_icmp_eq (tgt := 51) X dX8_send_25 rfl (fun q5 => ?_) (fun q5 => ?_)
  · have hf := (if_pos q5).symm.trans hf
    exact b_X8_send_51 X F x1 x2 x3 x4 t0 s ls hf (lv_sub hl [1, 2, 3, 4, 5, 0] rfl)
  · have hf := (if_neg q5).symm.trans hf
    refine x_iload_n X dX8_send_28 rfl hl 4 rfl ?_
    refine x_iconst X dX8_send_29 xk_iconst_0 ?_
    refine x_iconst X dX8_send_30 xk_iconst_1 ?_
    obtain ⟨v47, s46, c48, hf⟩ := x_ob_of hf
    refine x_cSi X (c_X8_isWithin l D cI cZ cJ b F c48) (va_cwS 3 X.2.2.2.2.1 gX8_send_X8_isWithin rfl rfl rfl (by decide +kernel) ⟨Nat.le_of_ble_eq_true rfl, Nat.le_of_ble_eq_true rfl⟩) rfl hl rfl (Nat.le_of_ble_eq_true rfl) ⟨Nat.zero_le _, Nat.zero_le _⟩ dX8_send_31 ?_
    refine x_if_eq (tgt := 51) X dX8_send_34 rfl (fun q49 => ?_) (fun q49 => ?_)
    · have hf := (if_pos q49).symm.trans hf
      exact b_X8_send_51 X F x1 x2 x3 x4 t0 s46 ls hf (lv_sub hl [1, 2, 3, 4, 5, 0] rfl)
    · have hf := (if_neg q49).symm.trans hf
      refine x_iload X dX8_send_37 hl 5 rfl ?_
      refine x_iconst X dX8_send_39 xk_iconst_0 ?_
      refine x_iconst X dX8_send_40 xk_iconst_1 ?_
      obtain ⟨v51, s50, c52, hf⟩ := x_ob_of hf
      refine x_cSi X (c_X8_isWithin l D cI cZ cJ b F c52) (va_cwS 3 X.2.2.2.2.1 gX8_send_X8_isWithin rfl rfl rfl (by decide +kernel) ⟨Nat.le_of_ble_eq_true rfl, Nat.le_of_ble_eq_true rfl⟩) rfl hl rfl (Nat.le_of_ble_eq_true rfl) ⟨Nat.zero_le _, Nat.zero_le _⟩ dX8_send_41 ?_
      refine x_if_eq (tgt := 51) X dX8_send_44 rfl (fun q53 => ?_) (fun q53 => ?_)
      · have hf := (if_pos q53).symm.trans hf
        exact b_X8_send_51 X F x1 x2 x3 x4 t0 s50 ls hf (lv_sub hl [1, 2, 3, 4, 5, 0] rfl)
      · have hf := (if_neg q53).symm.trans hf
        refine x_iconst X dX8_send_47 xk_iconst_1 ?_
        refine x_goto (tgt := 52) X dX8_send_48 rfl ?_
        exact b_X8_send_52 X F x1 x2 x3 x4 t0 (1 : Int32) s50 ls hf (lv_sub hl [1, 2, 3, 4, 5, 0] rfl)
set_option maxHeartbeats 4000000 in
set_option maxRecDepth 100000 in
theorem b_X8_send_20 {p : Program} {l : Launch} {e : Env} {S0 : State} {m : MethodId} {args : Array Value} {below : List Frame} {meth : Method} {c : Code} {A : Nat → Prop} {D : va_G} {cI cZ cJ : ClassId} {b : Nat → Nat} (X : x_X p S0 m args meth c cX8_send 8 (some .int) RX8 wsX8_send D (x_tys cI cZ cJ) A) (F : Nat) {r : Int32} {s' : CS}  : ∀ (x1 x2 x3 x4 : Int32) (s : CS) (ls : Array Slot), r_X8_send_b20 F x1 x2 x3 x4 s = some (r, s') → lv_has ls 8 [(0, .ref (b 0)), (1, .int x1), (2, .int x2), (3, .int x3), (4, .int x4)] → x_W p l e rm_X8_send S0 m args below meth c A D (mwld cI cZ b) 0 0 (x_Ri below args S0 A D (mwld cI cZ b) r s') s (F0 m 20 ls []) := by
  intro x1 x2 x3 x4 s ls hf hl
  unfold r_X8_send_b20 at hf
  refine x_iconst X dX8_send_20 xk_iconst_0 ?_
  exact b_X8_send_21 X F x1 x2 x3 x4 (0 : Int32) s ls hf (lv_sub hl [0, 1, 2, 3, 4] rfl)
set_option maxHeartbeats 4000000 in
set_option maxRecDepth 100000 in
theorem c_X8_send (l : Launch) (D : va_G) (cI cZ cJ : ClassId) (b : Nat → Nat) (F : Nat) {s s' : CS} {r : Int32} {x1 x2 x3 x4 : Int32} (hf : r_X8_send F x1 x2 x3 x4 s = some (r, s')) : x_Mi l yX8_send wsX8_send rm_X8_send D (x_tys cI cZ cJ) (mwld cI cZ b) [.ref (b 0), .int x1, .int x2, .int x3, .int x4] s r s' := by
  refine x_enteri (cc := cX8_send) (nL := 8) (ty := .int) (own := RX8) (by decide) rfl rfl (Nat.le_of_ble_eq_true rfl) ?_
  intro p e S0 m args below meth c A X ls hl
  have hl : lv_has ls 8 [(0, .ref (b 0)), (1, .int x1), (2, .int x2), (3, .int x3), (4, .int x4)] := hl
  unfold r_X8_send at hf
  refine x_aload_n X dX8_send_0 rfl hl 0 rfl ?_
  refine x_iload_n X dX8_send_1 rfl hl 1 rfl ?_
  obtain ⟨v2, s1, c3, hf⟩ := x_ob_of hf
  refine x_cVi X 0 8 (mw_o _ _ _ _) rfl rfl (c_X8_isSwitch l D cI cZ cJ b F c3) (cwV 1 X.2.2.2.2.1 gX8_send_X8_isSwitch rfl rfl rfl (by decide +kernel) ⟨Nat.le_of_ble_eq_true rfl, Nat.le_of_ble_eq_true rfl⟩) rfl hl rfl (Nat.le_of_ble_eq_true rfl) ⟨Nat.zero_le _, Nat.zero_le _⟩ dX8_send_2 ?_
  refine x_if_eq (tgt := 20) X dX8_send_5 rfl (fun q4 => ?_) (fun q4 => ?_)
  · have hf := (if_pos q4).symm.trans hf
    exact b_X8_send_20 X F x1 x2 x3 x4 s1 ls hf (lv_sub hl [0, 1, 2, 3, 4] rfl)
  · have hf := (if_neg q4).symm.trans hf
    refine x_aload_n X dX8_send_8 rfl hl 0 rfl ?_
    refine x_iload_n X dX8_send_9 rfl hl 2 rfl ?_
    obtain ⟨v55, s54, c56, hf⟩ := x_ob_of hf
    refine x_cVi X 0 8 (mw_o _ _ _ _) rfl rfl (c_X8_isSwitch l D cI cZ cJ b F c56) (cwV 1 X.2.2.2.2.1 gX8_send_X8_isSwitch rfl rfl rfl (by decide +kernel) ⟨Nat.le_of_ble_eq_true rfl, Nat.le_of_ble_eq_true rfl⟩) rfl hl rfl (Nat.le_of_ble_eq_true rfl) ⟨Nat.zero_le _, Nat.zero_le _⟩ dX8_send_10 ?_
    refine x_if_eq (tgt := 20) X dX8_send_13 rfl (fun q57 => ?_) (fun q57 => ?_)
    · have hf := (if_pos q57).symm.trans hf
      exact b_X8_send_20 X F x1 x2 x3 x4 s54 ls hf (lv_sub hl [0, 1, 2, 3, 4] rfl)
    · have hf := (if_neg q57).symm.trans hf
      refine x_iconst X dX8_send_16 xk_iconst_1 ?_
      refine x_goto (tgt := 21) X dX8_send_17 rfl ?_
      exact b_X8_send_21 X F x1 x2 x3 x4 (1 : Int32) s54 ls hf (lv_sub hl [0, 1, 2, 3, 4] rfl)
def rm_X8_wanted : Room := { frames := 0, cells := 0, slots := 0, locals := 0 }
theorem in_X8_wanted_X8 : ∀ w ∈ wsX80, w ∈ wsX8_wanted := by decide +kernel
theorem lk_X8_wanted_7 : Cond.fieldLink RX8 7 "CreditfabricModel" "columns" "I" ∈ wsX8_wanted := by decide +kernel
theorem lk_X8_wanted_45 : Cond.fieldLink RX8 45 "CreditfabricModel" "goal" "[I" ∈ wsX8_wanted := by decide +kernel
theorem lk_X8_wanted_54 : Cond.fieldLink RX8 54 "CreditfabricModel" "mode" "[I" ∈ wsX8_wanted := by decide +kernel
set_option maxHeartbeats 4000000 in
set_option maxRecDepth 100000 in
theorem b_X8_wanted_136 {p : Program} {l : Launch} {e : Env} {S0 : State} {m : MethodId} {args : Array Value} {below : List Frame} {meth : Method} {c : Code} {A : Nat → Prop} {D : va_G} {cI cZ cJ : ClassId} {b : Nat → Nat} (X : x_X p S0 m args meth c cX8_wanted 9 (some .int) RX8 wsX8_wanted D (x_tys cI cZ cJ) A) (F : Nat) {r : Int32} {s' : CS}  : ∀ (t0 : Int32) (s : CS) (ls : Array Slot), r_X8_wanted_b136 F t0 s = some (r, s') → lv_has ls 9 [] → x_W p l e rm_X8_wanted S0 m args below meth c A D (mwld cI cZ b) 0 0 (x_Ri below args S0 A D (mwld cI cZ b) r s') s (F0 m 136 ls [.int t0]) := by
  intro t0 s ls hf hl
  unfold r_X8_wanted_b136 at hf
  exact x_iret X rfl rfl hf dX8_wanted_136
set_option maxHeartbeats 4000000 in
set_option maxRecDepth 100000 in
theorem b_X8_wanted_113 {p : Program} {l : Launch} {e : Env} {S0 : State} {m : MethodId} {args : Array Value} {below : List Frame} {meth : Method} {c : Code} {A : Nat → Prop} {D : va_G} {cI cZ cJ : ClassId} {b : Nat → Nat} (X : x_X p S0 m args meth c cX8_wanted 9 (some .int) RX8 wsX8_wanted D (x_tys cI cZ cJ) A) (F : Nat) {r : Int32} {s' : CS}  : ∀ (x7 t0 : Int32) (s : CS) (ls : Array Slot), r_X8_wanted_b113 F x7 t0 s = some (r, s') → lv_has ls 9 [(7, .int x7)] → x_W p l e rm_X8_wanted S0 m args below meth c A D (mwld cI cZ b) 0 0 (x_Ri below args S0 A D (mwld cI cZ b) r s') s (F0 m 113 ls [.int t0]) := by
  intro x7 t0 s ls hf hl
  unfold r_X8_wanted_b113 at hf
  refine x_istoreA (lv' := [(8, .int t0), (7, .int x7)]) X dX8_wanted_113 hl (by decide) rfl (fun ls hl => ?_)
  refine x_iload X dX8_wanted_115 hl 1 rfl ?_
  refine x_if_lt (tgt := 125) X dX8_wanted_117 rfl (fun q17 => ?_) (fun q17 => ?_)
  · have hf := (if_pos q17).symm.trans hf
    refine x_iload X dX8_wanted_125 hl 0 rfl ?_
    refine x_if_lt (tgt := 135) X dX8_wanted_127 rfl (fun q18 => ?_) (fun q18 => ?_)
    · have hf := (if_pos q18).symm.trans hf
      refine x_iconst X dX8_wanted_135 xk_iconst_4 ?_
      exact b_X8_wanted_136 X F (4 : Int32) s ls hf (lv_sub hl [] rfl)
    · have hf := (if_neg q18).symm.trans hf
      refine x_iload X dX8_wanted_130 hl 0 rfl ?_
      refine x_goto (tgt := 136) X dX8_wanted_132 rfl ?_
      exact b_X8_wanted_136 X F t0 s ls hf (lv_sub hl [] rfl)
  · have hf := (if_neg q17).symm.trans hf
    refine x_iload X dX8_wanted_120 hl 1 rfl ?_
    refine x_goto (tgt := 136) X dX8_wanted_122 rfl ?_
    exact b_X8_wanted_136 X F x7 s ls hf (lv_sub hl [] rfl)
set_option maxHeartbeats 4000000 in
set_option maxRecDepth 100000 in
theorem b_X8_wanted_95 {p : Program} {l : Launch} {e : Env} {S0 : State} {m : MethodId} {args : Array Value} {below : List Frame} {meth : Method} {c : Code} {A : Nat → Prop} {D : va_G} {cI cZ cJ : ClassId} {b : Nat → Nat} (X : x_X p S0 m args meth c cX8_wanted 9 (some .int) RX8 wsX8_wanted D (x_tys cI cZ cJ) A) (F : Nat) {r : Int32} {s' : CS}  : ∀ (x1 x5 x6 t0 : Int32) (s : CS) (ls : Array Slot), r_X8_wanted_b95 F x1 x5 x6 t0 s = some (r, s') → lv_has ls 9 [(0, .ref (b 0)), (1, .int x1), (5, .int x5), (6, .int x6)] → x_W p l e rm_X8_wanted S0 m args below meth c A D (mwld cI cZ b) 0 0 (x_Ri below args S0 A D (mwld cI cZ b) r s') s (F0 m 95 ls [.int t0]) := by
  intro x1 x5 x6 t0 s ls hf hl
  unfold r_X8_wanted_b95 at hf
  refine x_istoreA (lv' := [(7, .int t0), (0, .ref (b 0)), (1, .int x1), (5, .int x5), (6, .int x6)]) X dX8_wanted_95 hl (by decide) rfl (fun ls hl => ?_)
  refine x_aload_n X dX8_wanted_97 rfl hl 1 rfl ?_
  refine x_getf X in_X8_wanted_X8 (mw_o _ _ _ _) rfl 18 (by decide) lk_X8_wanted_54 rfl rfl dX8_wanted_98 ?_
  refine x_iload_n X dX8_wanted_101 rfl hl 2 rfl ?_
  obtain ⟨g15, hf⟩ := x_og_of hf
  refine x_iald X (1 + 11) 0 (mw_r11 _ _ _ _) rfl (x_in_of g15) dX8_wanted_102 ?_
  refine x_if_ne (tgt := 111) X dX8_wanted_103 rfl (fun q16 => ?_) (fun q16 => ?_)
  · have hf := (if_neg q16).symm.trans hf
    refine x_iload X dX8_wanted_111 hl 3 rfl ?_
    exact b_X8_wanted_113 X F t0 x5 s ls hf (lv_sub hl [0] rfl)
  · have hf := (if_pos q16).symm.trans hf
    refine x_iload X dX8_wanted_106 hl 4 rfl ?_
    refine x_goto (tgt := 113) X dX8_wanted_108 rfl ?_
    exact b_X8_wanted_113 X F t0 x6 s ls hf (lv_sub hl [0] rfl)
set_option maxHeartbeats 4000000 in
set_option maxRecDepth 100000 in
theorem b_X8_wanted_77 {p : Program} {l : Launch} {e : Env} {S0 : State} {m : MethodId} {args : Array Value} {below : List Frame} {meth : Method} {c : Code} {A : Nat → Prop} {D : va_G} {cI cZ cJ : ClassId} {b : Nat → Nat} (X : x_X p S0 m args meth c cX8_wanted 9 (some .int) RX8 wsX8_wanted D (x_tys cI cZ cJ) A) (F : Nat) {r : Int32} {s' : CS}  : ∀ (x1 x5 t0 : Int32) (s : CS) (ls : Array Slot), r_X8_wanted_b77 F x1 x5 t0 s = some (r, s') → lv_has ls 9 [(0, .ref (b 0)), (1, .int x1), (5, .int x5)] → x_W p l e rm_X8_wanted S0 m args below meth c A D (mwld cI cZ b) 0 0 (x_Ri below args S0 A D (mwld cI cZ b) r s') s (F0 m 77 ls [.int t0]) := by
  intro x1 x5 t0 s ls hf hl
  unfold r_X8_wanted_b77 at hf
  refine x_istoreA (lv' := [(6, .int t0), (0, .ref (b 0)), (1, .int x1), (5, .int x5)]) X dX8_wanted_77 hl (by decide) rfl (fun ls hl => ?_)
  refine x_aload_n X dX8_wanted_79 rfl hl 1 rfl ?_
  refine x_getf X in_X8_wanted_X8 (mw_o _ _ _ _) rfl 18 (by decide) lk_X8_wanted_54 rfl rfl dX8_wanted_80 ?_
  refine x_iload_n X dX8_wanted_83 rfl hl 2 rfl ?_
  obtain ⟨g13, hf⟩ := x_og_of hf
  refine x_iald X (1 + 11) 0 (mw_r11 _ _ _ _) rfl (x_in_of g13) dX8_wanted_84 ?_
  refine x_if_ne (tgt := 93) X dX8_wanted_85 rfl (fun q14 => ?_) (fun q14 => ?_)
  · have hf := (if_neg q14).symm.trans hf
    refine x_iload X dX8_wanted_93 hl 0 rfl ?_
    exact b_X8_wanted_95 X F x1 x5 t0 t0 s ls hf (lv_sub hl [1, 2, 3, 0] rfl)
  · have hf := (if_pos q14).symm.trans hf
    refine x_iload X dX8_wanted_88 hl 3 rfl ?_
    refine x_goto (tgt := 95) X dX8_wanted_90 rfl ?_
    exact b_X8_wanted_95 X F x1 x5 t0 x5 s ls hf (lv_sub hl [1, 2, 3, 0] rfl)
set_option maxHeartbeats 4000000 in
set_option maxRecDepth 100000 in
theorem b_X8_wanted_56 {p : Program} {l : Launch} {e : Env} {S0 : State} {m : MethodId} {args : Array Value} {below : List Frame} {meth : Method} {c : Code} {A : Nat → Prop} {D : va_G} {cI cZ cJ : ClassId} {b : Nat → Nat} (X : x_X p S0 m args meth c cX8_wanted 9 (some .int) RX8 wsX8_wanted D (x_tys cI cZ cJ) A) (F : Nat) {r : Int32} {s' : CS}  : ∀ (x1 x4 t0 : Int32) (s : CS) (ls : Array Slot), r_X8_wanted_b56 F x1 x4 t0 s = some (r, s') → lv_has ls 9 [(0, .ref (b 0)), (1, .int x1), (4, .int x4)] → x_W p l e rm_X8_wanted S0 m args below meth c A D (mwld cI cZ b) 0 0 (x_Ri below args S0 A D (mwld cI cZ b) r s') s (F0 m 56 ls [.int t0]) := by
  intro x1 x4 t0 s ls hf hl
  unfold r_X8_wanted_b56 at hf
  refine x_istoreA (lv' := [(5, .int t0), (0, .ref (b 0)), (1, .int x1), (4, .int x4)]) X dX8_wanted_56 hl (by decide) rfl (fun ls hl => ?_)
  refine x_iload X dX8_wanted_58 hl 3 rfl ?_
  refine x_if_le (tgt := 67) X dX8_wanted_60 rfl (fun q11 => ?_) (fun q11 => ?_)
  · have hf := (if_pos q11).symm.trans hf
    refine x_iload X dX8_wanted_67 hl 3 rfl ?_
    refine x_if_ge (tgt := 76) X dX8_wanted_69 rfl (fun q12 => ?_) (fun q12 => ?_)
    · have hf := (if_pos q12).symm.trans hf
      refine x_iconst X dX8_wanted_76 xk_iconst_m1 ?_
      exact b_X8_wanted_77 X F x1 t0 (-1 : Int32) s ls hf (lv_sub hl [1, 2, 0] rfl)
    · have hf := (if_neg q12).symm.trans hf
      refine x_iconst X dX8_wanted_72 xk_iconst_3 ?_
      refine x_goto (tgt := 77) X dX8_wanted_73 rfl ?_
      exact b_X8_wanted_77 X F x1 t0 (3 : Int32) s ls hf (lv_sub hl [1, 2, 0] rfl)
  · have hf := (if_neg q11).symm.trans hf
    refine x_iconst X dX8_wanted_63 xk_iconst_1 ?_
    refine x_goto (tgt := 77) X dX8_wanted_64 rfl ?_
    exact b_X8_wanted_77 X F x1 t0 (1 : Int32) s ls hf (lv_sub hl [1, 2, 0] rfl)
set_option maxHeartbeats 4000000 in
set_option maxRecDepth 100000 in
theorem c_X8_wanted (l : Launch) (D : va_G) (cI cZ cJ : ClassId) (b : Nat → Nat) (F : Nat) {s s' : CS} {r : Int32} {x1 x2 : Int32} (hf : r_X8_wanted F x1 x2 s = some (r, s')) : x_Mi l yX8_wanted wsX8_wanted rm_X8_wanted D (x_tys cI cZ cJ) (mwld cI cZ b) [.ref (b 0), .int x1, .int x2] s r s' := by
  refine x_enteri (cc := cX8_wanted) (nL := 9) (ty := .int) (own := RX8) (by decide) rfl rfl (Nat.le_of_ble_eq_true rfl) ?_
  intro p e S0 m args below meth c A X ls hl
  have hl : lv_has ls 9 [(0, .ref (b 0)), (1, .int x1), (2, .int x2)] := hl
  unfold r_X8_wanted at hf
  refine x_aload_n X dX8_wanted_0 rfl hl 0 rfl ?_
  refine x_getf X in_X8_wanted_X8 (mw_o _ _ _ _) rfl 15 (by decide) lk_X8_wanted_45 rfl rfl dX8_wanted_1 ?_
  refine x_iload_n X dX8_wanted_4 rfl hl 1 rfl ?_
  obtain ⟨g1, hf⟩ := x_og_of hf
  refine x_iald X (1 + 8) 0 (mw_r8 _ _ _ _) rfl (x_in_of g1) dX8_wanted_5 ?_
  refine x_aload_n X dX8_wanted_6 rfl hl 0 rfl ?_
  refine x_getf X in_X8_wanted_X8 (mw_o _ _ _ _) rfl 0 (by decide) lk_X8_wanted_7 rfl rfl dX8_wanted_7 ?_
  obtain ⟨g2, hf⟩ := x_og_of hf
  refine x_irem X dX8_wanted_10 (x_nz_of g2) ?_
  refine x_iload_n X dX8_wanted_11 rfl hl 2 rfl ?_
  refine x_aload_n X dX8_wanted_12 rfl hl 0 rfl ?_
  refine x_getf X in_X8_wanted_X8 (mw_o _ _ _ _) rfl 0 (by decide) lk_X8_wanted_7 rfl rfl dX8_wanted_13 ?_
  obtain ⟨g3, hf⟩ := x_og_of hf
  refine x_irem X dX8_wanted_16 (x_nz_of g3) ?_
  refine x_isub X dX8_wanted_17 ?_
  refine x_istore_n (lv' := [(0, .ref (b 0)), (1, .int x1), (2, .int x2)]) X dX8_wanted_18 rfl hl (by decide) (fun _ => rfl) (fun x3_4 ls ex3_4 hl => ?_)
  have hf := x_oi_of ex3_4 hf
  refine x_aload_n X dX8_wanted_19 rfl hl 1 rfl ?_
  refine x_getf X in_X8_wanted_X8 (mw_o _ _ _ _) rfl 15 (by decide) lk_X8_wanted_45 rfl rfl dX8_wanted_20 ?_
  refine x_iload_n X dX8_wanted_23 rfl hl 2 rfl ?_
  obtain ⟨g5, hf⟩ := x_og_of hf
  refine x_iald X (1 + 8) 0 (mw_r8 _ _ _ _) rfl (x_in_of g5) dX8_wanted_24 ?_
  refine x_aload_n X dX8_wanted_25 rfl hl 1 rfl ?_
  refine x_getf X in_X8_wanted_X8 (mw_o _ _ _ _) rfl 0 (by decide) lk_X8_wanted_7 rfl rfl dX8_wanted_26 ?_
  obtain ⟨g6, hf⟩ := x_og_of hf
  refine x_idiv X dX8_wanted_29 (x_nz_of g6) ?_
  refine x_iload_n X dX8_wanted_30 rfl hl 3 rfl ?_
  refine x_aload_n X dX8_wanted_31 rfl hl 1 rfl ?_
  refine x_getf X in_X8_wanted_X8 (mw_o _ _ _ _) rfl 0 (by decide) lk_X8_wanted_7 rfl rfl dX8_wanted_32 ?_
  obtain ⟨g7, hf⟩ := x_og_of hf
  refine x_idiv X dX8_wanted_35 (x_nz_of g7) ?_
  refine x_isub X dX8_wanted_36 ?_
  refine x_istore (lv' := [(3, .int x3_4), (0, .ref (b 0)), (1, .int x1), (2, .int x2)]) X dX8_wanted_37 hl (by decide) (fun _ => rfl) (fun x4_8 ls ex4_8 hl => ?_)
  have hf := x_oi_of ex4_8 hf
  refine x_iload_n X dX8_wanted_39 rfl hl 1 rfl ?_
  refine x_if_le (tgt := 47) X dX8_wanted_40 rfl (fun q9 => ?_) (fun q9 => ?_)
  · have hf := (if_pos q9).symm.trans hf
    refine x_iload_n X dX8_wanted_47 rfl hl 1 rfl ?_
    refine x_if_ge (tgt := 55) X dX8_wanted_48 rfl (fun q10 => ?_) (fun q10 => ?_)
    · have hf := (if_pos q10).symm.trans hf
      refine x_iconst X dX8_wanted_55 xk_iconst_m1 ?_
      exact b_X8_wanted_56 X F x1 x4_8 (-1 : Int32) s ls hf (lv_sub hl [2, 3, 0] rfl)
    · have hf := (if_neg q10).symm.trans hf
      refine x_iconst X dX8_wanted_51 xk_iconst_2 ?_
      refine x_goto (tgt := 56) X dX8_wanted_52 rfl ?_
      exact b_X8_wanted_56 X F x1 x4_8 (2 : Int32) s ls hf (lv_sub hl [2, 3, 0] rfl)
  · have hf := (if_neg q9).symm.trans hf
    refine x_iconst X dX8_wanted_43 xk_iconst_0 ?_
    refine x_goto (tgt := 56) X dX8_wanted_44 rfl ?_
    exact b_X8_wanted_56 X F x1 x4_8 (0 : Int32) s ls hf (lv_sub hl [2, 3, 0] rfl)
def rm_X8_canGo : Room := { frames := 1, cells := 0, slots := 0, locals := 25 }
theorem in_X8_canGo_X8 : ∀ w ∈ wsX80, w ∈ wsX8_canGo := by decide +kernel
theorem lk_X8_canGo_26 : Cond.fieldLink RX8 26 "CreditfabricModel" "credit" "[I" ∈ wsX8_canGo := by decide +kernel
theorem lk_X8_canGo_41 : Cond.fieldLink RX8 41 "CreditfabricModel" "isPaused" "[Z" ∈ wsX8_canGo := by decide +kernel
set_option maxHeartbeats 4000000 in
set_option maxRecDepth 100000 in
theorem b_X8_canGo_38 {p : Program} {l : Launch} {e : Env} {S0 : State} {m : MethodId} {args : Array Value} {below : List Frame} {meth : Method} {c : Code} {A : Nat → Prop} {D : va_G} {cI cZ cJ : ClassId} {b : Nat → Nat} (X : x_X p S0 m args meth c cX8_canGo 4 (some .boolean) RX8 wsX8_canGo D (x_tys cI cZ cJ) A) (F : Nat) {r : Int32} {s' : CS}  : ∀ (t0 : Int32) (s : CS) (ls : Array Slot), r_X8_canGo_b38 F t0 s = some (r, s') → lv_has ls 4 [] → x_W p l e rm_X8_canGo S0 m args below meth c A D (mwld cI cZ b) 0 0 (x_Ri below args S0 A D (mwld cI cZ b) r s') s (F0 m 38 ls [.int t0]) := by
  intro t0 s ls hf hl
  unfold r_X8_canGo_b38 at hf
  obtain ⟨g2, hf⟩ := x_og_of hf
  exact x_iret X rfl (x_bo_of g2) hf dX8_canGo_38
set_option maxHeartbeats 4000000 in
set_option maxRecDepth 100000 in
theorem b_X8_canGo_33 {p : Program} {l : Launch} {e : Env} {S0 : State} {m : MethodId} {args : Array Value} {below : List Frame} {meth : Method} {c : Code} {A : Nat → Prop} {D : va_G} {cI cZ cJ : ClassId} {b : Nat → Nat} (X : x_X p S0 m args meth c cX8_canGo 4 (some .boolean) RX8 wsX8_canGo D (x_tys cI cZ cJ) A) (F : Nat) {r : Int32} {s' : CS}  : ∀ (s : CS) (ls : Array Slot), r_X8_canGo_b33 F s = some (r, s') → lv_has ls 4 [] → x_W p l e rm_X8_canGo S0 m args below meth c A D (mwld cI cZ b) 0 0 (x_Ri below args S0 A D (mwld cI cZ b) r s') s (F0 m 33 ls []) := by
  intro s ls hf hl
  unfold r_X8_canGo_b33 at hf
  refine x_iconst X dX8_canGo_33 xk_iconst_1 ?_
  refine x_goto (tgt := 38) X dX8_canGo_34 rfl ?_
  exact b_X8_canGo_38 X F (1 : Int32) s ls hf (lv_sub hl [] rfl)
set_option maxHeartbeats 4000000 in
set_option maxRecDepth 100000 in
theorem b_X8_canGo_37 {p : Program} {l : Launch} {e : Env} {S0 : State} {m : MethodId} {args : Array Value} {below : List Frame} {meth : Method} {c : Code} {A : Nat → Prop} {D : va_G} {cI cZ cJ : ClassId} {b : Nat → Nat} (X : x_X p S0 m args meth c cX8_canGo 4 (some .boolean) RX8 wsX8_canGo D (x_tys cI cZ cJ) A) (F : Nat) {r : Int32} {s' : CS}  : ∀ (s : CS) (ls : Array Slot), r_X8_canGo_b37 F s = some (r, s') → lv_has ls 4 [] → x_W p l e rm_X8_canGo S0 m args below meth c A D (mwld cI cZ b) 0 0 (x_Ri below args S0 A D (mwld cI cZ b) r s') s (F0 m 37 ls []) := by
  intro s ls hf hl
  unfold r_X8_canGo_b37 at hf
  refine x_iconst X dX8_canGo_37 xk_iconst_0 ?_
  exact b_X8_canGo_38 X F (0 : Int32) s ls hf (lv_sub hl [] rfl)
set_option maxHeartbeats 4000000 in
set_option maxRecDepth 100000 in
theorem c_X8_canGo (l : Launch) (D : va_G) (cI cZ cJ : ClassId) (b : Nat → Nat) (F : Nat) {s s' : CS} {r : Int32} {x1 x2 x3 : Int32} (hf : r_X8_canGo F x1 x2 x3 s = some (r, s')) : x_Mi l yX8_canGo wsX8_canGo rm_X8_canGo D (x_tys cI cZ cJ) (mwld cI cZ b) [.ref (b 0), .int x1, .int x2, .int x3] s r s' := by
  refine x_enteri (cc := cX8_canGo) (nL := 4) (ty := .boolean) (own := RX8) (by decide) rfl rfl (Nat.le_of_ble_eq_true rfl) ?_
  intro p e S0 m args below meth c A X ls hl
  have hl : lv_has ls 4 [(0, .ref (b 0)), (1, .int x1), (2, .int x2), (3, .int x3)] := hl
  unfold r_X8_canGo at hf
  refine x_iload_n X dX8_canGo_0 rfl hl 2 rfl ?_
  refine x_iconst X dX8_canGo_1 xk_iconst_4 ?_
  refine x_icmp_eq (tgt := 33) X dX8_canGo_2 rfl (fun q1 => ?_) (fun q1 => ?_)
  · have hf := (if_pos q1).symm.trans hf
    exact b_X8_canGo_33 X F s ls hf (lv_sub hl [] rfl)
  · have hf := (if_neg q1).symm.trans hf
    refine x_aload_n X dX8_canGo_5 rfl hl 0 rfl ?_
    refine x_getf X in_X8_canGo_X8 (mw_o _ _ _ _) rfl 9 (by decide) lk_X8_canGo_26 rfl rfl dX8_canGo_6 ?_
    refine x_iload_n X dX8_canGo_9 rfl hl 1 rfl ?_
    refine x_iload_n X dX8_canGo_10 rfl hl 2 rfl ?_
    refine x_iload_n X dX8_canGo_11 rfl hl 3 rfl ?_
    obtain ⟨v4, s3, c5, hf⟩ := x_ob_of hf
    refine x_cSi X (c_X8_linkOf l D cI cZ cJ b F c5) (va_cwS 3 X.2.2.2.2.1 gX8_canGo_X8_linkOf rfl rfl rfl (by decide +kernel) ⟨Nat.le_of_ble_eq_true rfl, Nat.le_of_ble_eq_true rfl⟩) rfl hl rfl (Nat.le_of_ble_eq_true rfl) ⟨Nat.zero_le _, Nat.zero_le _⟩ dX8_canGo_12 ?_
    obtain ⟨g6, hf⟩ := x_og_of hf
    refine x_iald X (1 + 2) 0 (mw_r2 _ _ _ _) rfl (x_in_of g6) dX8_canGo_15 ?_
    refine x_if_le (tgt := 37) X dX8_canGo_16 rfl (fun q7 => ?_) (fun q7 => ?_)
    · have hf := (if_pos q7).symm.trans hf
      exact b_X8_canGo_37 X F s3 ls hf (lv_sub hl [] rfl)
    · have hf := (if_neg q7).symm.trans hf
      refine x_aload_n X dX8_canGo_19 rfl hl 0 rfl ?_
      refine x_getf X in_X8_canGo_X8 (mw_o _ _ _ _) rfl 14 (by decide) lk_X8_canGo_41 rfl rfl dX8_canGo_20 ?_
      refine x_aload_n X dX8_canGo_23 rfl hl 0 rfl ?_
      refine x_iload_n X dX8_canGo_24 rfl hl 1 rfl ?_
      refine x_iload_n X dX8_canGo_25 rfl hl 2 rfl ?_
      obtain ⟨v9, s8, c10, hf⟩ := x_ob_of hf
      refine x_cVi X 0 8 (mw_o _ _ _ _) rfl rfl (c_X8_neighbour l D cI cZ cJ b F c10) (cwV 2 X.2.2.2.2.1 gX8_canGo_X8_neighbour rfl rfl rfl (by decide +kernel) ⟨Nat.le_of_ble_eq_true rfl, Nat.le_of_ble_eq_true rfl⟩) rfl hl rfl (Nat.le_of_ble_eq_true rfl) ⟨Nat.zero_le _, Nat.zero_le _⟩ dX8_canGo_26 ?_
      obtain ⟨g11, hf⟩ := x_og_of hf
      refine x_zald X (1 + 7) 1 (mw_r7 _ _ _ _) rfl (x_in_of g11) dX8_canGo_29 ?_
      refine x_if_ne (tgt := 37) X dX8_canGo_30 rfl (fun q12 => ?_) (fun q12 => ?_)
      · have hf := (if_neg q12).symm.trans hf
        exact b_X8_canGo_37 X F s8 ls hf (lv_sub hl [] rfl)
      · have hf := (if_pos q12).symm.trans hf
        exact b_X8_canGo_33 X F s8 ls hf (lv_sub hl [] rfl)
def rm_X8_chooses : Room := { frames := 2, cells := 0, slots := 0, locals := 48 }
theorem in_X8_chooses_X8 : ∀ w ∈ wsX80, w ∈ wsX8_chooses := by decide +kernel
theorem lk_X8_chooses_19 : Cond.fieldLink RX8 19 "CreditfabricModel" "buffer" "[I" ∈ wsX8_chooses := by decide +kernel
theorem lk_X8_chooses_23 : Cond.fieldLink RX8 23 "CreditfabricModel" "many" "[I" ∈ wsX8_chooses := by decide +kernel
theorem lk_X8_chooses_32 : Cond.fieldLink RX8 32 "CreditfabricModel" "next" "[I" ∈ wsX8_chooses := by decide +kernel
theorem lk_X8_chooses_66 : Cond.fieldLink RX8 66 "CreditfabricModel" "chosen" "[I" ∈ wsX8_chooses := by decide +kernel
set_option maxHeartbeats 4000000 in
set_option maxRecDepth 100000 in
theorem b_X8_chooses_126 {p : Program} {l : Launch} {e : Env} {S0 : State} {m : MethodId} {args : Array Value} {below : List Frame} {meth : Method} {c : Code} {A : Nat → Prop} {D : va_G} {cI cZ cJ : ClassId} {b : Nat → Nat} (X : x_X p S0 m args meth c cX8_chooses 8 none RX8 wsX8_chooses D (x_tys cI cZ cJ) A) (F : Nat) {r : Int32} {s' : CS}  : ∀ (s : CS) (ls : Array Slot), r_X8_chooses_b126 F s = some (r, s') → lv_has ls 8 [] → x_W p l e rm_X8_chooses S0 m args below meth c A D (mwld cI cZ b) 0 0 (x_Rv below args S0 A D (mwld cI cZ b) s') s (F0 m 126 ls []) := by
  intro s ls hf hl
  unfold r_X8_chooses_b126 at hf
  exact x_vret X rfl hf dX8_chooses_126
set_option maxHeartbeats 4000000 in
set_option maxRecDepth 100000 in
theorem b_X8_chooses_119 {p : Program} {l : Launch} {e : Env} {S0 : State} {m : MethodId} {args : Array Value} {below : List Frame} {meth : Method} {c : Code} {A : Nat → Prop} {D : va_G} {cI cZ cJ : ClassId} {b : Nat → Nat} (X : x_X p S0 m args meth c cX8_chooses 8 none RX8 wsX8_chooses D (x_tys cI cZ cJ) A) (F : Nat) {r : Int32} {s' : CS} (K16 : Int32 → Int32 → Int32 → Int32 → CS → Option (Int32 × CS)) (hK16 : ∀ (x1 x2 x3 x4 : Int32) (s : CS) (ls : Array Slot), K16 x1 x2 x3 x4 s = some (r, s') → lv_has ls 8 [(0, .ref (b 0)), (1, .int x1), (2, .int x2), (3, .int x3), (4, .int x4)] → x_W p l e rm_X8_chooses S0 m args below meth c A D (mwld cI cZ b) 0 0 (x_Rv below args S0 A D (mwld cI cZ b) s') s (F0 m 16 ls [])) : ∀ (x1 x2 x3 x4 t0 t1 : Int32) (s : CS) (ls : Array Slot), r_X8_chooses_b119 K16 F x1 x2 x3 x4 t0 t1 s = some (r, s') → lv_has ls 8 [(0, .ref (b 0)), (1, .int x1), (2, .int x2), (3, .int x3), (4, .int x4)] → x_W p l e rm_X8_chooses S0 m args below meth c A D (mwld cI cZ b) 0 0 (x_Rv below args S0 A D (mwld cI cZ b) s') s (F0 m 119 ls [.int t0, .int t1, .ref (b (1 + 15))]) := by
  intro x1 x2 x3 x4 t0 t1 s ls hf hl
  unfold r_X8_chooses_b119 at hf
  obtain ⟨g13, hf⟩ := x_og_of hf
  refine x_iast X (1 + 15) 0 (mw_r15 _ _ _ _) rfl (x_in_of g13) (mw_a15 _ _ _ _ _ _) dX8_chooses_119 (fun s14 es14 => ?_)
  have hf := x_os_of es14 hf
  refine x_iinc (v := (x4 + (1 : Int32))) (lv' := [(4, .int (x4 + (1 : Int32))), (0, .ref (b 0)), (1, .int x1), (2, .int x2), (3, .int x3)]) X dX8_chooses_120 hl (j := 4) rfl rfl (by decide) rfl (fun ls hl => ?_)
  refine x_goto (tgt := 16) X dX8_chooses_123 rfl ?_
  exact hK16 x1 x2 x3 (x4 + (1 : Int32)) s14 ls hf (lv_sub hl [1, 2, 3, 4, 0] rfl)
set_option maxHeartbeats 4000000 in
set_option maxRecDepth 100000 in
theorem b_X8_chooses_101 {p : Program} {l : Launch} {e : Env} {S0 : State} {m : MethodId} {args : Array Value} {below : List Frame} {meth : Method} {c : Code} {A : Nat → Prop} {D : va_G} {cI cZ cJ : ClassId} {b : Nat → Nat} (X : x_X p S0 m args meth c cX8_chooses 8 none RX8 wsX8_chooses D (x_tys cI cZ cJ) A) (F : Nat) {r : Int32} {s' : CS} (K16 : Int32 → Int32 → Int32 → Int32 → CS → Option (Int32 × CS)) (hK16 : ∀ (x1 x2 x3 x4 : Int32) (s : CS) (ls : Array Slot), K16 x1 x2 x3 x4 s = some (r, s') → lv_has ls 8 [(0, .ref (b 0)), (1, .int x1), (2, .int x2), (3, .int x3), (4, .int x4)] → x_W p l e rm_X8_chooses S0 m args below meth c A D (mwld cI cZ b) 0 0 (x_Rv below args S0 A D (mwld cI cZ b) s') s (F0 m 16 ls [])) : ∀ (x1 x2 x3 x4 x5 t0 : Int32) (s : CS) (ls : Array Slot), r_X8_chooses_b101 K16 F x1 x2 x3 x4 x5 t0 s = some (r, s') → lv_has ls 8 [(0, .ref (b 0)), (1, .int x1), (2, .int x2), (3, .int x3), (4, .int x4), (5, .int x5)] → x_W p l e rm_X8_chooses S0 m args below meth c A D (mwld cI cZ b) 0 0 (x_Rv below args S0 A D (mwld cI cZ b) s') s (F0 m 101 ls [.int t0]) := by
  intro x1 x2 x3 x4 x5 t0 s ls hf hl
  unfold r_X8_chooses_b101 at hf
  refine x_istoreA (lv' := [(7, .int t0), (0, .ref (b 0)), (1, .int x1), (2, .int x2), (3, .int x3), (4, .int x4), (5, .int x5)]) X dX8_chooses_101 hl (by decide) rfl (fun ls hl => ?_)
  refine x_aload_n X dX8_chooses_103 rfl hl 1 rfl ?_
  refine x_getf X in_X8_chooses_X8 (mw_o _ _ _ _) rfl 22 (by decide) lk_X8_chooses_66 rfl rfl dX8_chooses_104 ?_
  refine x_iload_n X dX8_chooses_107 rfl hl 4 rfl ?_
  refine x_iload X dX8_chooses_108 hl 0 rfl ?_
  refine x_if_eq (tgt := 118) X dX8_chooses_110 rfl (fun q12 => ?_) (fun q12 => ?_)
  · have hf := (if_pos q12).symm.trans hf
    refine x_iconst X dX8_chooses_118 xk_iconst_m1 ?_
    exact b_X8_chooses_119 X F _ hK16 x1 x2 x3 x4 (-1 : Int32) x3 s ls hf (lv_sub hl [1, 2, 3, 4, 5] rfl)
  · have hf := (if_neg q12).symm.trans hf
    refine x_iload X dX8_chooses_113 hl 6 rfl ?_
    refine x_goto (tgt := 119) X dX8_chooses_115 rfl ?_
    exact b_X8_chooses_119 X F _ hK16 x1 x2 x3 x4 x5 x3 s ls hf (lv_sub hl [1, 2, 3, 4, 5] rfl)
set_option maxHeartbeats 4000000 in
set_option maxRecDepth 100000 in
theorem b_X8_chooses_100 {p : Program} {l : Launch} {e : Env} {S0 : State} {m : MethodId} {args : Array Value} {below : List Frame} {meth : Method} {c : Code} {A : Nat → Prop} {D : va_G} {cI cZ cJ : ClassId} {b : Nat → Nat} (X : x_X p S0 m args meth c cX8_chooses 8 none RX8 wsX8_chooses D (x_tys cI cZ cJ) A) (F : Nat) {r : Int32} {s' : CS} (K16 : Int32 → Int32 → Int32 → Int32 → CS → Option (Int32 × CS)) (hK16 : ∀ (x1 x2 x3 x4 : Int32) (s : CS) (ls : Array Slot), K16 x1 x2 x3 x4 s = some (r, s') → lv_has ls 8 [(0, .ref (b 0)), (1, .int x1), (2, .int x2), (3, .int x3), (4, .int x4)] → x_W p l e rm_X8_chooses S0 m args below meth c A D (mwld cI cZ b) 0 0 (x_Rv below args S0 A D (mwld cI cZ b) s') s (F0 m 16 ls [])) : ∀ (x1 x2 x3 x4 x5 : Int32) (s : CS) (ls : Array Slot), r_X8_chooses_b100 K16 F x1 x2 x3 x4 x5 s = some (r, s') → lv_has ls 8 [(0, .ref (b 0)), (1, .int x1), (2, .int x2), (3, .int x3), (4, .int x4), (5, .int x5)] → x_W p l e rm_X8_chooses S0 m args below meth c A D (mwld cI cZ b) 0 0 (x_Rv below args S0 A D (mwld cI cZ b) s') s (F0 m 100 ls []) := by
  intro x1 x2 x3 x4 x5 s ls hf hl
  unfold r_X8_chooses_b100 at hf
  refine x_iconst X dX8_chooses_100 xk_iconst_0 ?_
  exact b_X8_chooses_101 X F _ hK16 x1 x2 x3 x4 x5 (0 : Int32) s ls hf (lv_sub hl [0, 1, 2, 3, 4, 5] rfl)
set_option maxHeartbeats 4000000 in
set_option maxRecDepth 100000 in
theorem b_X8_chooses_16 {p : Program} {l : Launch} {e : Env} {S0 : State} {m : MethodId} {args : Array Value} {below : List Frame} {meth : Method} {c : Code} {A : Nat → Prop} {D : va_G} {cI cZ cJ : ClassId} {b : Nat → Nat} (X : x_X p S0 m args meth c cX8_chooses 8 none RX8 wsX8_chooses D (x_tys cI cZ cJ) A) (F : Nat) {r : Int32} {s' : CS}  : ∀ (n : Nat) (x1 x2 x3 x4 : Int32) (s : CS) (ls : Array Slot), r_X8_chooses_b16 F n x1 x2 x3 x4 s = some (r, s') → lv_has ls 8 [(0, .ref (b 0)), (1, .int x1), (2, .int x2), (3, .int x3), (4, .int x4)] → x_W p l e rm_X8_chooses S0 m args below meth c A D (mwld cI cZ b) 0 0 (x_Rv below args S0 A D (mwld cI cZ b) s') s (F0 m 16 ls []) := by
  intro n
  induction n with
  | zero =>
    intro x1 x2 x3 x4 s ls hf hl
    have hf : (none : Option (Int32 × CS)) = some (r, s') := hf
    cases hf
  | succ n ih =>
    intro x1 x2 x3 x4 s ls hf hl
    rw [r_X8_chooses_b16_s] at hf
    refine x_iload X dX8_chooses_16 hl 4 rfl ?_
    refine x_bipush X dX8_chooses_18 xk_bipush_10 ?_
    refine x_icmp_ge (tgt := 126) X dX8_chooses_20 rfl (fun q4 => ?_) (fun q4 => ?_)
    · have hf := (if_pos q4).symm.trans hf
      exact b_X8_chooses_126 X F s ls hf (lv_sub hl [] rfl)
    · have hf := (if_neg q4).symm.trans hf
      refine x_aload_n X dX8_chooses_23 rfl hl 0 rfl ?_
      refine x_getf X in_X8_chooses_X8 (mw_o _ _ _ _) rfl 22 (by decide) lk_X8_chooses_66 rfl rfl dX8_chooses_24 ?_
      refine x_iload_n X dX8_chooses_27 rfl hl 3 rfl ?_
      obtain ⟨g5, hf⟩ := x_og_of hf
      refine x_iald X (1 + 15) 0 (mw_r15 _ _ _ _) rfl (x_in_of g5) dX8_chooses_28 ?_
      refine x_if_ge (tgt := 126) X dX8_chooses_29 rfl (fun q6 => ?_) (fun q6 => ?_)
      · have hf := (if_pos q6).symm.trans hf
        exact b_X8_chooses_126 X F s ls hf (lv_sub hl [] rfl)
      · have hf := (if_neg q6).symm.trans hf
        refine x_aload_n X dX8_chooses_32 rfl hl 0 rfl ?_
        refine x_getf X in_X8_chooses_X8 (mw_o _ _ _ _) rfl 11 (by decide) lk_X8_chooses_32 rfl rfl dX8_chooses_33 ?_
        refine x_iload_n X dX8_chooses_36 rfl hl 3 rfl ?_
        obtain ⟨g7, hf⟩ := x_og_of hf
        refine x_iald X (1 + 4) 0 (mw_r4 _ _ _ _) rfl (x_in_of g7) dX8_chooses_37 ?_
        refine x_iload X dX8_chooses_38 hl 4 rfl ?_
        refine x_iadd X dX8_chooses_40 ?_
        refine x_bipush X dX8_chooses_41 xk_bipush_10 ?_
        refine x_irem X dX8_chooses_43 (by decide) ?_
        refine x_istore (lv' := [(0, .ref (b 0)), (1, .int x1), (2, .int x2), (3, .int x3), (4, .int x4)]) X dX8_chooses_44 hl (by decide) (fun _ => rfl) (fun x5_8 ls ex5_8 hl => ?_)
        have hf := x_oi_of ex5_8 hf
        refine x_iload_n X dX8_chooses_46 rfl hl 2 rfl ?_
        refine x_bipush X dX8_chooses_47 xk_bipush_10 ?_
        refine x_imul X dX8_chooses_49 ?_
        refine x_iload X dX8_chooses_50 hl 0 rfl ?_
        refine x_iadd X dX8_chooses_52 ?_
        refine x_istore (lv' := [(5, .int x5_8), (0, .ref (b 0)), (1, .int x1), (2, .int x2), (3, .int x3), (4, .int x4)]) X dX8_chooses_53 hl (by decide) (fun _ => rfl) (fun x6_9 ls ex6_9 hl => ?_)
        have hf := x_oi_of ex6_9 hf
        refine x_aload_n X dX8_chooses_55 rfl hl 2 rfl ?_
        refine x_getf X in_X8_chooses_X8 (mw_o _ _ _ _) rfl 8 (by decide) lk_X8_chooses_23 rfl rfl dX8_chooses_56 ?_
        refine x_iload X dX8_chooses_59 hl 0 rfl ?_
        obtain ⟨g10, hf⟩ := x_og_of hf
        refine x_iald X (1 + 1) 0 (mw_r1 _ _ _ _) rfl (x_in_of g10) dX8_chooses_61 ?_
        refine x_if_le (tgt := 100) X dX8_chooses_62 rfl (fun q11 => ?_) (fun q11 => ?_)
        · have hf := (if_pos q11).symm.trans hf
          exact b_X8_chooses_100 X F _ ih x1 x2 x3 x4 x5_8 s ls hf (lv_sub hl [2, 3, 4, 5, 6, 1] rfl)
        · have hf := (if_neg q11).symm.trans hf
          refine x_aload_n X dX8_chooses_65 rfl hl 2 rfl ?_
          refine x_aload_n X dX8_chooses_66 rfl hl 2 rfl ?_
          refine x_getf X in_X8_chooses_X8 (mw_o _ _ _ _) rfl 7 (by decide) lk_X8_chooses_19 rfl rfl dX8_chooses_67 ?_
          refine x_iconst X dX8_chooses_70 xk_iconst_3 ?_
          refine x_iload X dX8_chooses_71 hl 0 rfl ?_
          refine x_imul X dX8_chooses_73 ?_
          obtain ⟨g15, hf⟩ := x_og_of hf
          refine x_iald X (1 + 0) 0 (mw_r0 _ _ _ _) rfl (x_in_of g15) dX8_chooses_74 ?_
          refine x_iload_n X dX8_chooses_75 rfl hl 3 rfl ?_
          obtain ⟨v17, s16, c18, hf⟩ := x_ob_of hf
          refine x_cVi X 0 8 (mw_o _ _ _ _) rfl rfl (c_X8_wanted l D cI cZ cJ b F c18) (cwV 2 X.2.2.2.2.1 gX8_chooses_X8_wanted rfl rfl rfl (by decide +kernel) ⟨Nat.le_of_ble_eq_true rfl, Nat.le_of_ble_eq_true rfl⟩) rfl hl rfl (Nat.le_of_ble_eq_true rfl) ⟨Nat.zero_le _, Nat.zero_le _⟩ dX8_chooses_76 ?_
          refine x_iload_n X dX8_chooses_79 rfl hl 4 rfl ?_
          refine x_icmp_ne (tgt := 100) X dX8_chooses_80 rfl (fun q19 => ?_) (fun q19 => ?_)
          · have hf := (if_neg q19).symm.trans hf
            exact b_X8_chooses_100 X F _ ih x1 x2 x3 x4 x5_8 s16 ls hf (lv_sub hl [2, 3, 4, 5, 6, 1] rfl)
          · have hf := (if_pos q19).symm.trans hf
            refine x_aload_n X dX8_chooses_83 rfl hl 2 rfl ?_
            refine x_iload_n X dX8_chooses_84 rfl hl 3 rfl ?_
            refine x_iload_n X dX8_chooses_85 rfl hl 4 rfl ?_
            refine x_iload X dX8_chooses_86 hl 1 rfl ?_
            refine x_iconst X dX8_chooses_88 xk_iconst_2 ?_
            refine x_irem X dX8_chooses_89 (by decide) ?_
            obtain ⟨v21, s20, c22, hf⟩ := x_ob_of hf
            refine x_cVi X 0 8 (mw_o _ _ _ _) rfl rfl (c_X8_canGo l D cI cZ cJ b F c22) (cwV 3 X.2.2.2.2.1 gX8_chooses_X8_canGo rfl rfl rfl (by decide +kernel) ⟨Nat.le_of_ble_eq_true rfl, Nat.le_of_ble_eq_true rfl⟩) rfl hl rfl (Nat.le_of_ble_eq_true rfl) ⟨Nat.zero_le _, Nat.zero_le _⟩ dX8_chooses_90 ?_
            refine x_if_eq (tgt := 100) X dX8_chooses_93 rfl (fun q23 => ?_) (fun q23 => ?_)
            · have hf := (if_pos q23).symm.trans hf
              exact b_X8_chooses_100 X F _ ih x1 x2 x3 x4 x5_8 s20 ls hf (lv_sub hl [2, 3, 4, 5, 6, 1] rfl)
            · have hf := (if_neg q23).symm.trans hf
              refine x_iconst X dX8_chooses_96 xk_iconst_1 ?_
              refine x_goto (tgt := 101) X dX8_chooses_97 rfl ?_
              exact b_X8_chooses_101 X F _ ih x1 x2 x3 x4 x5_8 (1 : Int32) s20 ls hf (lv_sub hl [2, 3, 4, 5, 6, 1] rfl)
set_option maxHeartbeats 4000000 in
set_option maxRecDepth 100000 in
theorem c_X8_chooses (l : Launch) (D : va_G) (cI cZ cJ : ClassId) (b : Nat → Nat) (F : Nat) {s s' : CS} {r : Int32} {x1 x2 : Int32} (hf : r_X8_chooses F x1 x2 s = some (r, s')) : x_Mv l yX8_chooses wsX8_chooses rm_X8_chooses D (x_tys cI cZ cJ) (mwld cI cZ b) [.ref (b 0), .int x1, .int x2] s s' := by
  refine x_enterv (cc := cX8_chooses) (nL := 8) (own := RX8) (by decide) rfl rfl (Nat.le_of_ble_eq_true rfl) ?_
  intro p e S0 m args below meth c A X ls hl
  have hl : lv_has ls 8 [(0, .ref (b 0)), (1, .int x1), (2, .int x2)] := hl
  unfold r_X8_chooses at hf
  refine x_iload_n X dX8_chooses_0 rfl hl 1 rfl ?_
  refine x_iconst X dX8_chooses_1 xk_iconst_5 ?_
  refine x_imul X dX8_chooses_2 ?_
  refine x_iload_n X dX8_chooses_3 rfl hl 2 rfl ?_
  refine x_iadd X dX8_chooses_4 ?_
  refine x_istore_n (lv' := [(0, .ref (b 0)), (1, .int x1), (2, .int x2)]) X dX8_chooses_5 rfl hl (by decide) (fun _ => rfl) (fun x3_1 ls ex3_1 hl => ?_)
  have hf := x_oi_of ex3_1 hf
  refine x_aload_n X dX8_chooses_6 rfl hl 1 rfl ?_
  refine x_getf X in_X8_chooses_X8 (mw_o _ _ _ _) rfl 22 (by decide) lk_X8_chooses_66 rfl rfl dX8_chooses_7 ?_
  refine x_iload_n X dX8_chooses_10 rfl hl 0 rfl ?_
  refine x_iconst X dX8_chooses_11 xk_iconst_m1 ?_
  obtain ⟨g2, hf⟩ := x_og_of hf
  refine x_iast X (1 + 15) 0 (mw_r15 _ _ _ _) rfl (x_in_of g2) (mw_a15 _ _ _ _ _ _) dX8_chooses_12 (fun s3 es3 => ?_)
  have hf := x_os_of es3 hf
  refine x_iconst X dX8_chooses_13 xk_iconst_0 ?_
  refine x_istoreA (lv' := [(4, .int (0 : Int32)), (3, .int x3_1), (0, .ref (b 0)), (1, .int x1), (2, .int x2)]) X dX8_chooses_14 hl (by decide) rfl (fun ls hl => ?_)
  exact b_X8_chooses_16 X F F x1 x2 x3_1 (0 : Int32) s3 ls hf (lv_sub hl [2, 3, 4, 1, 0] rfl)
def rm_X8_inSwitch : Room := { frames := 0, cells := 0, slots := 0, locals := 0 }
theorem in_X8_inSwitch_X8 : ∀ w ∈ wsX80, w ∈ wsX8_inSwitch := by decide +kernel
theorem lk_X8_inSwitch_23 : Cond.fieldLink RX8 23 "CreditfabricModel" "many" "[I" ∈ wsX8_inSwitch := by decide +kernel
set_option maxHeartbeats 4000000 in
set_option maxRecDepth 100000 in
theorem b_X8_inSwitch_4 {p : Program} {l : Launch} {e : Env} {S0 : State} {m : MethodId} {args : Array Value} {below : List Frame} {meth : Method} {c : Code} {A : Nat → Prop} {D : va_G} {cI cZ cJ : ClassId} {b : Nat → Nat} (X : x_X p S0 m args meth c cX8_inSwitch 4 (some .int) RX8 wsX8_inSwitch D (x_tys cI cZ cJ) A) (F : Nat) {r : Int32} {s' : CS}  : ∀ (n : Nat) (x1 x2 x3 : Int32) (s : CS) (ls : Array Slot), r_X8_inSwitch_b4 F n x1 x2 x3 s = some (r, s') → lv_has ls 4 [(0, .ref (b 0)), (1, .int x1), (2, .int x2), (3, .int x3)] → x_W p l e rm_X8_inSwitch S0 m args below meth c A D (mwld cI cZ b) 0 0 (x_Ri below args S0 A D (mwld cI cZ b) r s') s (F0 m 4 ls []) := by
  intro n
  induction n with
  | zero =>
    intro x1 x2 x3 s ls hf hl
    have hf : (none : Option (Int32 × CS)) = some (r, s') := hf
    cases hf
  | succ n ih =>
    intro x1 x2 x3 s ls hf hl
    rw [r_X8_inSwitch_b4_s] at hf
    refine x_iload_n X dX8_inSwitch_4 rfl hl 3 rfl ?_
    refine x_bipush X dX8_inSwitch_5 xk_bipush_10 ?_
    refine x_icmp_ge (tgt := 30) X dX8_inSwitch_7 rfl (fun q1 => ?_) (fun q1 => ?_)
    · have hf := (if_pos q1).symm.trans hf
      refine x_iload_n X dX8_inSwitch_30 rfl hl 2 rfl ?_
      exact x_iret X rfl rfl hf dX8_inSwitch_31
    · have hf := (if_neg q1).symm.trans hf
      refine x_iload_n X dX8_inSwitch_10 rfl hl 2 rfl ?_
      refine x_aload_n X dX8_inSwitch_11 rfl hl 0 rfl ?_
      refine x_getf X in_X8_inSwitch_X8 (mw_o _ _ _ _) rfl 8 (by decide) lk_X8_inSwitch_23 rfl rfl dX8_inSwitch_12 ?_
      refine x_iload_n X dX8_inSwitch_15 rfl hl 1 rfl ?_
      refine x_bipush X dX8_inSwitch_16 xk_bipush_10 ?_
      refine x_imul X dX8_inSwitch_18 ?_
      refine x_iload_n X dX8_inSwitch_19 rfl hl 3 rfl ?_
      refine x_iadd X dX8_inSwitch_20 ?_
      obtain ⟨g2, hf⟩ := x_og_of hf
      refine x_iald X (1 + 1) 0 (mw_r1 _ _ _ _) rfl (x_in_of g2) dX8_inSwitch_21 ?_
      refine x_iadd X dX8_inSwitch_22 ?_
      refine x_istore_n (lv' := [(0, .ref (b 0)), (1, .int x1), (3, .int x3)]) X dX8_inSwitch_23 rfl hl (by decide) (fun _ => rfl) (fun x2_3 ls ex2_3 hl => ?_)
      have hf := x_oi_of ex2_3 hf
      refine x_iinc (v := (x3 + (1 : Int32))) (lv' := [(3, .int (x3 + (1 : Int32))), (2, .int x2_3), (0, .ref (b 0)), (1, .int x1)]) X dX8_inSwitch_24 hl (j := 3) rfl rfl (by decide) rfl (fun ls hl => ?_)
      refine x_goto (tgt := 4) X dX8_inSwitch_27 rfl ?_
      exact ih x1 x2_3 (x3 + (1 : Int32)) s ls hf (lv_sub hl [2, 3, 1, 0] rfl)
set_option maxHeartbeats 4000000 in
set_option maxRecDepth 100000 in
theorem c_X8_inSwitch (l : Launch) (D : va_G) (cI cZ cJ : ClassId) (b : Nat → Nat) (F : Nat) {s s' : CS} {r : Int32} {x1 : Int32} (hf : r_X8_inSwitch F x1 s = some (r, s')) : x_Mi l yX8_inSwitch wsX8_inSwitch rm_X8_inSwitch D (x_tys cI cZ cJ) (mwld cI cZ b) [.ref (b 0), .int x1] s r s' := by
  refine x_enteri (cc := cX8_inSwitch) (nL := 4) (ty := .int) (own := RX8) (by decide) rfl rfl (Nat.le_of_ble_eq_true rfl) ?_
  intro p e S0 m args below meth c A X ls hl
  have hl : lv_has ls 4 [(0, .ref (b 0)), (1, .int x1)] := hl
  unfold r_X8_inSwitch at hf
  refine x_iconst X dX8_inSwitch_0 xk_iconst_0 ?_
  refine x_istoreA_n (lv' := [(2, .int (0 : Int32)), (0, .ref (b 0)), (1, .int x1)]) X dX8_inSwitch_1 rfl hl (by decide) rfl (fun ls hl => ?_)
  refine x_iconst X dX8_inSwitch_2 xk_iconst_0 ?_
  refine x_istoreA_n (lv' := [(3, .int (0 : Int32)), (2, .int (0 : Int32)), (0, .ref (b 0)), (1, .int x1)]) X dX8_inSwitch_3 rfl hl (by decide) rfl (fun ls hl => ?_)
  exact b_X8_inSwitch_4 X F F x1 (0 : Int32) (0 : Int32) s ls hf (lv_sub hl [2, 3, 1, 0] rfl)
def rm_X8_comeBack : Room := { frames := 0, cells := 0, slots := 0, locals := 0 }
theorem in_X8_comeBack_X8 : ∀ w ∈ wsX80, w ∈ wsX8_comeBack := by decide +kernel
theorem lk_X8_comeBack_26 : Cond.fieldLink RX8 26 "CreditfabricModel" "credit" "[I" ∈ wsX8_comeBack := by decide +kernel
theorem lk_X8_comeBack_29 : Cond.fieldLink RX8 29 "CreditfabricModel" "coming" "[I" ∈ wsX8_comeBack := by decide +kernel
theorem lk_X8_comeBack_100 : Cond.fieldLink RX8 100 "CreditfabricModel" "tick" "I" ∈ wsX8_comeBack := by decide +kernel
set_option maxHeartbeats 4000000 in
set_option maxRecDepth 100000 in
theorem b_X8_comeBack_2 {p : Program} {l : Launch} {e : Env} {S0 : State} {m : MethodId} {args : Array Value} {below : List Frame} {meth : Method} {c : Code} {A : Nat → Prop} {D : va_G} {cI cZ cJ : ClassId} {b : Nat → Nat} (X : x_X p S0 m args meth c cX8_comeBack 2 none RX8 wsX8_comeBack D (x_tys cI cZ cJ) A) (F : Nat) {r : Int32} {s' : CS}  : ∀ (n : Nat) (x1 : Int32) (s : CS) (ls : Array Slot), r_X8_comeBack_b2 F n x1 s = some (r, s') → lv_has ls 2 [(0, .ref (b 0)), (1, .int x1)] → x_W p l e rm_X8_comeBack S0 m args below meth c A D (mwld cI cZ b) 0 0 (x_Rv below args S0 A D (mwld cI cZ b) s') s (F0 m 2 ls []) := by
  intro n
  induction n with
  | zero =>
    intro x1 s ls hf hl
    have hf : (none : Option (Int32 × CS)) = some (r, s') := hf
    cases hf
  | succ n ih =>
    intro x1 s ls hf hl
    rw [r_X8_comeBack_b2_s] at hf
    refine x_iload_n X dX8_comeBack_2 rfl hl 1 rfl ?_
    refine x_sipush X dX8_comeBack_3 xk_sipush_128 ?_
    refine x_icmp_ge (tgt := 55) X dX8_comeBack_6 rfl (fun q1 => ?_) (fun q1 => ?_)
    · have hf := (if_pos q1).symm.trans hf
      exact x_vret X rfl hf dX8_comeBack_55
    · have hf := (if_neg q1).symm.trans hf
      refine x_aload_n X dX8_comeBack_9 rfl hl 0 rfl ?_
      refine x_getf X in_X8_comeBack_X8 (mw_o _ _ _ _) rfl 9 (by decide) lk_X8_comeBack_26 rfl rfl dX8_comeBack_10 ?_
      refine x_iload_n X dX8_comeBack_13 rfl hl 1 rfl ?_
      refine x_dup2 X dX8_comeBack_14 rfl rfl ?_
      obtain ⟨g2, hf⟩ := x_og_of hf
      refine x_iald X (1 + 2) 0 (mw_r2 _ _ _ _) rfl (x_in_of g2) dX8_comeBack_15 ?_
      refine x_aload_n X dX8_comeBack_16 rfl hl 0 rfl ?_
      refine x_getf X in_X8_comeBack_X8 (mw_o _ _ _ _) rfl 10 (by decide) lk_X8_comeBack_29 rfl rfl dX8_comeBack_17 ?_
      refine x_iconst X dX8_comeBack_20 xk_iconst_5 ?_
      refine x_iload_n X dX8_comeBack_21 rfl hl 1 rfl ?_
      refine x_imul X dX8_comeBack_22 ?_
      refine x_aload_n X dX8_comeBack_23 rfl hl 0 rfl ?_
      refine x_getf X in_X8_comeBack_X8 (mw_o _ _ _ _) rfl 4 (by decide) lk_X8_comeBack_100 rfl rfl dX8_comeBack_24 ?_
      refine x_iconst X dX8_comeBack_27 xk_iconst_5 ?_
      refine x_irem X dX8_comeBack_28 (by decide) ?_
      refine x_iadd X dX8_comeBack_29 ?_
      obtain ⟨g3, hf⟩ := x_og_of hf
      refine x_iald X (1 + 3) 0 (mw_r3 _ _ _ _) rfl (x_in_of g3) dX8_comeBack_30 ?_
      refine x_iadd X dX8_comeBack_31 ?_
      obtain ⟨g4, hf⟩ := x_og_of hf
      refine x_iast X (1 + 2) 0 (mw_r2 _ _ _ _) rfl (x_in_of g4) (mw_a2 _ _ _ _ _ _) dX8_comeBack_32 (fun s5 es5 => ?_)
      have hf := x_os_of es5 hf
      refine x_aload_n X dX8_comeBack_33 rfl hl 0 rfl ?_
      refine x_getf X in_X8_comeBack_X8 (mw_o _ _ _ _) rfl 10 (by decide) lk_X8_comeBack_29 rfl rfl dX8_comeBack_34 ?_
      refine x_iconst X dX8_comeBack_37 xk_iconst_5 ?_
      refine x_iload_n X dX8_comeBack_38 rfl hl 1 rfl ?_
      refine x_imul X dX8_comeBack_39 ?_
      refine x_aload_n X dX8_comeBack_40 rfl hl 0 rfl ?_
      refine x_getf X in_X8_comeBack_X8 (mw_o _ _ _ _) rfl 4 (by decide) lk_X8_comeBack_100 rfl rfl dX8_comeBack_41 ?_
      refine x_iconst X dX8_comeBack_44 xk_iconst_5 ?_
      refine x_irem X dX8_comeBack_45 (by decide) ?_
      refine x_iadd X dX8_comeBack_46 ?_
      refine x_iconst X dX8_comeBack_47 xk_iconst_0 ?_
      obtain ⟨g6, hf⟩ := x_og_of hf
      refine x_iast X (1 + 3) 0 (mw_r3 _ _ _ _) rfl (x_in_of g6) (mw_a3 _ _ _ _ _ _) dX8_comeBack_48 (fun s7 es7 => ?_)
      have hf := x_os_of es7 hf
      refine x_iinc (v := (x1 + (1 : Int32))) (lv' := [(1, .int (x1 + (1 : Int32))), (0, .ref (b 0))]) X dX8_comeBack_49 hl (j := 1) rfl rfl (by decide) rfl (fun ls hl => ?_)
      refine x_goto (tgt := 2) X dX8_comeBack_52 rfl ?_
      exact ih (x1 + (1 : Int32)) s7 ls hf (lv_sub hl [1, 0] rfl)
set_option maxHeartbeats 4000000 in
set_option maxRecDepth 100000 in
theorem c_X8_comeBack (l : Launch) (D : va_G) (cI cZ cJ : ClassId) (b : Nat → Nat) (F : Nat) {s s' : CS} {r : Int32} (hf : r_X8_comeBack F s = some (r, s')) : x_Mv l yX8_comeBack wsX8_comeBack rm_X8_comeBack D (x_tys cI cZ cJ) (mwld cI cZ b) [.ref (b 0)] s s' := by
  refine x_enterv (cc := cX8_comeBack) (nL := 2) (own := RX8) (by decide) rfl rfl (Nat.le_of_ble_eq_true rfl) ?_
  intro p e S0 m args below meth c A X ls hl
  have hl : lv_has ls 2 [(0, .ref (b 0))] := hl
  unfold r_X8_comeBack at hf
  refine x_iconst X dX8_comeBack_0 xk_iconst_0 ?_
  refine x_istoreA_n (lv' := [(1, .int (0 : Int32)), (0, .ref (b 0))]) X dX8_comeBack_1 rfl hl (by decide) rfl (fun ls hl => ?_)
  exact b_X8_comeBack_2 X F F (0 : Int32) s ls hf (lv_sub hl [1, 0] rfl)
def rm_X8_leaves : Room := { frames := 1, cells := 0, slots := 0, locals := 25 }
theorem in_X8_leaves_X8 : ∀ w ∈ wsX80, w ∈ wsX8_leaves := by decide +kernel
theorem lk_X8_leaves_26 : Cond.fieldLink RX8 26 "CreditfabricModel" "credit" "[I" ∈ wsX8_leaves := by decide +kernel
theorem lk_X8_leaves_29 : Cond.fieldLink RX8 29 "CreditfabricModel" "coming" "[I" ∈ wsX8_leaves := by decide +kernel
theorem lk_X8_leaves_32 : Cond.fieldLink RX8 32 "CreditfabricModel" "next" "[I" ∈ wsX8_leaves := by decide +kernel
theorem lk_X8_leaves_66 : Cond.fieldLink RX8 66 "CreditfabricModel" "chosen" "[I" ∈ wsX8_leaves := by decide +kernel
theorem lk_X8_leaves_97 : Cond.fieldLink RX8 97 "CreditfabricModel" "delay" "I" ∈ wsX8_leaves := by decide +kernel
theorem lk_X8_leaves_100 : Cond.fieldLink RX8 100 "CreditfabricModel" "tick" "I" ∈ wsX8_leaves := by decide +kernel
set_option maxHeartbeats 4000000 in
set_option maxRecDepth 100000 in
theorem b_X8_leaves_130 {p : Program} {l : Launch} {e : Env} {S0 : State} {m : MethodId} {args : Array Value} {below : List Frame} {meth : Method} {c : Code} {A : Nat → Prop} {D : va_G} {cI cZ cJ : ClassId} {b : Nat → Nat} (X : x_X p S0 m args meth c cX8_leaves 8 none RX8 wsX8_leaves D (x_tys cI cZ cJ) A) (F : Nat) {r : Int32} {s' : CS}  : ∀ (s : CS) (ls : Array Slot), r_X8_leaves_b130 F s = some (r, s') → lv_has ls 8 [] → x_W p l e rm_X8_leaves S0 m args below meth c A D (mwld cI cZ b) 0 0 (x_Rv below args S0 A D (mwld cI cZ b) s') s (F0 m 130 ls []) := by
  intro s ls hf hl
  unfold r_X8_leaves_b130 at hf
  exact x_vret X rfl hf dX8_leaves_130
set_option maxHeartbeats 4000000 in
set_option maxRecDepth 100000 in
theorem b_X8_leaves_109 {p : Program} {l : Launch} {e : Env} {S0 : State} {m : MethodId} {args : Array Value} {below : List Frame} {meth : Method} {c : Code} {A : Nat → Prop} {D : va_G} {cI cZ cJ : ClassId} {b : Nat → Nat} (X : x_X p S0 m args meth c cX8_leaves 8 none RX8 wsX8_leaves D (x_tys cI cZ cJ) A) (F : Nat) {r : Int32} {s' : CS}  : ∀ (x1 x2 x6 : Int32) (s : CS) (ls : Array Slot), r_X8_leaves_b109 F x1 x2 x6 s = some (r, s') → lv_has ls 8 [(0, .ref (b 0)), (1, .int x1), (2, .int x2), (6, .int x6)] → x_W p l e rm_X8_leaves S0 m args below meth c A D (mwld cI cZ b) 0 0 (x_Rv below args S0 A D (mwld cI cZ b) s') s (F0 m 109 ls []) := by
  intro x1 x2 x6 s ls hf hl
  unfold r_X8_leaves_b109 at hf
  refine x_iload_n X dX8_leaves_109 rfl hl 2 rfl ?_
  refine x_iconst X dX8_leaves_110 xk_iconst_4 ?_
  refine x_icmp_ge (tgt := 130) X dX8_leaves_111 rfl (fun q14 => ?_) (fun q14 => ?_)
  · have hf := (if_pos q14).symm.trans hf
    exact b_X8_leaves_130 X F s ls hf (lv_sub hl [] rfl)
  · have hf := (if_neg q14).symm.trans hf
    refine x_aload_n X dX8_leaves_114 rfl hl 0 rfl ?_
    refine x_getf X in_X8_leaves_X8 (mw_o _ _ _ _) rfl 9 (by decide) lk_X8_leaves_26 rfl rfl dX8_leaves_115 ?_
    refine x_iload_n X dX8_leaves_118 rfl hl 1 rfl ?_
    refine x_iload_n X dX8_leaves_119 rfl hl 2 rfl ?_
    refine x_iload X dX8_leaves_120 hl 3 rfl ?_
    obtain ⟨v16, s15, c17, hf⟩ := x_ob_of hf
    refine x_cSi X (c_X8_linkOf l D cI cZ cJ b F c17) (va_cwS 3 X.2.2.2.2.1 gX8_leaves_X8_linkOf rfl rfl rfl (by decide +kernel) ⟨Nat.le_of_ble_eq_true rfl, Nat.le_of_ble_eq_true rfl⟩) rfl hl rfl (Nat.le_of_ble_eq_true rfl) ⟨Nat.zero_le _, Nat.zero_le _⟩ dX8_leaves_122 ?_
    refine x_dup2 X dX8_leaves_125 rfl rfl ?_
    obtain ⟨g18, hf⟩ := x_og_of hf
    refine x_iald X (1 + 2) 0 (mw_r2 _ _ _ _) rfl (x_in_of g18) dX8_leaves_126 ?_
    refine x_iconst X dX8_leaves_127 xk_iconst_1 ?_
    refine x_isub X dX8_leaves_128 ?_
    obtain ⟨g19, hf⟩ := x_og_of hf
    refine x_iast X (1 + 2) 0 (mw_r2 _ _ _ _) rfl (x_in_of g19) (mw_a2 _ _ _ _ _ _) dX8_leaves_129 (fun s20 es20 => ?_)
    have hf := x_os_of es20 hf
    exact b_X8_leaves_130 X F s20 ls hf (lv_sub hl [] rfl)
set_option maxHeartbeats 4000000 in
set_option maxRecDepth 100000 in
theorem c_X8_leaves (l : Launch) (D : va_G) (cI cZ cJ : ClassId) (b : Nat → Nat) (F : Nat) {s s' : CS} {r : Int32} {x1 x2 : Int32} (hf : r_X8_leaves F x1 x2 s = some (r, s')) : x_Mv l yX8_leaves wsX8_leaves rm_X8_leaves D (x_tys cI cZ cJ) (mwld cI cZ b) [.ref (b 0), .int x1, .int x2] s s' := by
  refine x_enterv (cc := cX8_leaves) (nL := 8) (own := RX8) (by decide) rfl rfl (Nat.le_of_ble_eq_true rfl) ?_
  intro p e S0 m args below meth c A X ls hl
  have hl : lv_has ls 8 [(0, .ref (b 0)), (1, .int x1), (2, .int x2)] := hl
  unfold r_X8_leaves at hf
  refine x_iload_n X dX8_leaves_0 rfl hl 1 rfl ?_
  refine x_iconst X dX8_leaves_1 xk_iconst_5 ?_
  refine x_imul X dX8_leaves_2 ?_
  refine x_iload_n X dX8_leaves_3 rfl hl 2 rfl ?_
  refine x_iadd X dX8_leaves_4 ?_
  refine x_istore_n (lv' := [(0, .ref (b 0)), (1, .int x1), (2, .int x2)]) X dX8_leaves_5 rfl hl (by decide) (fun _ => rfl) (fun x3_1 ls ex3_1 hl => ?_)
  have hf := x_oi_of ex3_1 hf
  refine x_aload_n X dX8_leaves_6 rfl hl 1 rfl ?_
  refine x_getf X in_X8_leaves_X8 (mw_o _ _ _ _) rfl 22 (by decide) lk_X8_leaves_66 rfl rfl dX8_leaves_7 ?_
  refine x_iload_n X dX8_leaves_10 rfl hl 0 rfl ?_
  obtain ⟨g2, hf⟩ := x_og_of hf
  refine x_iald X (1 + 15) 0 (mw_r15 _ _ _ _) rfl (x_in_of g2) dX8_leaves_11 ?_
  refine x_istore (lv' := [(3, .int x3_1), (0, .ref (b 0)), (1, .int x1), (2, .int x2)]) X dX8_leaves_12 hl (by decide) (fun _ => rfl) (fun x4_3 ls ex4_3 hl => ?_)
  have hf := x_oi_of ex4_3 hf
  refine x_aload_n X dX8_leaves_14 rfl hl 2 rfl ?_
  refine x_getf X in_X8_leaves_X8 (mw_o _ _ _ _) rfl 11 (by decide) lk_X8_leaves_32 rfl rfl dX8_leaves_15 ?_
  refine x_iload_n X dX8_leaves_18 rfl hl 1 rfl ?_
  refine x_iload X dX8_leaves_19 hl 0 rfl ?_
  refine x_iconst X dX8_leaves_21 xk_iconst_1 ?_
  refine x_iadd X dX8_leaves_22 ?_
  refine x_bipush X dX8_leaves_23 xk_bipush_10 ?_
  refine x_irem X dX8_leaves_25 (by decide) ?_
  obtain ⟨g4, hf⟩ := x_og_of hf
  refine x_iast X (1 + 4) 0 (mw_r4 _ _ _ _) rfl (x_in_of g4) (mw_a4 _ _ _ _ _ _) dX8_leaves_26 (fun s5 es5 => ?_)
  have hf := x_os_of es5 hf
  refine x_iload X dX8_leaves_27 hl 0 rfl ?_
  refine x_iconst X dX8_leaves_29 xk_iconst_2 ?_
  refine x_idiv X dX8_leaves_30 (by decide) ?_
  refine x_istore (lv' := [(4, .int x4_3), (3, .int x3_1), (0, .ref (b 0)), (1, .int x1), (2, .int x2)]) X dX8_leaves_31 hl (by decide) (fun _ => rfl) (fun x5_6 ls ex5_6 hl => ?_)
  have hf := x_oi_of ex5_6 hf
  refine x_iload X dX8_leaves_33 hl 1 rfl ?_
  refine x_iconst X dX8_leaves_35 xk_iconst_2 ?_
  refine x_irem X dX8_leaves_36 (by decide) ?_
  refine x_istore (lv' := [(5, .int x5_6), (4, .int x4_3), (3, .int x3_1), (0, .ref (b 0)), (1, .int x1), (2, .int x2)]) X dX8_leaves_37 hl (by decide) (fun _ => rfl) (fun x6_7 ls ex6_7 hl => ?_)
  have hf := x_oi_of ex6_7 hf
  refine x_aload_n X dX8_leaves_39 rfl hl 4 rfl ?_
  refine x_getf X in_X8_leaves_X8 (mw_o _ _ _ _) rfl 22 (by decide) lk_X8_leaves_66 rfl rfl dX8_leaves_40 ?_
  refine x_iload_n X dX8_leaves_43 rfl hl 3 rfl ?_
  refine x_aload_n X dX8_leaves_44 rfl hl 4 rfl ?_
  refine x_iload_n X dX8_leaves_45 rfl hl 5 rfl ?_
  refine x_bipush X dX8_leaves_46 xk_bipush_10 ?_
  refine x_imul X dX8_leaves_48 ?_
  refine x_iload X dX8_leaves_49 hl 2 rfl ?_
  refine x_iadd X dX8_leaves_51 ?_
  obtain ⟨v9, s8, c10, hf⟩ := x_ob_of hf
  refine x_cVi X 0 8 (mw_o _ _ _ _) rfl rfl (c_X8_takes l D cI cZ cJ b F c10) (cwV 1 X.2.2.2.2.1 gX8_leaves_X8_takes rfl rfl rfl (by decide +kernel) ⟨Nat.le_of_ble_eq_true rfl, Nat.le_of_ble_eq_true rfl⟩) rfl hl rfl (Nat.le_of_ble_eq_true rfl) ⟨Nat.zero_le _, Nat.zero_le _⟩ dX8_leaves_52 ?_
  obtain ⟨g11, hf⟩ := x_og_of hf
  refine x_iast X (1 + 15) 0 (mw_r15 _ _ _ _) rfl (x_in_of g11) (mw_a15 _ _ _ _ _ _) dX8_leaves_55 (fun s12 es12 => ?_)
  have hf := x_os_of es12 hf
  refine x_iload X dX8_leaves_56 hl 1 rfl ?_
  refine x_iconst X dX8_leaves_58 xk_iconst_4 ?_
  refine x_icmp_ge (tgt := 109) X dX8_leaves_59 rfl (fun q13 => ?_) (fun q13 => ?_)
  · have hf := (if_pos q13).symm.trans hf
    exact b_X8_leaves_109 X F x1 x2 x6_7 s12 ls hf (lv_sub hl [4, 5, 6, 0] rfl)
  · have hf := (if_neg q13).symm.trans hf
    refine x_aload_n X dX8_leaves_62 rfl hl 4 rfl ?_
    refine x_iload_n X dX8_leaves_63 rfl hl 5 rfl ?_
    refine x_iload X dX8_leaves_64 hl 1 rfl ?_
    refine x_iconst X dX8_leaves_66 xk_iconst_2 ?_
    refine x_iadd X dX8_leaves_67 ?_
    refine x_iconst X dX8_leaves_68 xk_iconst_4 ?_
    refine x_irem X dX8_leaves_69 (by decide) ?_
    obtain ⟨v22, s21, c23, hf⟩ := x_ob_of hf
    refine x_cVi X 0 8 (mw_o _ _ _ _) rfl rfl (c_X8_neighbour l D cI cZ cJ b F c23) (cwV 2 X.2.2.2.2.1 gX8_leaves_X8_neighbour rfl rfl rfl (by decide +kernel) ⟨Nat.le_of_ble_eq_true rfl, Nat.le_of_ble_eq_true rfl⟩) rfl hl rfl (Nat.le_of_ble_eq_true rfl) ⟨Nat.zero_le _, Nat.zero_le _⟩ dX8_leaves_70 ?_
    refine x_istoreA (lv' := [(7, .int v22), (6, .int x6_7), (5, .int x5_6), (4, .int x4_3), (3, .int x3_1), (0, .ref (b 0)), (1, .int x1), (2, .int x2)]) X dX8_leaves_73 hl (by decide) rfl (fun ls hl => ?_)
    refine x_aload_n X dX8_leaves_75 rfl hl 5 rfl ?_
    refine x_getf X in_X8_leaves_X8 (mw_o _ _ _ _) rfl 10 (by decide) lk_X8_leaves_29 rfl rfl dX8_leaves_76 ?_
    refine x_iconst X dX8_leaves_79 xk_iconst_5 ?_
    refine x_iload X dX8_leaves_80 hl 0 rfl ?_
    refine x_iload X dX8_leaves_82 hl 2 rfl ?_
    refine x_iload X dX8_leaves_84 hl 1 rfl ?_
    obtain ⟨v25, s24, c26, hf⟩ := x_ob_of hf
    refine x_cSi X (c_X8_linkOf l D cI cZ cJ b F c26) (va_cwS 3 X.2.2.2.2.1 gX8_leaves_X8_linkOf rfl rfl rfl (by decide +kernel) ⟨Nat.le_of_ble_eq_true rfl, Nat.le_of_ble_eq_true rfl⟩) rfl hl rfl (Nat.le_of_ble_eq_true rfl) ⟨Nat.zero_le _, Nat.zero_le _⟩ dX8_leaves_86 ?_
    refine x_imul X dX8_leaves_89 ?_
    refine x_aload_n X dX8_leaves_90 rfl hl 5 rfl ?_
    refine x_getf X in_X8_leaves_X8 (mw_o _ _ _ _) rfl 4 (by decide) lk_X8_leaves_100 rfl rfl dX8_leaves_91 ?_
    refine x_iconst X dX8_leaves_94 xk_iconst_1 ?_
    refine x_iadd X dX8_leaves_95 ?_
    refine x_aload_n X dX8_leaves_96 rfl hl 5 rfl ?_
    refine x_getf X in_X8_leaves_X8 (mw_o _ _ _ _) rfl 3 (by decide) lk_X8_leaves_97 rfl rfl dX8_leaves_97 ?_
    refine x_iadd X dX8_leaves_100 ?_
    refine x_iconst X dX8_leaves_101 xk_iconst_5 ?_
    refine x_irem X dX8_leaves_102 (by decide) ?_
    refine x_iadd X dX8_leaves_103 ?_
    refine x_dup2 X dX8_leaves_104 rfl rfl ?_
    obtain ⟨g27, hf⟩ := x_og_of hf
    refine x_iald X (1 + 3) 0 (mw_r3 _ _ _ _) rfl (x_in_of g27) dX8_leaves_105 ?_
    refine x_iconst X dX8_leaves_106 xk_iconst_1 ?_
    refine x_iadd X dX8_leaves_107 ?_
    obtain ⟨g28, hf⟩ := x_og_of hf
    refine x_iast X (1 + 3) 0 (mw_r3 _ _ _ _) rfl (x_in_of g28) (mw_a3 _ _ _ _ _ _) dX8_leaves_108 (fun s29 es29 => ?_)
    have hf := x_os_of es29 hf
    exact b_X8_leaves_109 X F x1 x2 x6_7 s29 ls hf (lv_sub hl [5, 6, 7, 1] rfl)
def rm_X8_ticks : Room := { frames := 3, cells := 0, slots := 0, locals := 75 }
theorem in_X8_ticks_X8 : ∀ w ∈ wsX80, w ∈ wsX8_ticks := by decide +kernel
theorem lk_X8_ticks_7 : Cond.fieldLink RX8 7 "CreditfabricModel" "columns" "I" ∈ wsX8_ticks := by decide +kernel
theorem lk_X8_ticks_13 : Cond.fieldLink RX8 13 "CreditfabricModel" "rows" "I" ∈ wsX8_ticks := by decide +kernel
theorem lk_X8_ticks_35 : Cond.fieldLink RX8 35 "CreditfabricModel" "gap" "[I" ∈ wsX8_ticks := by decide +kernel
theorem lk_X8_ticks_48 : Cond.fieldLink RX8 48 "CreditfabricModel" "source" "[I" ∈ wsX8_ticks := by decide +kernel
theorem lk_X8_ticks_51 : Cond.fieldLink RX8 51 "CreditfabricModel" "lane" "[I" ∈ wsX8_ticks := by decide +kernel
theorem lk_X8_ticks_57 : Cond.fieldLink RX8 57 "CreditfabricModel" "place" "[I" ∈ wsX8_ticks := by decide +kernel
theorem lk_X8_ticks_60 : Cond.fieldLink RX8 60 "CreditfabricModel" "hops" "[I" ∈ wsX8_ticks := by decide +kernel
theorem lk_X8_ticks_63 : Cond.fieldLink RX8 63 "CreditfabricModel" "isMarked" "[Z" ∈ wsX8_ticks := by decide +kernel
theorem lk_X8_ticks_66 : Cond.fieldLink RX8 66 "CreditfabricModel" "chosen" "[I" ∈ wsX8_ticks := by decide +kernel
theorem lk_X8_ticks_100 : Cond.fieldLink RX8 100 "CreditfabricModel" "tick" "I" ∈ wsX8_ticks := by decide +kernel
set_option maxHeartbeats 4000000 in
set_option maxRecDepth 100000 in
theorem b_X8_ticks_343 {p : Program} {l : Launch} {e : Env} {S0 : State} {m : MethodId} {args : Array Value} {below : List Frame} {meth : Method} {c : Code} {A : Nat → Prop} {D : va_G} {cI cZ cJ : ClassId} {b : Nat → Nat} (X : x_X p S0 m args meth c cX8_ticks 7 (some .int) RX8 wsX8_ticks D (x_tys cI cZ cJ) A) (F : Nat) {r : Int32} {s' : CS} (K292 : Int32 → Int32 → Int32 → CS → Option (Int32 × CS)) (hK292 : ∀ (x1 x2 x3 : Int32) (s : CS) (ls : Array Slot), K292 x1 x2 x3 s = some (r, s') → lv_has ls 7 [(0, .ref (b 0)), (1, .int x1), (2, .int x2), (3, .int x3)] → x_W p l e rm_X8_ticks S0 m args below meth c A D (mwld cI cZ b) 0 0 (x_Ri below args S0 A D (mwld cI cZ b) r s') s (F0 m 292 ls [])) : ∀ (x1 x2 x3 : Int32) (s : CS) (ls : Array Slot), r_X8_ticks_b343 K292 F x1 x2 x3 s = some (r, s') → lv_has ls 7 [(0, .ref (b 0)), (1, .int x1), (2, .int x2), (3, .int x3)] → x_W p l e rm_X8_ticks S0 m args below meth c A D (mwld cI cZ b) 0 0 (x_Ri below args S0 A D (mwld cI cZ b) r s') s (F0 m 343 ls []) := by
  intro x1 x2 x3 s ls hf hl
  unfold r_X8_ticks_b343 at hf
  refine x_iinc (v := (x3 + (1 : Int32))) (lv' := [(3, .int (x3 + (1 : Int32))), (0, .ref (b 0)), (1, .int x1), (2, .int x2)]) X dX8_ticks_343 hl (j := 3) rfl rfl (by decide) rfl (fun ls hl => ?_)
  refine x_goto (tgt := 292) X dX8_ticks_346 rfl ?_
  exact hK292 x1 x2 (x3 + (1 : Int32)) s ls hf (lv_sub hl [1, 2, 3, 0] rfl)
set_option maxHeartbeats 4000000 in
set_option maxRecDepth 100000 in
theorem b_X8_ticks_292 {p : Program} {l : Launch} {e : Env} {S0 : State} {m : MethodId} {args : Array Value} {below : List Frame} {meth : Method} {c : Code} {A : Nat → Prop} {D : va_G} {cI cZ cJ : ClassId} {b : Nat → Nat} (X : x_X p S0 m args meth c cX8_ticks 7 (some .int) RX8 wsX8_ticks D (x_tys cI cZ cJ) A) (F : Nat) {r : Int32} {s' : CS}  : ∀ (n : Nat) (x1 x2 x3 : Int32) (s : CS) (ls : Array Slot), r_X8_ticks_b292 F n x1 x2 x3 s = some (r, s') → lv_has ls 7 [(0, .ref (b 0)), (1, .int x1), (2, .int x2), (3, .int x3)] → x_W p l e rm_X8_ticks S0 m args below meth c A D (mwld cI cZ b) 0 0 (x_Ri below args S0 A D (mwld cI cZ b) r s') s (F0 m 292 ls []) := by
  intro n
  induction n with
  | zero =>
    intro x1 x2 x3 s ls hf hl
    have hf : (none : Option (Int32 × CS)) = some (r, s') := hf
    cases hf
  | succ n ih =>
    intro x1 x2 x3 s ls hf hl
    rw [r_X8_ticks_b292_s] at hf
    refine x_iload_n X dX8_ticks_292 rfl hl 3 rfl ?_
    refine x_iload_n X dX8_ticks_293 rfl hl 2 rfl ?_
    refine x_icmp_ge (tgt := 349) X dX8_ticks_294 rfl (fun q8 => ?_) (fun q8 => ?_)
    · have hf := (if_pos q8).symm.trans hf
      refine x_aload_n X dX8_ticks_349 rfl hl 0 rfl ?_
      refine x_dup X dX8_ticks_350 rfl ?_
      refine x_getf X in_X8_ticks_X8 (mw_o _ _ _ _) rfl 4 (by decide) lk_X8_ticks_100 rfl rfl dX8_ticks_351 ?_
      refine x_iconst X dX8_ticks_354 xk_iconst_1 ?_
      refine x_iadd X dX8_ticks_355 ?_
      refine x_puti X in_X8_ticks_X8 (mw_o _ _ _ _) rfl 4 (by decide) tyX8 tyX8_ok nmX8 lk_X8_ticks_100 rfl rfl (by decide +kernel) (Nat.le_of_ble_eq_true rfl) (mw_s4 _ _ _ _ _) dX8_ticks_356 (fun s9 es9 => ?_)
      have hf := x_os_of es9 hf
      refine x_iload_n X dX8_ticks_359 rfl hl 1 rfl ?_
      exact x_iret X rfl rfl hf dX8_ticks_360
    · have hf := (if_neg q8).symm.trans hf
      refine x_aload_n X dX8_ticks_297 rfl hl 0 rfl ?_
      refine x_getf X in_X8_ticks_X8 (mw_o _ _ _ _) rfl 22 (by decide) lk_X8_ticks_66 rfl rfl dX8_ticks_298 ?_
      refine x_iload_n X dX8_ticks_301 rfl hl 3 rfl ?_
      obtain ⟨g10, hf⟩ := x_og_of hf
      refine x_iald X (1 + 15) 0 (mw_r15 _ _ _ _) rfl (x_in_of g10) dX8_ticks_302 ?_
      refine x_istore (lv' := [(0, .ref (b 0)), (1, .int x1), (2, .int x2), (3, .int x3)]) X dX8_ticks_303 hl (by decide) (fun _ => rfl) (fun x4_11 ls ex4_11 hl => ?_)
      have hf := x_oi_of ex4_11 hf
      refine x_iload X dX8_ticks_305 hl 0 rfl ?_
      refine x_if_lt (tgt := 343) X dX8_ticks_307 rfl (fun q12 => ?_) (fun q12 => ?_)
      · have hf := (if_pos q12).symm.trans hf
        exact b_X8_ticks_343 X F _ ih x1 x2 x3 s ls hf (lv_sub hl [1, 2, 3, 4] rfl)
      · have hf := (if_neg q12).symm.trans hf
        refine x_aload_n X dX8_ticks_310 rfl hl 1 rfl ?_
        refine x_getf X in_X8_ticks_X8 (mw_o _ _ _ _) rfl 19 (by decide) lk_X8_ticks_57 rfl rfl dX8_ticks_311 ?_
        refine x_iload X dX8_ticks_314 hl 0 rfl ?_
        obtain ⟨g13, hf⟩ := x_og_of hf
        refine x_iald X (1 + 12) 0 (mw_r12 _ _ _ _) rfl (x_in_of g13) dX8_ticks_316 ?_
        refine x_if_lt (tgt := 343) X dX8_ticks_317 rfl (fun q14 => ?_) (fun q14 => ?_)
        · have hf := (if_pos q14).symm.trans hf
          exact b_X8_ticks_343 X F _ ih x1 x2 x3 s ls hf (lv_sub hl [1, 2, 3, 4] rfl)
        · have hf := (if_neg q14).symm.trans hf
          refine x_aload_n X dX8_ticks_320 rfl hl 1 rfl ?_
          refine x_aload_n X dX8_ticks_321 rfl hl 1 rfl ?_
          refine x_getf X in_X8_ticks_X8 (mw_o _ _ _ _) rfl 19 (by decide) lk_X8_ticks_57 rfl rfl dX8_ticks_322 ?_
          refine x_iload X dX8_ticks_325 hl 0 rfl ?_
          obtain ⟨g15, hf⟩ := x_og_of hf
          refine x_iald X (1 + 12) 0 (mw_r12 _ _ _ _) rfl (x_in_of g15) dX8_ticks_327 ?_
          obtain ⟨v17, s16, c18, hf⟩ := x_ob_of hf
          refine x_cVi X 0 8 (mw_o _ _ _ _) rfl rfl (c_X8_inSwitch l D cI cZ cJ b F c18) (cwV 1 X.2.2.2.2.1 gX8_ticks_X8_inSwitch rfl rfl rfl (by decide +kernel) ⟨Nat.le_of_ble_eq_true rfl, Nat.le_of_ble_eq_true rfl⟩) rfl hl rfl (Nat.le_of_ble_eq_true rfl) ⟨Nat.zero_le _, Nat.zero_le _⟩ dX8_ticks_328 ?_
          refine x_iconst X dX8_ticks_331 xk_iconst_4 ?_
          refine x_icmp_lt (tgt := 343) X dX8_ticks_332 rfl (fun q19 => ?_) (fun q19 => ?_)
          · have hf := (if_pos q19).symm.trans hf
            exact b_X8_ticks_343 X F _ ih x1 x2 x3 s16 ls hf (lv_sub hl [1, 2, 3, 4] rfl)
          · have hf := (if_neg q19).symm.trans hf
            refine x_aload_n X dX8_ticks_335 rfl hl 1 rfl ?_
            refine x_getf X in_X8_ticks_X8 (mw_o _ _ _ _) rfl 21 (by decide) lk_X8_ticks_63 rfl rfl dX8_ticks_336 ?_
            refine x_iload X dX8_ticks_339 hl 0 rfl ?_
            refine x_iconst X dX8_ticks_341 xk_iconst_1 ?_
            obtain ⟨g20, hf⟩ := x_og_of hf
            refine x_zast X (1 + 14) 1 (mw_r14 _ _ _ _) rfl (x_in_of g20) (mw_a14 _ _ _ _ _ _) dX8_ticks_342 (fun s21 es21 => ?_)
            have hf := x_os_of es21 hf
            exact b_X8_ticks_343 X F _ ih x1 x2 x3 s21 ls hf (lv_sub hl [1, 2, 3, 4] rfl)
set_option maxHeartbeats 4000000 in
set_option maxRecDepth 100000 in
theorem b_X8_ticks_284 {p : Program} {l : Launch} {e : Env} {S0 : State} {m : MethodId} {args : Array Value} {below : List Frame} {meth : Method} {c : Code} {A : Nat → Prop} {D : va_G} {cI cZ cJ : ClassId} {b : Nat → Nat} (X : x_X p S0 m args meth c cX8_ticks 7 (some .int) RX8 wsX8_ticks D (x_tys cI cZ cJ) A) (F : Nat) {r : Int32} {s' : CS} (K102 : Int32 → Int32 → Int32 → CS → Option (Int32 × CS)) (hK102 : ∀ (x1 x2 x3 : Int32) (s : CS) (ls : Array Slot), K102 x1 x2 x3 s = some (r, s') → lv_has ls 7 [(0, .ref (b 0)), (1, .int x1), (2, .int x2), (3, .int x3)] → x_W p l e rm_X8_ticks S0 m args below meth c A D (mwld cI cZ b) 0 0 (x_Ri below args S0 A D (mwld cI cZ b) r s') s (F0 m 102 ls [])) : ∀ (x1 x2 x3 : Int32) (s : CS) (ls : Array Slot), r_X8_ticks_b284 K102 F x1 x2 x3 s = some (r, s') → lv_has ls 7 [(0, .ref (b 0)), (1, .int x1), (2, .int x2), (3, .int x3)] → x_W p l e rm_X8_ticks S0 m args below meth c A D (mwld cI cZ b) 0 0 (x_Ri below args S0 A D (mwld cI cZ b) r s') s (F0 m 284 ls []) := by
  intro x1 x2 x3 s ls hf hl
  unfold r_X8_ticks_b284 at hf
  refine x_iinc (v := (x3 + (1 : Int32))) (lv' := [(3, .int (x3 + (1 : Int32))), (0, .ref (b 0)), (1, .int x1), (2, .int x2)]) X dX8_ticks_284 hl (j := 3) rfl rfl (by decide) rfl (fun ls hl => ?_)
  refine x_goto (tgt := 102) X dX8_ticks_287 rfl ?_
  exact hK102 x1 x2 (x3 + (1 : Int32)) s ls hf (lv_sub hl [1, 2, 3, 0] rfl)
set_option maxHeartbeats 4000000 in
set_option maxRecDepth 100000 in
theorem b_X8_ticks_280 {p : Program} {l : Launch} {e : Env} {S0 : State} {m : MethodId} {args : Array Value} {below : List Frame} {meth : Method} {c : Code} {A : Nat → Prop} {D : va_G} {cI cZ cJ : ClassId} {b : Nat → Nat} (X : x_X p S0 m args meth c cX8_ticks 7 (some .int) RX8 wsX8_ticks D (x_tys cI cZ cJ) A) (F : Nat) {r : Int32} {s' : CS} (K102 : Int32 → Int32 → Int32 → CS → Option (Int32 × CS)) (hK102 : ∀ (x1 x2 x3 : Int32) (s : CS) (ls : Array Slot), K102 x1 x2 x3 s = some (r, s') → lv_has ls 7 [(0, .ref (b 0)), (1, .int x1), (2, .int x2), (3, .int x3)] → x_W p l e rm_X8_ticks S0 m args below meth c A D (mwld cI cZ b) 0 0 (x_Ri below args S0 A D (mwld cI cZ b) r s') s (F0 m 102 ls [])) : ∀ (x1 x2 x3 t0 t1 : Int32) (s : CS) (ls : Array Slot), r_X8_ticks_b280 K102 F x1 x2 x3 t0 t1 s = some (r, s') → lv_has ls 7 [(0, .ref (b 0)), (1, .int x1), (2, .int x2), (3, .int x3)] → x_W p l e rm_X8_ticks S0 m args below meth c A D (mwld cI cZ b) 0 0 (x_Ri below args S0 A D (mwld cI cZ b) r s') s (F0 m 280 ls [.int t0, .int t1, .ref (b (1 + 5))]) := by
  intro x1 x2 x3 t0 t1 s ls hf hl
  unfold r_X8_ticks_b280 at hf
  obtain ⟨g36, hf⟩ := x_og_of hf
  refine x_iast X (1 + 5) 0 (mw_r5 _ _ _ _) rfl (x_in_of g36) (mw_a5 _ _ _ _ _ _) dX8_ticks_280 (fun s37 es37 => ?_)
  have hf := x_os_of es37 hf
  refine x_iinc (v := (x1 + (1 : Int32))) (lv' := [(1, .int (x1 + (1 : Int32))), (0, .ref (b 0)), (2, .int x2), (3, .int x3)]) X dX8_ticks_281 hl (j := 1) rfl rfl (by decide) rfl (fun ls hl => ?_)
  exact b_X8_ticks_284 X F _ hK102 (x1 + (1 : Int32)) x2 x3 s37 ls hf (lv_sub hl [1, 0, 2, 3] rfl)
set_option maxHeartbeats 4000000 in
set_option maxRecDepth 100000 in
theorem b_X8_ticks_233 {p : Program} {l : Launch} {e : Env} {S0 : State} {m : MethodId} {args : Array Value} {below : List Frame} {meth : Method} {c : Code} {A : Nat → Prop} {D : va_G} {cI cZ cJ : ClassId} {b : Nat → Nat} (X : x_X p S0 m args meth c cX8_ticks 7 (some .int) RX8 wsX8_ticks D (x_tys cI cZ cJ) A) (F : Nat) {r : Int32} {s' : CS} (K102 : Int32 → Int32 → Int32 → CS → Option (Int32 × CS)) (hK102 : ∀ (x1 x2 x3 : Int32) (s : CS) (ls : Array Slot), K102 x1 x2 x3 s = some (r, s') → lv_has ls 7 [(0, .ref (b 0)), (1, .int x1), (2, .int x2), (3, .int x3)] → x_W p l e rm_X8_ticks S0 m args below meth c A D (mwld cI cZ b) 0 0 (x_Ri below args S0 A D (mwld cI cZ b) r s') s (F0 m 102 ls [])) : ∀ (x1 x2 x3 x4 x5 t0 : Int32) (s : CS) (ls : Array Slot), r_X8_ticks_b233 K102 F x1 x2 x3 x4 x5 t0 s = some (r, s') → lv_has ls 7 [(0, .ref (b 0)), (1, .int x1), (2, .int x2), (3, .int x3), (4, .int x4), (5, .int x5)] → x_W p l e rm_X8_ticks S0 m args below meth c A D (mwld cI cZ b) 0 0 (x_Ri below args S0 A D (mwld cI cZ b) r s') s (F0 m 233 ls [.int t0]) := by
  intro x1 x2 x3 x4 x5 t0 s ls hf hl
  unfold r_X8_ticks_b233 at hf
  refine x_istoreA (lv' := [(6, .int t0), (0, .ref (b 0)), (1, .int x1), (2, .int x2), (3, .int x3), (4, .int x4), (5, .int x5)]) X dX8_ticks_233 hl (by decide) rfl (fun ls hl => ?_)
  refine x_aload_n X dX8_ticks_235 rfl hl 1 rfl ?_
  refine x_getf X in_X8_ticks_X8 (mw_o _ _ _ _) rfl 12 (by decide) lk_X8_ticks_35 rfl rfl dX8_ticks_236 ?_
  refine x_iload X dX8_ticks_239 hl 6 rfl ?_
  refine x_aload_n X dX8_ticks_241 rfl hl 1 rfl ?_
  refine x_getf X in_X8_ticks_X8 (mw_o _ _ _ _) rfl 21 (by decide) lk_X8_ticks_63 rfl rfl dX8_ticks_242 ?_
  refine x_iload X dX8_ticks_245 hl 5 rfl ?_
  obtain ⟨g32, hf⟩ := x_og_of hf
  refine x_zald X (1 + 14) 1 (mw_r14 _ _ _ _) rfl (x_in_of g32) dX8_ticks_247 ?_
  refine x_if_eq (tgt := 256) X dX8_ticks_248 rfl (fun q33 => ?_) (fun q33 => ?_)
  · have hf := (if_pos q33).symm.trans hf
    refine x_aload_n X dX8_ticks_256 rfl hl 1 rfl ?_
    refine x_getf X in_X8_ticks_X8 (mw_o _ _ _ _) rfl 12 (by decide) lk_X8_ticks_35 rfl rfl dX8_ticks_257 ?_
    refine x_iload X dX8_ticks_260 hl 6 rfl ?_
    obtain ⟨g34, hf⟩ := x_og_of hf
    refine x_iald X (1 + 5) 0 (mw_r5 _ _ _ _) rfl (x_in_of g34) dX8_ticks_262 ?_
    refine x_iconst X dX8_ticks_263 xk_iconst_1 ?_
    refine x_icmp_le (tgt := 279) X dX8_ticks_264 rfl (fun q35 => ?_) (fun q35 => ?_)
    · have hf := (if_pos q35).symm.trans hf
      refine x_iconst X dX8_ticks_279 xk_iconst_1 ?_
      exact b_X8_ticks_280 X F _ hK102 x1 x2 x3 (1 : Int32) x5 s ls hf (lv_sub hl [1, 2, 3, 4] rfl)
    · have hf := (if_neg q35).symm.trans hf
      refine x_aload_n X dX8_ticks_267 rfl hl 1 rfl ?_
      refine x_getf X in_X8_ticks_X8 (mw_o _ _ _ _) rfl 12 (by decide) lk_X8_ticks_35 rfl rfl dX8_ticks_268 ?_
      refine x_iload X dX8_ticks_271 hl 6 rfl ?_
      obtain ⟨g38, hf⟩ := x_og_of hf
      refine x_iald X (1 + 5) 0 (mw_r5 _ _ _ _) rfl (x_in_of g38) dX8_ticks_273 ?_
      refine x_iconst X dX8_ticks_274 xk_iconst_1 ?_
      refine x_isub X dX8_ticks_275 ?_
      refine x_goto (tgt := 280) X dX8_ticks_276 rfl ?_
      exact b_X8_ticks_280 X F _ hK102 x1 x2 x3 ((x_at s 5 x5) - (1 : Int32)) x5 s ls hf (lv_sub hl [1, 2, 3, 4] rfl)
  · have hf := (if_neg q33).symm.trans hf
    refine x_iload X dX8_ticks_251 hl 0 rfl ?_
    refine x_goto (tgt := 280) X dX8_ticks_253 rfl ?_
    exact b_X8_ticks_280 X F _ hK102 x1 x2 x3 t0 x5 s ls hf (lv_sub hl [1, 2, 3, 4] rfl)
set_option maxHeartbeats 4000000 in
set_option maxRecDepth 100000 in
theorem b_X8_ticks_183 {p : Program} {l : Launch} {e : Env} {S0 : State} {m : MethodId} {args : Array Value} {below : List Frame} {meth : Method} {c : Code} {A : Nat → Prop} {D : va_G} {cI cZ cJ : ClassId} {b : Nat → Nat} (X : x_X p S0 m args meth c cX8_ticks 7 (some .int) RX8 wsX8_ticks D (x_tys cI cZ cJ) A) (F : Nat) {r : Int32} {s' : CS} (K102 : Int32 → Int32 → Int32 → CS → Option (Int32 × CS)) (hK102 : ∀ (x1 x2 x3 : Int32) (s : CS) (ls : Array Slot), K102 x1 x2 x3 s = some (r, s') → lv_has ls 7 [(0, .ref (b 0)), (1, .int x1), (2, .int x2), (3, .int x3)] → x_W p l e rm_X8_ticks S0 m args below meth c A D (mwld cI cZ b) 0 0 (x_Ri below args S0 A D (mwld cI cZ b) r s') s (F0 m 102 ls [])) : ∀ (x1 x2 x3 x4 : Int32) (s : CS) (ls : Array Slot), r_X8_ticks_b183 K102 F x1 x2 x3 x4 s = some (r, s') → lv_has ls 7 [(0, .ref (b 0)), (1, .int x1), (2, .int x2), (3, .int x3), (4, .int x4)] → x_W p l e rm_X8_ticks S0 m args below meth c A D (mwld cI cZ b) 0 0 (x_Ri below args S0 A D (mwld cI cZ b) r s') s (F0 m 183 ls []) := by
  intro x1 x2 x3 x4 s ls hf hl
  unfold r_X8_ticks_b183 at hf
  refine x_iload X dX8_ticks_183 hl 4 rfl ?_
  refine x_if_lt (tgt := 284) X dX8_ticks_185 rfl (fun q25 => ?_) (fun q25 => ?_)
  · have hf := (if_pos q25).symm.trans hf
    exact b_X8_ticks_284 X F _ hK102 x1 x2 x3 s ls hf (lv_sub hl [0, 1, 2, 3] rfl)
  · have hf := (if_neg q25).symm.trans hf
    refine x_aload_n X dX8_ticks_188 rfl hl 0 rfl ?_
    refine x_getf X in_X8_ticks_X8 (mw_o _ _ _ _) rfl 19 (by decide) lk_X8_ticks_57 rfl rfl dX8_ticks_189 ?_
    refine x_iload X dX8_ticks_192 hl 4 rfl ?_
    refine x_iconst X dX8_ticks_194 xk_iconst_m1 ?_
    obtain ⟨g26, hf⟩ := x_og_of hf
    refine x_iast X (1 + 12) 0 (mw_r12 _ _ _ _) rfl (x_in_of g26) (mw_a12 _ _ _ _ _ _) dX8_ticks_195 (fun s27 es27 => ?_)
    have hf := x_os_of es27 hf
    refine x_aload_n X dX8_ticks_196 rfl hl 0 rfl ?_
    refine x_getf X in_X8_ticks_X8 (mw_o _ _ _ _) rfl 16 (by decide) lk_X8_ticks_48 rfl rfl dX8_ticks_197 ?_
    refine x_iload X dX8_ticks_200 hl 4 rfl ?_
    obtain ⟨g28, hf⟩ := x_og_of hf
    refine x_iald X (1 + 9) 0 (mw_r9 _ _ _ _) rfl (x_in_of g28) dX8_ticks_202 ?_
    refine x_istore (lv' := [(0, .ref (b 0)), (1, .int x1), (2, .int x2), (3, .int x3), (4, .int x4)]) X dX8_ticks_203 hl (by decide) (fun _ => rfl) (fun x5_29 ls ex5_29 hl => ?_)
    have hf := x_oi_of ex5_29 hf
    refine x_iconst X dX8_ticks_205 xk_iconst_2 ?_
    refine x_aload_n X dX8_ticks_206 rfl hl 1 rfl ?_
    refine x_getf X in_X8_ticks_X8 (mw_o _ _ _ _) rfl 12 (by decide) lk_X8_ticks_35 rfl rfl dX8_ticks_207 ?_
    refine x_iload X dX8_ticks_210 hl 0 rfl ?_
    obtain ⟨g30, hf⟩ := x_og_of hf
    refine x_iald X (1 + 5) 0 (mw_r5 _ _ _ _) rfl (x_in_of g30) dX8_ticks_212 ?_
    refine x_imul X dX8_ticks_213 ?_
    refine x_bipush X dX8_ticks_214 xk_bipush_16 ?_
    refine x_icmp_ge (tgt := 231) X dX8_ticks_216 rfl (fun q31 => ?_) (fun q31 => ?_)
    · have hf := (if_pos q31).symm.trans hf
      refine x_bipush X dX8_ticks_231 xk_bipush_16 ?_
      exact b_X8_ticks_233 X F _ hK102 x1 x2 x3 x4 x5_29 (16 : Int32) s27 ls hf (lv_sub hl [1, 2, 3, 4, 5, 0] rfl)
    · have hf := (if_neg q31).symm.trans hf
      refine x_iconst X dX8_ticks_219 xk_iconst_2 ?_
      refine x_aload_n X dX8_ticks_220 rfl hl 1 rfl ?_
      refine x_getf X in_X8_ticks_X8 (mw_o _ _ _ _) rfl 12 (by decide) lk_X8_ticks_35 rfl rfl dX8_ticks_221 ?_
      refine x_iload X dX8_ticks_224 hl 0 rfl ?_
      obtain ⟨g39, hf⟩ := x_og_of hf
      refine x_iald X (1 + 5) 0 (mw_r5 _ _ _ _) rfl (x_in_of g39) dX8_ticks_226 ?_
      refine x_imul X dX8_ticks_227 ?_
      refine x_goto (tgt := 233) X dX8_ticks_228 rfl ?_
      exact b_X8_ticks_233 X F _ hK102 x1 x2 x3 x4 x5_29 ((2 : Int32) * (x_at s27 5 x5_29)) s27 ls hf (lv_sub hl [1, 2, 3, 4, 5, 0] rfl)
set_option maxHeartbeats 4000000 in
set_option maxRecDepth 100000 in
theorem b_X8_ticks_102 {p : Program} {l : Launch} {e : Env} {S0 : State} {m : MethodId} {args : Array Value} {below : List Frame} {meth : Method} {c : Code} {A : Nat → Prop} {D : va_G} {cI cZ cJ : ClassId} {b : Nat → Nat} (X : x_X p S0 m args meth c cX8_ticks 7 (some .int) RX8 wsX8_ticks D (x_tys cI cZ cJ) A) (F : Nat) {r : Int32} {s' : CS}  : ∀ (n : Nat) (x1 x2 x3 : Int32) (s : CS) (ls : Array Slot), r_X8_ticks_b102 F n x1 x2 x3 s = some (r, s') → lv_has ls 7 [(0, .ref (b 0)), (1, .int x1), (2, .int x2), (3, .int x3)] → x_W p l e rm_X8_ticks S0 m args below meth c A D (mwld cI cZ b) 0 0 (x_Ri below args S0 A D (mwld cI cZ b) r s') s (F0 m 102 ls []) := by
  intro n
  induction n with
  | zero =>
    intro x1 x2 x3 s ls hf hl
    have hf : (none : Option (Int32 × CS)) = some (r, s') := hf
    cases hf
  | succ n ih =>
    intro x1 x2 x3 s ls hf hl
    rw [r_X8_ticks_b102_s] at hf
    refine x_iload_n X dX8_ticks_102 rfl hl 3 rfl ?_
    refine x_iload_n X dX8_ticks_103 rfl hl 2 rfl ?_
    refine x_icmp_ge (tgt := 290) X dX8_ticks_104 rfl (fun q7 => ?_) (fun q7 => ?_)
    · have hf := (if_pos q7).symm.trans hf
      refine x_iconst X dX8_ticks_290 xk_iconst_0 ?_
      refine x_istoreA_n (lv' := [(3, .int (0 : Int32)), (0, .ref (b 0)), (1, .int x1), (2, .int x2)]) X dX8_ticks_291 rfl hl (by decide) rfl (fun ls hl => ?_)
      exact b_X8_ticks_292 X F F x1 x2 (0 : Int32) s ls hf (lv_sub hl [1, 2, 3, 0] rfl)
    · have hf := (if_neg q7).symm.trans hf
      refine x_aload_n X dX8_ticks_107 rfl hl 0 rfl ?_
      refine x_getf X in_X8_ticks_X8 (mw_o _ _ _ _) rfl 22 (by decide) lk_X8_ticks_66 rfl rfl dX8_ticks_108 ?_
      refine x_iload_n X dX8_ticks_111 rfl hl 3 rfl ?_
      obtain ⟨g22, hf⟩ := x_og_of hf
      refine x_iald X (1 + 15) 0 (mw_r15 _ _ _ _) rfl (x_in_of g22) dX8_ticks_112 ?_
      refine x_istore (lv' := [(0, .ref (b 0)), (1, .int x1), (2, .int x2), (3, .int x3)]) X dX8_ticks_113 hl (by decide) (fun _ => rfl) (fun x4_23 ls ex4_23 hl => ?_)
      have hf := x_oi_of ex4_23 hf
      refine x_iload X dX8_ticks_115 hl 0 rfl ?_
      refine x_if_lt (tgt := 183) X dX8_ticks_117 rfl (fun q24 => ?_) (fun q24 => ?_)
      · have hf := (if_pos q24).symm.trans hf
        exact b_X8_ticks_183 X F _ ih x1 x2 x3 x4_23 s ls hf (lv_sub hl [1, 2, 3, 4, 0] rfl)
      · have hf := (if_neg q24).symm.trans hf
        refine x_iload_n X dX8_ticks_120 rfl hl 4 rfl ?_
        refine x_iconst X dX8_ticks_121 xk_iconst_5 ?_
        refine x_irem X dX8_ticks_122 (by decide) ?_
        refine x_iconst X dX8_ticks_123 xk_iconst_4 ?_
        refine x_icmp_ge (tgt := 183) X dX8_ticks_124 rfl (fun q40 => ?_) (fun q40 => ?_)
        · have hf := (if_pos q40).symm.trans hf
          exact b_X8_ticks_183 X F _ ih x1 x2 x3 x4_23 s ls hf (lv_sub hl [1, 2, 3, 4, 0] rfl)
        · have hf := (if_neg q40).symm.trans hf
          refine x_aload_n X dX8_ticks_127 rfl hl 1 rfl ?_
          refine x_iload_n X dX8_ticks_128 rfl hl 4 rfl ?_
          refine x_iconst X dX8_ticks_129 xk_iconst_5 ?_
          refine x_idiv X dX8_ticks_130 (by decide) ?_
          refine x_iload_n X dX8_ticks_131 rfl hl 4 rfl ?_
          refine x_iconst X dX8_ticks_132 xk_iconst_5 ?_
          refine x_irem X dX8_ticks_133 (by decide) ?_
          obtain ⟨v42, s41, c43, hf⟩ := x_ob_of hf
          refine x_cVi X 0 8 (mw_o _ _ _ _) rfl rfl (c_X8_neighbour l D cI cZ cJ b F c43) (cwV 2 X.2.2.2.2.1 gX8_ticks_X8_neighbour rfl rfl rfl (by decide +kernel) ⟨Nat.le_of_ble_eq_true rfl, Nat.le_of_ble_eq_true rfl⟩) rfl hl rfl (Nat.le_of_ble_eq_true rfl) ⟨Nat.zero_le _, Nat.zero_le _⟩ dX8_ticks_134 ?_
          refine x_istoreA (lv' := [(5, .int v42), (4, .int x4_23), (0, .ref (b 0)), (1, .int x1), (2, .int x2), (3, .int x3)]) X dX8_ticks_137 hl (by decide) rfl (fun ls hl => ?_)
          refine x_aload_n X dX8_ticks_139 rfl hl 2 rfl ?_
          refine x_iload X dX8_ticks_140 hl 0 rfl ?_
          refine x_iload_n X dX8_ticks_142 rfl hl 5 rfl ?_
          refine x_iconst X dX8_ticks_143 xk_iconst_5 ?_
          refine x_irem X dX8_ticks_144 (by decide) ?_
          refine x_aload_n X dX8_ticks_145 rfl hl 2 rfl ?_
          refine x_getf X in_X8_ticks_X8 (mw_o _ _ _ _) rfl 17 (by decide) lk_X8_ticks_51 rfl rfl dX8_ticks_146 ?_
          refine x_iload X dX8_ticks_149 hl 1 rfl ?_
          obtain ⟨g44, hf⟩ := x_og_of hf
          refine x_iald X (1 + 10) 0 (mw_r10 _ _ _ _) rfl (x_in_of g44) dX8_ticks_151 ?_
          obtain ⟨v46, s45, c47, hf⟩ := x_ob_of hf
          refine x_cSi X (c_X8_bufferOf l D cI cZ cJ b F c47) (va_cwS 3 X.2.2.2.2.1 gX8_ticks_X8_bufferOf rfl rfl rfl (by decide +kernel) ⟨Nat.le_of_ble_eq_true rfl, Nat.le_of_ble_eq_true rfl⟩) rfl hl rfl (Nat.le_of_ble_eq_true rfl) ⟨Nat.zero_le _, Nat.zero_le _⟩ dX8_ticks_152 ?_
          refine x_iload X dX8_ticks_155 hl 1 rfl ?_
          obtain ⟨v49, s48, c50, hf⟩ := x_ob_of hf
          refine x_cVv X 0 8 (mw_o _ _ _ _) rfl rfl (c_X8_puts l D cI cZ cJ b F c50) (cwV 2 X.2.2.2.2.1 gX8_ticks_X8_puts rfl rfl rfl (by decide +kernel) ⟨Nat.le_of_ble_eq_true rfl, Nat.le_of_ble_eq_true rfl⟩) rfl hl rfl (Nat.le_of_ble_eq_true rfl) ⟨Nat.zero_le _, Nat.zero_le _⟩ dX8_ticks_157 ?_
          refine x_aload_n X dX8_ticks_160 rfl hl 2 rfl ?_
          refine x_getf X in_X8_ticks_X8 (mw_o _ _ _ _) rfl 19 (by decide) lk_X8_ticks_57 rfl rfl dX8_ticks_161 ?_
          refine x_iload X dX8_ticks_164 hl 1 rfl ?_
          refine x_iload X dX8_ticks_166 hl 0 rfl ?_
          obtain ⟨g51, hf⟩ := x_og_of hf
          refine x_iast X (1 + 12) 0 (mw_r12 _ _ _ _) rfl (x_in_of g51) (mw_a12 _ _ _ _ _ _) dX8_ticks_168 (fun s52 es52 => ?_)
          have hf := x_os_of es52 hf
          refine x_aload_n X dX8_ticks_169 rfl hl 2 rfl ?_
          refine x_getf X in_X8_ticks_X8 (mw_o _ _ _ _) rfl 20 (by decide) lk_X8_ticks_60 rfl rfl dX8_ticks_170 ?_
          refine x_iload X dX8_ticks_173 hl 1 rfl ?_
          refine x_dup2 X dX8_ticks_175 rfl rfl ?_
          obtain ⟨g53, hf⟩ := x_og_of hf
          refine x_iald X (1 + 13) 0 (mw_r13 _ _ _ _) rfl (x_in_of g53) dX8_ticks_176 ?_
          refine x_iconst X dX8_ticks_177 xk_iconst_1 ?_
          refine x_iadd X dX8_ticks_178 ?_
          obtain ⟨g54, hf⟩ := x_og_of hf
          refine x_iast X (1 + 13) 0 (mw_r13 _ _ _ _) rfl (x_in_of g54) (mw_a13 _ _ _ _ _ _) dX8_ticks_179 (fun s55 es55 => ?_)
          have hf := x_os_of es55 hf
          refine x_goto (tgt := 284) X dX8_ticks_180 rfl ?_
          exact b_X8_ticks_284 X F _ ih x1 x2 x3 s55 ls hf (lv_sub hl [2, 3, 4, 5] rfl)
set_option maxHeartbeats 4000000 in
set_option maxRecDepth 100000 in
theorem b_X8_ticks_94 {p : Program} {l : Launch} {e : Env} {S0 : State} {m : MethodId} {args : Array Value} {below : List Frame} {meth : Method} {c : Code} {A : Nat → Prop} {D : va_G} {cI cZ cJ : ClassId} {b : Nat → Nat} (X : x_X p S0 m args meth c cX8_ticks 7 (some .int) RX8 wsX8_ticks D (x_tys cI cZ cJ) A) (F : Nat) {r : Int32} {s' : CS} (K70 : Int32 → Int32 → Int32 → CS → Option (Int32 × CS)) (hK70 : ∀ (x1 x2 x3 : Int32) (s : CS) (ls : Array Slot), K70 x1 x2 x3 s = some (r, s') → lv_has ls 7 [(0, .ref (b 0)), (1, .int x1), (2, .int x2), (3, .int x3)] → x_W p l e rm_X8_ticks S0 m args below meth c A D (mwld cI cZ b) 0 0 (x_Ri below args S0 A D (mwld cI cZ b) r s') s (F0 m 70 ls [])) : ∀ (x1 x2 x3 : Int32) (s : CS) (ls : Array Slot), r_X8_ticks_b94 K70 F x1 x2 x3 s = some (r, s') → lv_has ls 7 [(0, .ref (b 0)), (1, .int x1), (2, .int x2), (3, .int x3)] → x_W p l e rm_X8_ticks S0 m args below meth c A D (mwld cI cZ b) 0 0 (x_Ri below args S0 A D (mwld cI cZ b) r s') s (F0 m 94 ls []) := by
  intro x1 x2 x3 s ls hf hl
  unfold r_X8_ticks_b94 at hf
  refine x_iinc (v := (x3 + (1 : Int32))) (lv' := [(3, .int (x3 + (1 : Int32))), (0, .ref (b 0)), (1, .int x1), (2, .int x2)]) X dX8_ticks_94 hl (j := 3) rfl rfl (by decide) rfl (fun ls hl => ?_)
  refine x_goto (tgt := 70) X dX8_ticks_97 rfl ?_
  exact hK70 x1 x2 (x3 + (1 : Int32)) s ls hf (lv_sub hl [1, 2, 3, 0] rfl)
set_option maxHeartbeats 4000000 in
set_option maxRecDepth 100000 in
theorem b_X8_ticks_70 {p : Program} {l : Launch} {e : Env} {S0 : State} {m : MethodId} {args : Array Value} {below : List Frame} {meth : Method} {c : Code} {A : Nat → Prop} {D : va_G} {cI cZ cJ : ClassId} {b : Nat → Nat} (X : x_X p S0 m args meth c cX8_ticks 7 (some .int) RX8 wsX8_ticks D (x_tys cI cZ cJ) A) (F : Nat) {r : Int32} {s' : CS}  : ∀ (n : Nat) (x1 x2 x3 : Int32) (s : CS) (ls : Array Slot), r_X8_ticks_b70 F n x1 x2 x3 s = some (r, s') → lv_has ls 7 [(0, .ref (b 0)), (1, .int x1), (2, .int x2), (3, .int x3)] → x_W p l e rm_X8_ticks S0 m args below meth c A D (mwld cI cZ b) 0 0 (x_Ri below args S0 A D (mwld cI cZ b) r s') s (F0 m 70 ls []) := by
  intro n
  induction n with
  | zero =>
    intro x1 x2 x3 s ls hf hl
    have hf : (none : Option (Int32 × CS)) = some (r, s') := hf
    cases hf
  | succ n ih =>
    intro x1 x2 x3 s ls hf hl
    rw [r_X8_ticks_b70_s] at hf
    refine x_iload_n X dX8_ticks_70 rfl hl 3 rfl ?_
    refine x_iload_n X dX8_ticks_71 rfl hl 2 rfl ?_
    refine x_icmp_ge (tgt := 100) X dX8_ticks_72 rfl (fun q6 => ?_) (fun q6 => ?_)
    · have hf := (if_pos q6).symm.trans hf
      refine x_iconst X dX8_ticks_100 xk_iconst_0 ?_
      refine x_istoreA_n (lv' := [(3, .int (0 : Int32)), (0, .ref (b 0)), (1, .int x1), (2, .int x2)]) X dX8_ticks_101 rfl hl (by decide) rfl (fun ls hl => ?_)
      exact b_X8_ticks_102 X F F x1 x2 (0 : Int32) s ls hf (lv_sub hl [1, 2, 3, 0] rfl)
    · have hf := (if_neg q6).symm.trans hf
      refine x_aload_n X dX8_ticks_75 rfl hl 0 rfl ?_
      refine x_getf X in_X8_ticks_X8 (mw_o _ _ _ _) rfl 22 (by decide) lk_X8_ticks_66 rfl rfl dX8_ticks_76 ?_
      refine x_iload_n X dX8_ticks_79 rfl hl 3 rfl ?_
      obtain ⟨g56, hf⟩ := x_og_of hf
      refine x_iald X (1 + 15) 0 (mw_r15 _ _ _ _) rfl (x_in_of g56) dX8_ticks_80 ?_
      refine x_if_lt (tgt := 94) X dX8_ticks_81 rfl (fun q57 => ?_) (fun q57 => ?_)
      · have hf := (if_pos q57).symm.trans hf
        exact b_X8_ticks_94 X F _ ih x1 x2 x3 s ls hf (lv_sub hl [0, 1, 2, 3] rfl)
      · have hf := (if_neg q57).symm.trans hf
        refine x_aload_n X dX8_ticks_84 rfl hl 0 rfl ?_
        refine x_iload_n X dX8_ticks_85 rfl hl 3 rfl ?_
        refine x_iconst X dX8_ticks_86 xk_iconst_5 ?_
        refine x_idiv X dX8_ticks_87 (by decide) ?_
        refine x_iload_n X dX8_ticks_88 rfl hl 3 rfl ?_
        refine x_iconst X dX8_ticks_89 xk_iconst_5 ?_
        refine x_irem X dX8_ticks_90 (by decide) ?_
        obtain ⟨v59, s58, c60, hf⟩ := x_ob_of hf
        refine x_cVv X 0 8 (mw_o _ _ _ _) rfl rfl (c_X8_leaves l D cI cZ cJ b F c60) (cwV 2 X.2.2.2.2.1 gX8_ticks_X8_leaves rfl rfl rfl (by decide +kernel) ⟨Nat.le_of_ble_eq_true rfl, Nat.le_of_ble_eq_true rfl⟩) rfl hl rfl (Nat.le_of_ble_eq_true rfl) ⟨Nat.zero_le _, Nat.zero_le _⟩ dX8_ticks_91 ?_
        exact b_X8_ticks_94 X F _ ih x1 x2 x3 s58 ls hf (lv_sub hl [0, 1, 2, 3] rfl)
set_option maxHeartbeats 4000000 in
set_option maxRecDepth 100000 in
theorem b_X8_ticks_62 {p : Program} {l : Launch} {e : Env} {S0 : State} {m : MethodId} {args : Array Value} {below : List Frame} {meth : Method} {c : Code} {A : Nat → Prop} {D : va_G} {cI cZ cJ : ClassId} {b : Nat → Nat} (X : x_X p S0 m args meth c cX8_ticks 7 (some .int) RX8 wsX8_ticks D (x_tys cI cZ cJ) A) (F : Nat) {r : Int32} {s' : CS} (K20 : Int32 → Int32 → Int32 → CS → Option (Int32 × CS)) (hK20 : ∀ (x1 x2 x3 : Int32) (s : CS) (ls : Array Slot), K20 x1 x2 x3 s = some (r, s') → lv_has ls 7 [(0, .ref (b 0)), (1, .int x1), (2, .int x2), (3, .int x3)] → x_W p l e rm_X8_ticks S0 m args below meth c A D (mwld cI cZ b) 0 0 (x_Ri below args S0 A D (mwld cI cZ b) r s') s (F0 m 20 ls [])) : ∀ (x1 x2 x3 : Int32) (s : CS) (ls : Array Slot), r_X8_ticks_b62 K20 F x1 x2 x3 s = some (r, s') → lv_has ls 7 [(0, .ref (b 0)), (1, .int x1), (2, .int x2), (3, .int x3)] → x_W p l e rm_X8_ticks S0 m args below meth c A D (mwld cI cZ b) 0 0 (x_Ri below args S0 A D (mwld cI cZ b) r s') s (F0 m 62 ls []) := by
  intro x1 x2 x3 s ls hf hl
  unfold r_X8_ticks_b62 at hf
  refine x_iinc (v := (x3 + (1 : Int32))) (lv' := [(3, .int (x3 + (1 : Int32))), (0, .ref (b 0)), (1, .int x1), (2, .int x2)]) X dX8_ticks_62 hl (j := 3) rfl rfl (by decide) rfl (fun ls hl => ?_)
  refine x_goto (tgt := 20) X dX8_ticks_65 rfl ?_
  exact hK20 x1 x2 (x3 + (1 : Int32)) s ls hf (lv_sub hl [1, 2, 3, 0] rfl)
set_option maxHeartbeats 4000000 in
set_option maxRecDepth 100000 in
theorem b_X8_ticks_52 {p : Program} {l : Launch} {e : Env} {S0 : State} {m : MethodId} {args : Array Value} {below : List Frame} {meth : Method} {c : Code} {A : Nat → Prop} {D : va_G} {cI cZ cJ : ClassId} {b : Nat → Nat} (X : x_X p S0 m args meth c cX8_ticks 7 (some .int) RX8 wsX8_ticks D (x_tys cI cZ cJ) A) (F : Nat) {r : Int32} {s' : CS} (K20 : Int32 → Int32 → Int32 → CS → Option (Int32 × CS)) (hK20 : ∀ (x1 x2 x3 : Int32) (s : CS) (ls : Array Slot), K20 x1 x2 x3 s = some (r, s') → lv_has ls 7 [(0, .ref (b 0)), (1, .int x1), (2, .int x2), (3, .int x3)] → x_W p l e rm_X8_ticks S0 m args below meth c A D (mwld cI cZ b) 0 0 (x_Ri below args S0 A D (mwld cI cZ b) r s') s (F0 m 20 ls [])) : ∀ (x1 x2 x3 : Int32) (s : CS) (ls : Array Slot), r_X8_ticks_b52 K20 F x1 x2 x3 s = some (r, s') → lv_has ls 7 [(0, .ref (b 0)), (1, .int x1), (2, .int x2), (3, .int x3)] → x_W p l e rm_X8_ticks S0 m args below meth c A D (mwld cI cZ b) 0 0 (x_Ri below args S0 A D (mwld cI cZ b) r s') s (F0 m 52 ls []) := by
  intro x1 x2 x3 s ls hf hl
  unfold r_X8_ticks_b52 at hf
  refine x_aload_n X dX8_ticks_52 rfl hl 0 rfl ?_
  refine x_iload_n X dX8_ticks_53 rfl hl 3 rfl ?_
  refine x_iconst X dX8_ticks_54 xk_iconst_5 ?_
  refine x_idiv X dX8_ticks_55 (by decide) ?_
  refine x_iload_n X dX8_ticks_56 rfl hl 3 rfl ?_
  refine x_iconst X dX8_ticks_57 xk_iconst_5 ?_
  refine x_irem X dX8_ticks_58 (by decide) ?_
  obtain ⟨v65, s64, c66, hf⟩ := x_ob_of hf
  refine x_cVv X 0 8 (mw_o _ _ _ _) rfl rfl (c_X8_chooses l D cI cZ cJ b F c66) (cwV 2 X.2.2.2.2.1 gX8_ticks_X8_chooses rfl rfl rfl (by decide +kernel) ⟨Nat.le_of_ble_eq_true rfl, Nat.le_of_ble_eq_true rfl⟩) rfl hl rfl (Nat.le_of_ble_eq_true rfl) ⟨Nat.zero_le _, Nat.zero_le _⟩ dX8_ticks_59 ?_
  exact b_X8_ticks_62 X F _ hK20 x1 x2 x3 s64 ls hf (lv_sub hl [0, 1, 2, 3] rfl)
set_option maxHeartbeats 4000000 in
set_option maxRecDepth 100000 in
theorem b_X8_ticks_20 {p : Program} {l : Launch} {e : Env} {S0 : State} {m : MethodId} {args : Array Value} {below : List Frame} {meth : Method} {c : Code} {A : Nat → Prop} {D : va_G} {cI cZ cJ : ClassId} {b : Nat → Nat} (X : x_X p S0 m args meth c cX8_ticks 7 (some .int) RX8 wsX8_ticks D (x_tys cI cZ cJ) A) (F : Nat) {r : Int32} {s' : CS}  : ∀ (n : Nat) (x1 x2 x3 : Int32) (s : CS) (ls : Array Slot), r_X8_ticks_b20 F n x1 x2 x3 s = some (r, s') → lv_has ls 7 [(0, .ref (b 0)), (1, .int x1), (2, .int x2), (3, .int x3)] → x_W p l e rm_X8_ticks S0 m args below meth c A D (mwld cI cZ b) 0 0 (x_Ri below args S0 A D (mwld cI cZ b) r s') s (F0 m 20 ls []) := by
  intro n
  induction n with
  | zero =>
    intro x1 x2 x3 s ls hf hl
    have hf : (none : Option (Int32 × CS)) = some (r, s') := hf
    cases hf
  | succ n ih =>
    intro x1 x2 x3 s ls hf hl
    rw [r_X8_ticks_b20_s] at hf
    refine x_iload_n X dX8_ticks_20 rfl hl 3 rfl ?_
    refine x_iload_n X dX8_ticks_21 rfl hl 2 rfl ?_
    refine x_icmp_ge (tgt := 68) X dX8_ticks_22 rfl (fun q5 => ?_) (fun q5 => ?_)
    · have hf := (if_pos q5).symm.trans hf
      refine x_iconst X dX8_ticks_68 xk_iconst_0 ?_
      refine x_istoreA_n (lv' := [(3, .int (0 : Int32)), (0, .ref (b 0)), (1, .int x1), (2, .int x2)]) X dX8_ticks_69 rfl hl (by decide) rfl (fun ls hl => ?_)
      exact b_X8_ticks_70 X F F x1 x2 (0 : Int32) s ls hf (lv_sub hl [1, 2, 3, 0] rfl)
    · have hf := (if_neg q5).symm.trans hf
      refine x_aload_n X dX8_ticks_25 rfl hl 0 rfl ?_
      refine x_getf X in_X8_ticks_X8 (mw_o _ _ _ _) rfl 22 (by decide) lk_X8_ticks_66 rfl rfl dX8_ticks_26 ?_
      refine x_iload_n X dX8_ticks_29 rfl hl 3 rfl ?_
      refine x_iconst X dX8_ticks_30 xk_iconst_m1 ?_
      obtain ⟨g61, hf⟩ := x_og_of hf
      refine x_iast X (1 + 15) 0 (mw_r15 _ _ _ _) rfl (x_in_of g61) (mw_a15 _ _ _ _ _ _) dX8_ticks_31 (fun s62 es62 => ?_)
      have hf := x_os_of es62 hf
      refine x_iload_n X dX8_ticks_32 rfl hl 3 rfl ?_
      refine x_iconst X dX8_ticks_33 xk_iconst_5 ?_
      refine x_irem X dX8_ticks_34 (by decide) ?_
      refine x_iconst X dX8_ticks_35 xk_iconst_4 ?_
      refine x_icmp_eq (tgt := 52) X dX8_ticks_36 rfl (fun q63 => ?_) (fun q63 => ?_)
      · have hf := (if_pos q63).symm.trans hf
        exact b_X8_ticks_52 X F _ ih x1 x2 x3 s62 ls hf (lv_sub hl [0, 1, 2, 3] rfl)
      · have hf := (if_neg q63).symm.trans hf
        refine x_aload_n X dX8_ticks_39 rfl hl 0 rfl ?_
        refine x_iload_n X dX8_ticks_40 rfl hl 3 rfl ?_
        refine x_iconst X dX8_ticks_41 xk_iconst_5 ?_
        refine x_idiv X dX8_ticks_42 (by decide) ?_
        refine x_iload_n X dX8_ticks_43 rfl hl 3 rfl ?_
        refine x_iconst X dX8_ticks_44 xk_iconst_5 ?_
        refine x_irem X dX8_ticks_45 (by decide) ?_
        obtain ⟨v68, s67, c69, hf⟩ := x_ob_of hf
        refine x_cVi X 0 8 (mw_o _ _ _ _) rfl rfl (c_X8_neighbour l D cI cZ cJ b F c69) (cwV 2 X.2.2.2.2.1 gX8_ticks_X8_neighbour rfl rfl rfl (by decide +kernel) ⟨Nat.le_of_ble_eq_true rfl, Nat.le_of_ble_eq_true rfl⟩) rfl hl rfl (Nat.le_of_ble_eq_true rfl) ⟨Nat.zero_le _, Nat.zero_le _⟩ dX8_ticks_46 ?_
        refine x_if_lt (tgt := 62) X dX8_ticks_49 rfl (fun q70 => ?_) (fun q70 => ?_)
        · have hf := (if_pos q70).symm.trans hf
          exact b_X8_ticks_62 X F _ ih x1 x2 x3 s67 ls hf (lv_sub hl [0, 1, 2, 3] rfl)
        · have hf := (if_neg q70).symm.trans hf
          exact b_X8_ticks_52 X F _ ih x1 x2 x3 s67 ls hf (lv_sub hl [0, 1, 2, 3] rfl)
set_option maxHeartbeats 4000000 in
set_option maxRecDepth 100000 in
theorem c_X8_ticks (l : Launch) (D : va_G) (cI cZ cJ : ClassId) (b : Nat → Nat) (F : Nat) {s s' : CS} {r : Int32} (hf : r_X8_ticks F s = some (r, s')) : x_Mi l yX8_ticks wsX8_ticks rm_X8_ticks D (x_tys cI cZ cJ) (mwld cI cZ b) [.ref (b 0)] s r s' := by
  refine x_enteri (cc := cX8_ticks) (nL := 7) (ty := .int) (own := RX8) (by decide) rfl rfl (Nat.le_of_ble_eq_true rfl) ?_
  intro p e S0 m args below meth c A X ls hl
  have hl : lv_has ls 7 [(0, .ref (b 0))] := hl
  unfold r_X8_ticks at hf
  refine x_iconst X dX8_ticks_0 xk_iconst_0 ?_
  refine x_istoreA_n (lv' := [(1, .int (0 : Int32)), (0, .ref (b 0))]) X dX8_ticks_1 rfl hl (by decide) rfl (fun ls hl => ?_)
  refine x_aload_n X dX8_ticks_2 rfl hl 1 rfl ?_
  obtain ⟨v2, s1, c3, hf⟩ := x_ob_of hf
  refine x_cVv X 0 8 (mw_o _ _ _ _) rfl rfl (c_X8_comeBack l D cI cZ cJ b F c3) (cwV 0 X.2.2.2.2.1 gX8_ticks_X8_comeBack rfl rfl rfl (by decide +kernel) ⟨Nat.le_of_ble_eq_true rfl, Nat.le_of_ble_eq_true rfl⟩) rfl hl rfl (Nat.le_of_ble_eq_true rfl) ⟨Nat.zero_le _, Nat.zero_le _⟩ dX8_ticks_3 ?_
  refine x_aload_n X dX8_ticks_6 rfl hl 1 rfl ?_
  refine x_getf X in_X8_ticks_X8 (mw_o _ _ _ _) rfl 0 (by decide) lk_X8_ticks_7 rfl rfl dX8_ticks_7 ?_
  refine x_aload_n X dX8_ticks_10 rfl hl 1 rfl ?_
  refine x_getf X in_X8_ticks_X8 (mw_o _ _ _ _) rfl 1 (by decide) lk_X8_ticks_13 rfl rfl dX8_ticks_11 ?_
  refine x_imul X dX8_ticks_14 ?_
  refine x_iconst X dX8_ticks_15 xk_iconst_5 ?_
  refine x_imul X dX8_ticks_16 ?_
  refine x_istore_n (lv' := [(1, .int (0 : Int32)), (0, .ref (b 0))]) X dX8_ticks_17 rfl hl (by decide) (fun _ => rfl) (fun x2_4 ls ex2_4 hl => ?_)
  have hf := x_oi_of ex2_4 hf
  refine x_iconst X dX8_ticks_18 xk_iconst_0 ?_
  refine x_istoreA_n (lv' := [(3, .int (0 : Int32)), (2, .int x2_4), (1, .int (0 : Int32)), (0, .ref (b 0))]) X dX8_ticks_19 rfl hl (by decide) rfl (fun ls hl => ?_)
  exact b_X8_ticks_20 X F F (0 : Int32) x2_4 (0 : Int32) s1 ls hf (lv_sub hl [3, 2, 1, 0] rfl)
def rm_X8_run : Room := { frames := 4, cells := 0, slots := 0, locals := 101 }
theorem in_X8_run_X8 : ∀ w ∈ wsX80, w ∈ wsX8_run := by decide +kernel
theorem lk_X8_run_103 : Cond.fieldLink RX8 103 "CreditfabricModel" "out" "I" ∈ wsX8_run := by decide +kernel
set_option maxHeartbeats 4000000 in
set_option maxRecDepth 100000 in
theorem b_X8_run_22 {p : Program} {l : Launch} {e : Env} {S0 : State} {m : MethodId} {args : Array Value} {below : List Frame} {meth : Method} {c : Code} {A : Nat → Prop} {D : va_G} {cI cZ cJ : ClassId} {b : Nat → Nat} (X : x_X p S0 m args meth c cX8_run 4 (some .int) RX8 wsX8_run D (x_tys cI cZ cJ) A) (F : Nat) {r : Int32} {s' : CS}  : ∀ (n : Nat) (x1 x2 x3 : Int32) (s : CS) (ls : Array Slot), r_X8_run_b22 F n x1 x2 x3 s = some (r, s') → lv_has ls 4 [(0, .ref (b 0)), (1, .int x1), (2, .int x2), (3, .int x3)] → x_W p l e rm_X8_run S0 m args below meth c A D (mwld cI cZ b) 0 0 (x_Ri below args S0 A D (mwld cI cZ b) r s') s (F0 m 22 ls []) := by
  intro n
  induction n with
  | zero =>
    intro x1 x2 x3 s ls hf hl
    have hf : (none : Option (Int32 × CS)) = some (r, s') := hf
    cases hf
  | succ n ih =>
    intro x1 x2 x3 s ls hf hl
    rw [r_X8_run_b22_s] at hf
    refine x_iload_n X dX8_run_22 rfl hl 3 rfl ?_
    refine x_iload_n X dX8_run_23 rfl hl 1 rfl ?_
    refine x_icmp_ge (tgt := 40) X dX8_run_24 rfl (fun q8 => ?_) (fun q8 => ?_)
    · have hf := (if_pos q8).symm.trans hf
      refine x_aload_n X dX8_run_40 rfl hl 0 rfl ?_
      refine x_dup X dX8_run_41 rfl ?_
      refine x_getf X in_X8_run_X8 (mw_o _ _ _ _) rfl 6 (by decide) lk_X8_run_103 rfl rfl dX8_run_42 ?_
      refine x_iload_n X dX8_run_45 rfl hl 2 rfl ?_
      refine x_iadd X dX8_run_46 ?_
      refine x_puti X in_X8_run_X8 (mw_o _ _ _ _) rfl 6 (by decide) tyX8 tyX8_ok nmX8 lk_X8_run_103 rfl rfl (by decide +kernel) (Nat.le_of_ble_eq_true rfl) (mw_s6 _ _ _ _ _) dX8_run_47 (fun s9 es9 => ?_)
      have hf := x_os_of es9 hf
      refine x_iload_n X dX8_run_50 rfl hl 2 rfl ?_
      exact x_iret X rfl rfl hf dX8_run_51
    · have hf := (if_neg q8).symm.trans hf
      refine x_iload_n X dX8_run_27 rfl hl 2 rfl ?_
      refine x_aload_n X dX8_run_28 rfl hl 0 rfl ?_
      obtain ⟨v11, s10, c12, hf⟩ := x_ob_of hf
      refine x_cVi X 0 8 (mw_o _ _ _ _) rfl rfl (c_X8_ticks l D cI cZ cJ b F c12) (cwV 0 X.2.2.2.2.1 gX8_run_X8_ticks rfl rfl rfl (by decide +kernel) ⟨Nat.le_of_ble_eq_true rfl, Nat.le_of_ble_eq_true rfl⟩) rfl hl rfl (Nat.le_of_ble_eq_true rfl) ⟨Nat.zero_le _, Nat.zero_le _⟩ dX8_run_29 ?_
      refine x_iadd X dX8_run_32 ?_
      refine x_istore_n (lv' := [(0, .ref (b 0)), (1, .int x1), (3, .int x3)]) X dX8_run_33 rfl hl (by decide) (fun _ => rfl) (fun x2_13 ls ex2_13 hl => ?_)
      have hf := x_oi_of ex2_13 hf
      refine x_iinc (v := (x3 + (1 : Int32))) (lv' := [(3, .int (x3 + (1 : Int32))), (2, .int x2_13), (0, .ref (b 0)), (1, .int x1)]) X dX8_run_34 hl (j := 3) rfl rfl (by decide) rfl (fun ls hl => ?_)
      refine x_goto (tgt := 22) X dX8_run_37 rfl ?_
      exact ih x1 x2_13 (x3 + (1 : Int32)) s10 ls hf (lv_sub hl [2, 3, 1, 0] rfl)
set_option maxHeartbeats 4000000 in
set_option maxRecDepth 100000 in
theorem c_X8_run (l : Launch) (D : va_G) (cI cZ cJ : ClassId) (b : Nat → Nat) (F : Nat) {s s' : CS} {r : Int32} {x1 : Int32} (hf : r_X8_run F x1 s = some (r, s')) : x_Mi l yX8_run wsX8_run rm_X8_run D (x_tys cI cZ cJ) (mwld cI cZ b) [.ref (b 0), .int x1] s r s' := by
  refine x_enteri (cc := cX8_run) (nL := 4) (ty := .int) (own := RX8) (by decide) rfl rfl (Nat.le_of_ble_eq_true rfl) ?_
  intro p e S0 m args below meth c A X ls hl
  have hl : lv_has ls 4 [(0, .ref (b 0)), (1, .int x1)] := hl
  unfold r_X8_run at hf
  refine x_aload_n X dX8_run_0 rfl hl 0 rfl ?_
  refine x_iload_n X dX8_run_1 rfl hl 1 rfl ?_
  refine x_iconst X dX8_run_2 xk_iconst_1 ?_
  refine x_bipush X dX8_run_3 xk_bipush_50 ?_
  obtain ⟨v2, s1, c3, hf⟩ := x_ob_of hf
  refine x_cSi X (c_X8_isWithin l D cI cZ cJ b F c3) (va_cwS 3 X.2.2.2.2.1 gX8_run_X8_isWithin rfl rfl rfl (by decide +kernel) ⟨Nat.le_of_ble_eq_true rfl, Nat.le_of_ble_eq_true rfl⟩) rfl hl rfl (Nat.le_of_ble_eq_true rfl) ⟨Nat.zero_le _, Nat.zero_le _⟩ dX8_run_5 ?_
  refine x_iconst X dX8_run_8 xk_iconst_1 ?_
  refine x_iconst X dX8_run_9 xk_iconst_1 ?_
  obtain ⟨v5, s4, c6, hf⟩ := x_ob_of hf
  refine x_cVi X 0 8 (mw_o _ _ _ _) rfl rfl (c_X8_goes l D cI cZ cJ b F c6) (cwV 3 X.2.2.2.2.1 gX8_run_X8_goes rfl rfl rfl (by decide +kernel) ⟨Nat.le_of_ble_eq_true rfl, Nat.le_of_ble_eq_true rfl⟩) rfl hl rfl (Nat.le_of_ble_eq_true rfl) ⟨Nat.zero_le _, Nat.zero_le _⟩ dX8_run_10 ?_
  refine x_if_ne (tgt := 18) X dX8_run_13 rfl (fun q7 => ?_) (fun q7 => ?_)
  · have hf := (if_neg q7).symm.trans hf
    refine x_iconst X dX8_run_18 xk_iconst_0 ?_
    refine x_istoreA_n (lv' := [(2, .int (0 : Int32)), (0, .ref (b 0)), (1, .int x1)]) X dX8_run_19 rfl hl (by decide) rfl (fun ls hl => ?_)
    refine x_iconst X dX8_run_20 xk_iconst_0 ?_
    refine x_istoreA_n (lv' := [(3, .int (0 : Int32)), (2, .int (0 : Int32)), (0, .ref (b 0)), (1, .int x1)]) X dX8_run_21 rfl hl (by decide) rfl (fun ls hl => ?_)
    exact b_X8_run_22 X F F x1 (0 : Int32) (0 : Int32) s4 ls hf (lv_sub hl [2, 3, 1, 0] rfl)
  · have hf := (if_pos q7).symm.trans hf
    refine x_iconst X dX8_run_16 xk_iconst_0 ?_
    exact x_iret X rfl rfl hf dX8_run_17
def rm_X8_pause : Room := { frames := 1, cells := 0, slots := 0, locals := 23 }
theorem in_X8_pause_X8 : ∀ w ∈ wsX80, w ∈ wsX8_pause := by decide +kernel
theorem lk_X8_pause_41 : Cond.fieldLink RX8 41 "CreditfabricModel" "isPaused" "[Z" ∈ wsX8_pause := by decide +kernel
set_option maxHeartbeats 4000000 in
set_option maxRecDepth 100000 in
theorem c_X8_pause (l : Launch) (D : va_G) (cI cZ cJ : ClassId) (b : Nat → Nat) (F : Nat) {s s' : CS} {r : Int32} {x1 x2 : Int32} (hf : r_X8_pause F x1 x2 s = some (r, s')) : x_Mi l yX8_pause wsX8_pause rm_X8_pause D (x_tys cI cZ cJ) (mwld cI cZ b) [.ref (b 0), .int x1, .int x2] s r s' := by
  refine x_enteri (cc := cX8_pause) (nL := 4) (ty := .boolean) (own := RX8) (by decide) rfl rfl (Nat.le_of_ble_eq_true rfl) ?_
  intro p e S0 m args below meth c A X ls hl
  have hl : lv_has ls 4 [(0, .ref (b 0)), (1, .int x1), (2, .int x2)] := hl
  unfold r_X8_pause at hf
  refine x_aload_n X dX8_pause_0 rfl hl 0 rfl ?_
  refine x_aload_n X dX8_pause_1 rfl hl 0 rfl ?_
  refine x_iload_n X dX8_pause_2 rfl hl 1 rfl ?_
  obtain ⟨v2, s1, c3, hf⟩ := x_ob_of hf
  refine x_cVi X 0 8 (mw_o _ _ _ _) rfl rfl (c_X8_isSwitch l D cI cZ cJ b F c3) (cwV 1 X.2.2.2.2.1 gX8_pause_X8_isSwitch rfl rfl rfl (by decide +kernel) ⟨Nat.le_of_ble_eq_true rfl, Nat.le_of_ble_eq_true rfl⟩) rfl hl rfl (Nat.le_of_ble_eq_true rfl) ⟨Nat.zero_le _, Nat.zero_le _⟩ dX8_pause_3 ?_
  refine x_iconst X dX8_pause_6 xk_iconst_1 ?_
  refine x_iconst X dX8_pause_7 xk_iconst_1 ?_
  obtain ⟨v5, s4, c6, hf⟩ := x_ob_of hf
  refine x_cVi X 0 8 (mw_o _ _ _ _) rfl rfl (c_X8_goes l D cI cZ cJ b F c6) (cwV 3 X.2.2.2.2.1 gX8_pause_X8_goes rfl rfl rfl (by decide +kernel) ⟨Nat.le_of_ble_eq_true rfl, Nat.le_of_ble_eq_true rfl⟩) rfl hl rfl (Nat.le_of_ble_eq_true rfl) ⟨Nat.zero_le _, Nat.zero_le _⟩ dX8_pause_8 ?_
  refine x_if_ne (tgt := 16) X dX8_pause_11 rfl (fun q7 => ?_) (fun q7 => ?_)
  · have hf := (if_neg q7).symm.trans hf
    refine x_aload_n X dX8_pause_16 rfl hl 0 rfl ?_
    refine x_getf X in_X8_pause_X8 (mw_o _ _ _ _) rfl 14 (by decide) lk_X8_pause_41 rfl rfl dX8_pause_17 ?_
    refine x_iload_n X dX8_pause_20 rfl hl 1 rfl ?_
    obtain ⟨g8, hf⟩ := x_og_of hf
    refine x_zald X (1 + 7) 1 (mw_r7 _ _ _ _) rfl (x_in_of g8) dX8_pause_21 ?_
    refine x_istore_n (lv' := [(0, .ref (b 0)), (1, .int x1), (2, .int x2)]) X dX8_pause_22 rfl hl (by decide) (fun _ => rfl) (fun x3_9 ls ex3_9 hl => ?_)
    have hf := x_oi_of ex3_9 hf
    refine x_aload_n X dX8_pause_23 rfl hl 1 rfl ?_
    refine x_getf X in_X8_pause_X8 (mw_o _ _ _ _) rfl 14 (by decide) lk_X8_pause_41 rfl rfl dX8_pause_24 ?_
    refine x_iload_n X dX8_pause_27 rfl hl 2 rfl ?_
    refine x_iload_n X dX8_pause_28 rfl hl 3 rfl ?_
    obtain ⟨g10, hf⟩ := x_og_of hf
    refine x_zast X (1 + 7) 1 (mw_r7 _ _ _ _) rfl (x_in_of g10) (mw_a7 _ _ _ _ _ _) dX8_pause_29 (fun s11 es11 => ?_)
    have hf := x_os_of es11 hf
    refine x_iload_n X dX8_pause_30 rfl hl 0 rfl ?_
    obtain ⟨g12, hf⟩ := x_og_of hf
    exact x_iret X rfl (x_bo_of g12) hf dX8_pause_31
  · have hf := (if_pos q7).symm.trans hf
    refine x_iconst X dX8_pause_14 xk_iconst_0 ?_
    exact x_iret X rfl rfl hf dX8_pause_15
def rm_X8_lose : Room := { frames := 2, cells := 0, slots := 0, locals := 47 }
theorem in_X8_lose_X8 : ∀ w ∈ wsX80, w ∈ wsX8_lose := by decide +kernel
theorem lk_X8_lose_26 : Cond.fieldLink RX8 26 "CreditfabricModel" "credit" "[I" ∈ wsX8_lose := by decide +kernel
set_option maxHeartbeats 4000000 in
set_option maxRecDepth 100000 in
theorem b_X8_lose_50 {p : Program} {l : Launch} {e : Env} {S0 : State} {m : MethodId} {args : Array Value} {below : List Frame} {meth : Method} {c : Code} {A : Nat → Prop} {D : va_G} {cI cZ cJ : ClassId} {b : Nat → Nat} (X : x_X p S0 m args meth c cX8_lose 6 (some .int) RX8 wsX8_lose D (x_tys cI cZ cJ) A) (F : Nat) {r : Int32} {s' : CS}  : ∀ (x1 x2 x3 t0 t1 t2 : Int32) (s : CS) (ls : Array Slot), r_X8_lose_b50 F x1 x2 x3 t0 t1 t2 s = some (r, s') → lv_has ls 6 [(0, .ref (b 0)), (1, .int x1), (2, .int x2), (3, .int x3)] → x_W p l e rm_X8_lose S0 m args below meth c A D (mwld cI cZ b) 0 0 (x_Ri below args S0 A D (mwld cI cZ b) r s') s (F0 m 50 ls [.int t0, .int t1, .int t2, .ref (b 0)]) := by
  intro x1 x2 x3 t0 t1 t2 s ls hf hl
  unfold r_X8_lose_b50 at hf
  obtain ⟨v9, s8, c10, hf⟩ := x_ob_of hf
  refine x_cVi X 0 8 (mw_o _ _ _ _) rfl rfl (c_X8_goes l D cI cZ cJ b F c10) (cwV 3 X.2.2.2.2.1 gX8_lose_X8_goes rfl rfl rfl (by decide +kernel) ⟨Nat.le_of_ble_eq_true rfl, Nat.le_of_ble_eq_true rfl⟩) rfl hl rfl (Nat.le_of_ble_eq_true rfl) ⟨Nat.zero_le _, Nat.zero_le _⟩ dX8_lose_50 ?_
  refine x_if_ne (tgt := 58) X dX8_lose_53 rfl (fun q11 => ?_) (fun q11 => ?_)
  · have hf := (if_neg q11).symm.trans hf
    refine x_aload_n X dX8_lose_58 rfl hl 0 rfl ?_
    refine x_getf X in_X8_lose_X8 (mw_o _ _ _ _) rfl 9 (by decide) lk_X8_lose_26 rfl rfl dX8_lose_59 ?_
    refine x_iload_n X dX8_lose_62 rfl hl 1 rfl ?_
    refine x_iload_n X dX8_lose_63 rfl hl 2 rfl ?_
    refine x_iload_n X dX8_lose_64 rfl hl 3 rfl ?_
    obtain ⟨v13, s12, c14, hf⟩ := x_ob_of hf
    refine x_cSi X (c_X8_linkOf l D cI cZ cJ b F c14) (va_cwS 3 X.2.2.2.2.1 gX8_lose_X8_linkOf rfl rfl rfl (by decide +kernel) ⟨Nat.le_of_ble_eq_true rfl, Nat.le_of_ble_eq_true rfl⟩) rfl hl rfl (Nat.le_of_ble_eq_true rfl) ⟨Nat.zero_le _, Nat.zero_le _⟩ dX8_lose_65 ?_
    refine x_dup2 X dX8_lose_68 rfl rfl ?_
    obtain ⟨g15, hf⟩ := x_og_of hf
    refine x_iald X (1 + 2) 0 (mw_r2 _ _ _ _) rfl (x_in_of g15) dX8_lose_69 ?_
    refine x_iconst X dX8_lose_70 xk_iconst_1 ?_
    refine x_isub X dX8_lose_71 ?_
    obtain ⟨g16, hf⟩ := x_og_of hf
    refine x_iast X (1 + 2) 0 (mw_r2 _ _ _ _) rfl (x_in_of g16) (mw_a2 _ _ _ _ _ _) dX8_lose_72 (fun s17 es17 => ?_)
    have hf := x_os_of es17 hf
    refine x_aload_n X dX8_lose_73 rfl hl 0 rfl ?_
    refine x_getf X in_X8_lose_X8 (mw_o _ _ _ _) rfl 9 (by decide) lk_X8_lose_26 rfl rfl dX8_lose_74 ?_
    refine x_iload_n X dX8_lose_77 rfl hl 1 rfl ?_
    refine x_iload_n X dX8_lose_78 rfl hl 2 rfl ?_
    refine x_iload_n X dX8_lose_79 rfl hl 3 rfl ?_
    obtain ⟨v19, s18, c20, hf⟩ := x_ob_of hf
    refine x_cSi X (c_X8_linkOf l D cI cZ cJ b F c20) (va_cwS 3 X.2.2.2.2.1 gX8_lose_X8_linkOf rfl rfl rfl (by decide +kernel) ⟨Nat.le_of_ble_eq_true rfl, Nat.le_of_ble_eq_true rfl⟩) rfl hl rfl (Nat.le_of_ble_eq_true rfl) ⟨Nat.zero_le _, Nat.zero_le _⟩ dX8_lose_80 ?_
    obtain ⟨g21, hf⟩ := x_og_of hf
    refine x_iald X (1 + 2) 0 (mw_r2 _ _ _ _) rfl (x_in_of g21) dX8_lose_83 ?_
    exact x_iret X rfl rfl hf dX8_lose_84
  · have hf := (if_pos q11).symm.trans hf
    refine x_iconst X dX8_lose_56 xk_iconst_0 ?_
    exact x_iret X rfl rfl hf dX8_lose_57
set_option maxHeartbeats 4000000 in
set_option maxRecDepth 100000 in
theorem b_X8_lose_49 {p : Program} {l : Launch} {e : Env} {S0 : State} {m : MethodId} {args : Array Value} {below : List Frame} {meth : Method} {c : Code} {A : Nat → Prop} {D : va_G} {cI cZ cJ : ClassId} {b : Nat → Nat} (X : x_X p S0 m args meth c cX8_lose 6 (some .int) RX8 wsX8_lose D (x_tys cI cZ cJ) A) (F : Nat) {r : Int32} {s' : CS}  : ∀ (x1 x2 x3 t0 t1 : Int32) (s : CS) (ls : Array Slot), r_X8_lose_b49 F x1 x2 x3 t0 t1 s = some (r, s') → lv_has ls 6 [(0, .ref (b 0)), (1, .int x1), (2, .int x2), (3, .int x3)] → x_W p l e rm_X8_lose S0 m args below meth c A D (mwld cI cZ b) 0 0 (x_Ri below args S0 A D (mwld cI cZ b) r s') s (F0 m 49 ls [.int t0, .int t1, .ref (b 0)]) := by
  intro x1 x2 x3 t0 t1 s ls hf hl
  unfold r_X8_lose_b49 at hf
  refine x_iconst X dX8_lose_49 xk_iconst_0 ?_
  exact b_X8_lose_50 X F x1 x2 x3 (0 : Int32) t0 t1 s ls hf (lv_sub hl [0, 1, 2, 3] rfl)
set_option maxHeartbeats 4000000 in
set_option maxRecDepth 100000 in
theorem c_X8_lose (l : Launch) (D : va_G) (cI cZ cJ : ClassId) (b : Nat → Nat) (F : Nat) {s s' : CS} {r : Int32} {x1 x2 x3 : Int32} (hf : r_X8_lose F x1 x2 x3 s = some (r, s')) : x_Mi l yX8_lose wsX8_lose rm_X8_lose D (x_tys cI cZ cJ) (mwld cI cZ b) [.ref (b 0), .int x1, .int x2, .int x3] s r s' := by
  refine x_enteri (cc := cX8_lose) (nL := 6) (ty := .int) (own := RX8) (by decide) rfl rfl (Nat.le_of_ble_eq_true rfl) ?_
  intro p e S0 m args below meth c A X ls hl
  have hl : lv_has ls 6 [(0, .ref (b 0)), (1, .int x1), (2, .int x2), (3, .int x3)] := hl
  unfold r_X8_lose at hf
  refine x_aload_n X dX8_lose_0 rfl hl 0 rfl ?_
  refine x_iload_n X dX8_lose_1 rfl hl 1 rfl ?_
  refine x_iload_n X dX8_lose_2 rfl hl 2 rfl ?_
  obtain ⟨v2, s1, c3, hf⟩ := x_ob_of hf
  refine x_cVi X 0 8 (mw_o _ _ _ _) rfl rfl (c_X8_isLink l D cI cZ cJ b F c3) (cwV 2 X.2.2.2.2.1 gX8_lose_X8_isLink rfl rfl rfl (by decide +kernel) ⟨Nat.le_of_ble_eq_true rfl, Nat.le_of_ble_eq_true rfl⟩) rfl hl rfl (Nat.le_of_ble_eq_true rfl) ⟨Nat.zero_le _, Nat.zero_le _⟩ dX8_lose_3 ?_
  refine x_istoreA (lv' := [(4, .int v2), (0, .ref (b 0)), (1, .int x1), (2, .int x2), (3, .int x3)]) X dX8_lose_6 hl (by decide) rfl (fun ls hl => ?_)
  refine x_iload_n X dX8_lose_8 rfl hl 4 rfl ?_
  refine x_iconst X dX8_lose_9 xk_iconst_0 ?_
  refine x_iconst X dX8_lose_10 xk_iconst_1 ?_
  obtain ⟨v5, s4, c6, hf⟩ := x_ob_of hf
  refine x_cSi X (c_X8_isWithin l D cI cZ cJ b F c6) (va_cwS 3 X.2.2.2.2.1 gX8_lose_X8_isWithin rfl rfl rfl (by decide +kernel) ⟨Nat.le_of_ble_eq_true rfl, Nat.le_of_ble_eq_true rfl⟩) rfl hl rfl (Nat.le_of_ble_eq_true rfl) ⟨Nat.zero_le _, Nat.zero_le _⟩ dX8_lose_11 ?_
  refine x_istoreA (lv' := [(5, .int v5), (4, .int v2), (0, .ref (b 0)), (1, .int x1), (2, .int x2), (3, .int x3)]) X dX8_lose_14 hl (by decide) rfl (fun ls hl => ?_)
  refine x_aload_n X dX8_lose_16 rfl hl 2 rfl ?_
  refine x_iload X dX8_lose_17 hl 1 rfl ?_
  refine x_iload X dX8_lose_19 hl 0 rfl ?_
  refine x_iload X dX8_lose_21 hl 1 rfl ?_
  refine x_if_eq (tgt := 49) X dX8_lose_23 rfl (fun q7 => ?_) (fun q7 => ?_)
  · have hf := (if_pos q7).symm.trans hf
    exact b_X8_lose_49 X F x1 x2 x3 v5 v2 s4 ls hf (lv_sub hl [2, 3, 4, 5] rfl)
  · have hf := (if_neg q7).symm.trans hf
    refine x_iload X dX8_lose_26 hl 0 rfl ?_
    refine x_if_eq (tgt := 49) X dX8_lose_28 rfl (fun q22 => ?_) (fun q22 => ?_)
    · have hf := (if_pos q22).symm.trans hf
      exact b_X8_lose_49 X F x1 x2 x3 v5 v2 s4 ls hf (lv_sub hl [2, 3, 4, 5] rfl)
    · have hf := (if_neg q22).symm.trans hf
      refine x_aload_n X dX8_lose_31 rfl hl 2 rfl ?_
      refine x_getf X in_X8_lose_X8 (mw_o _ _ _ _) rfl 9 (by decide) lk_X8_lose_26 rfl rfl dX8_lose_32 ?_
      refine x_iload_n X dX8_lose_35 rfl hl 3 rfl ?_
      refine x_iload_n X dX8_lose_36 rfl hl 4 rfl ?_
      refine x_iload_n X dX8_lose_37 rfl hl 5 rfl ?_
      obtain ⟨v24, s23, c25, hf⟩ := x_ob_of hf
      refine x_cSi X (c_X8_linkOf l D cI cZ cJ b F c25) (va_cwS 3 X.2.2.2.2.1 gX8_lose_X8_linkOf rfl rfl rfl (by decide +kernel) ⟨Nat.le_of_ble_eq_true rfl, Nat.le_of_ble_eq_true rfl⟩) rfl hl rfl (Nat.le_of_ble_eq_true rfl) ⟨Nat.zero_le _, Nat.zero_le _⟩ dX8_lose_38 ?_
      obtain ⟨g26, hf⟩ := x_og_of hf
      refine x_iald X (1 + 2) 0 (mw_r2 _ _ _ _) rfl (x_in_of g26) dX8_lose_41 ?_
      refine x_if_le (tgt := 49) X dX8_lose_42 rfl (fun q27 => ?_) (fun q27 => ?_)
      · have hf := (if_pos q27).symm.trans hf
        exact b_X8_lose_49 X F x1 x2 x3 v5 v2 s23 ls hf (lv_sub hl [2, 3, 4, 5] rfl)
      · have hf := (if_neg q27).symm.trans hf
        refine x_iconst X dX8_lose_45 xk_iconst_1 ?_
        refine x_goto (tgt := 50) X dX8_lose_46 rfl ?_
        exact b_X8_lose_50 X F x1 x2 x3 (1 : Int32) v5 v2 s23 ls hf (lv_sub hl [2, 3, 4, 5] rfl)
def rm_X8_recover : Room := { frames := 1, cells := 0, slots := 0, locals := 25 }
theorem in_X8_recover_X8 : ∀ w ∈ wsX80, w ∈ wsX8_recover := by decide +kernel
theorem lk_X8_recover_7 : Cond.fieldLink RX8 7 "CreditfabricModel" "columns" "I" ∈ wsX8_recover := by decide +kernel
theorem lk_X8_recover_13 : Cond.fieldLink RX8 13 "CreditfabricModel" "rows" "I" ∈ wsX8_recover := by decide +kernel
theorem lk_X8_recover_16 : Cond.fieldLink RX8 16 "CreditfabricModel" "room" "I" ∈ wsX8_recover := by decide +kernel
theorem lk_X8_recover_23 : Cond.fieldLink RX8 23 "CreditfabricModel" "many" "[I" ∈ wsX8_recover := by decide +kernel
theorem lk_X8_recover_26 : Cond.fieldLink RX8 26 "CreditfabricModel" "credit" "[I" ∈ wsX8_recover := by decide +kernel
theorem lk_X8_recover_29 : Cond.fieldLink RX8 29 "CreditfabricModel" "coming" "[I" ∈ wsX8_recover := by decide +kernel
theorem lk_X8_recover_79 : Cond.fieldLink RX8 79 "CreditfabricModel" "thrown" "I" ∈ wsX8_recover := by decide +kernel
set_option maxHeartbeats 4000000 in
set_option maxRecDepth 100000 in
theorem b_X8_recover_127 {p : Program} {l : Launch} {e : Env} {S0 : State} {m : MethodId} {args : Array Value} {below : List Frame} {meth : Method} {c : Code} {A : Nat → Prop} {D : va_G} {cI cZ cJ : ClassId} {b : Nat → Nat} (X : x_X p S0 m args meth c cX8_recover 7 (some .int) RX8 wsX8_recover D (x_tys cI cZ cJ) A) (F : Nat) {r : Int32} {s' : CS} (K9 : Int32 → Int32 → CS → Option (Int32 × CS)) (hK9 : ∀ (x1 x2 : Int32) (s : CS) (ls : Array Slot), K9 x1 x2 s = some (r, s') → lv_has ls 7 [(0, .ref (b 0)), (1, .int x1), (2, .int x2)] → x_W p l e rm_X8_recover S0 m args below meth c A D (mwld cI cZ b) 0 0 (x_Ri below args S0 A D (mwld cI cZ b) r s') s (F0 m 9 ls [])) : ∀ (x1 x2 : Int32) (s : CS) (ls : Array Slot), r_X8_recover_b127 K9 F x1 x2 s = some (r, s') → lv_has ls 7 [(0, .ref (b 0)), (1, .int x1), (2, .int x2)] → x_W p l e rm_X8_recover S0 m args below meth c A D (mwld cI cZ b) 0 0 (x_Ri below args S0 A D (mwld cI cZ b) r s') s (F0 m 127 ls []) := by
  intro x1 x2 s ls hf hl
  unfold r_X8_recover_b127 at hf
  refine x_iinc (v := (x2 + (1 : Int32))) (lv' := [(2, .int (x2 + (1 : Int32))), (0, .ref (b 0)), (1, .int x1)]) X dX8_recover_127 hl (j := 2) rfl rfl (by decide) rfl (fun ls hl => ?_)
  refine x_goto (tgt := 9) X dX8_recover_130 rfl ?_
  exact hK9 x1 (x2 + (1 : Int32)) s ls hf (lv_sub hl [1, 2, 0] rfl)
set_option maxHeartbeats 4000000 in
set_option maxRecDepth 100000 in
theorem b_X8_recover_79 {p : Program} {l : Launch} {e : Env} {S0 : State} {m : MethodId} {args : Array Value} {below : List Frame} {meth : Method} {c : Code} {A : Nat → Prop} {D : va_G} {cI cZ cJ : ClassId} {b : Nat → Nat} (X : x_X p S0 m args meth c cX8_recover 7 (some .int) RX8 wsX8_recover D (x_tys cI cZ cJ) A) (F : Nat) {r : Int32} {s' : CS} (K9 : Int32 → Int32 → CS → Option (Int32 × CS)) (hK9 : ∀ (x1 x2 : Int32) (s : CS) (ls : Array Slot), K9 x1 x2 s = some (r, s') → lv_has ls 7 [(0, .ref (b 0)), (1, .int x1), (2, .int x2)] → x_W p l e rm_X8_recover S0 m args below meth c A D (mwld cI cZ b) 0 0 (x_Ri below args S0 A D (mwld cI cZ b) r s') s (F0 m 9 ls [])) : ∀ (n : Nat) (x1 x2 x5 x6 : Int32) (s : CS) (ls : Array Slot), r_X8_recover_b79 K9 F n x1 x2 x5 x6 s = some (r, s') → lv_has ls 7 [(0, .ref (b 0)), (1, .int x1), (2, .int x2), (5, .int x5), (6, .int x6)] → x_W p l e rm_X8_recover S0 m args below meth c A D (mwld cI cZ b) 0 0 (x_Ri below args S0 A D (mwld cI cZ b) r s') s (F0 m 79 ls []) := by
  intro n
  induction n with
  | zero =>
    intro x1 x2 x5 x6 s ls hf hl
    have hf : (none : Option (Int32 × CS)) = some (r, s') := hf
    cases hf
  | succ n ih =>
    intro x1 x2 x5 x6 s ls hf hl
    rw [r_X8_recover_b79_s] at hf
    refine x_iload X dX8_recover_79 hl 4 rfl ?_
    refine x_iconst X dX8_recover_81 xk_iconst_5 ?_
    refine x_icmp_ge (tgt := 107) X dX8_recover_82 rfl (fun q17 => ?_) (fun q17 => ?_)
    · have hf := (if_pos q17).symm.trans hf
      refine x_iload_n X dX8_recover_107 rfl hl 1 rfl ?_
      refine x_iload X dX8_recover_108 hl 3 rfl ?_
      refine x_aload_n X dX8_recover_110 rfl hl 0 rfl ?_
      refine x_getf X in_X8_recover_X8 (mw_o _ _ _ _) rfl 9 (by decide) lk_X8_recover_26 rfl rfl dX8_recover_111 ?_
      refine x_iload_n X dX8_recover_114 rfl hl 2 rfl ?_
      obtain ⟨g18, hf⟩ := x_og_of hf
      refine x_iald X (1 + 2) 0 (mw_r2 _ _ _ _) rfl (x_in_of g18) dX8_recover_115 ?_
      refine x_isub X dX8_recover_116 ?_
      refine x_iadd X dX8_recover_117 ?_
      refine x_istore_n (lv' := [(0, .ref (b 0)), (2, .int x2), (5, .int x5), (6, .int x6)]) X dX8_recover_118 rfl hl (by decide) (fun _ => rfl) (fun x1_19 ls ex1_19 hl => ?_)
      have hf := x_oi_of ex1_19 hf
      refine x_aload_n X dX8_recover_119 rfl hl 1 rfl ?_
      refine x_getf X in_X8_recover_X8 (mw_o _ _ _ _) rfl 9 (by decide) lk_X8_recover_26 rfl rfl dX8_recover_120 ?_
      refine x_iload_n X dX8_recover_123 rfl hl 2 rfl ?_
      refine x_iload X dX8_recover_124 hl 3 rfl ?_
      obtain ⟨g20, hf⟩ := x_og_of hf
      refine x_iast X (1 + 2) 0 (mw_r2 _ _ _ _) rfl (x_in_of g20) (mw_a2 _ _ _ _ _ _) dX8_recover_126 (fun s21 es21 => ?_)
      have hf := x_os_of es21 hf
      exact b_X8_recover_127 X F _ hK9 x1_19 x2 s21 ls hf (lv_sub hl [1, 0, 2] rfl)
    · have hf := (if_neg q17).symm.trans hf
      refine x_iload X dX8_recover_85 hl 3 rfl ?_
      refine x_aload_n X dX8_recover_87 rfl hl 0 rfl ?_
      refine x_getf X in_X8_recover_X8 (mw_o _ _ _ _) rfl 10 (by decide) lk_X8_recover_29 rfl rfl dX8_recover_88 ?_
      refine x_iconst X dX8_recover_91 xk_iconst_5 ?_
      refine x_iload_n X dX8_recover_92 rfl hl 2 rfl ?_
      refine x_imul X dX8_recover_93 ?_
      refine x_iload X dX8_recover_94 hl 4 rfl ?_
      refine x_iadd X dX8_recover_96 ?_
      obtain ⟨g22, hf⟩ := x_og_of hf
      refine x_iald X (1 + 3) 0 (mw_r3 _ _ _ _) rfl (x_in_of g22) dX8_recover_97 ?_
      refine x_isub X dX8_recover_98 ?_
      refine x_istore (lv' := [(0, .ref (b 0)), (1, .int x1), (2, .int x2), (6, .int x6)]) X dX8_recover_99 hl (by decide) (fun _ => rfl) (fun x5_23 ls ex5_23 hl => ?_)
      have hf := x_oi_of ex5_23 hf
      refine x_iinc (v := (x6 + (1 : Int32))) (lv' := [(6, .int (x6 + (1 : Int32))), (5, .int x5_23), (0, .ref (b 0)), (1, .int x1), (2, .int x2)]) X dX8_recover_101 hl (j := 4) rfl rfl (by decide) rfl (fun ls hl => ?_)
      refine x_goto (tgt := 79) X dX8_recover_104 rfl ?_
      exact ih x1 x2 x5_23 (x6 + (1 : Int32)) s ls hf (lv_sub hl [2, 3, 4, 1, 0] rfl)
set_option maxHeartbeats 4000000 in
set_option maxRecDepth 100000 in
theorem b_X8_recover_9 {p : Program} {l : Launch} {e : Env} {S0 : State} {m : MethodId} {args : Array Value} {below : List Frame} {meth : Method} {c : Code} {A : Nat → Prop} {D : va_G} {cI cZ cJ : ClassId} {b : Nat → Nat} (X : x_X p S0 m args meth c cX8_recover 7 (some .int) RX8 wsX8_recover D (x_tys cI cZ cJ) A) (F : Nat) {r : Int32} {s' : CS}  : ∀ (n : Nat) (x1 x2 : Int32) (s : CS) (ls : Array Slot), r_X8_recover_b9 F n x1 x2 s = some (r, s') → lv_has ls 7 [(0, .ref (b 0)), (1, .int x1), (2, .int x2)] → x_W p l e rm_X8_recover S0 m args below meth c A D (mwld cI cZ b) 0 0 (x_Ri below args S0 A D (mwld cI cZ b) r s') s (F0 m 9 ls []) := by
  intro n
  induction n with
  | zero =>
    intro x1 x2 s ls hf hl
    have hf : (none : Option (Int32 × CS)) = some (r, s') := hf
    cases hf
  | succ n ih =>
    intro x1 x2 s ls hf hl
    rw [r_X8_recover_b9_s] at hf
    refine x_iload_n X dX8_recover_9 rfl hl 2 rfl ?_
    refine x_aload_n X dX8_recover_10 rfl hl 0 rfl ?_
    refine x_getf X in_X8_recover_X8 (mw_o _ _ _ _) rfl 0 (by decide) lk_X8_recover_7 rfl rfl dX8_recover_11 ?_
    refine x_aload_n X dX8_recover_14 rfl hl 0 rfl ?_
    refine x_getf X in_X8_recover_X8 (mw_o _ _ _ _) rfl 1 (by decide) lk_X8_recover_13 rfl rfl dX8_recover_15 ?_
    refine x_imul X dX8_recover_18 ?_
    refine x_iconst X dX8_recover_19 xk_iconst_4 ?_
    refine x_imul X dX8_recover_20 ?_
    refine x_iconst X dX8_recover_21 xk_iconst_2 ?_
    refine x_imul X dX8_recover_22 ?_
    refine x_icmp_ge (tgt := 133) X dX8_recover_23 rfl (fun q2 => ?_) (fun q2 => ?_)
    · have hf := (if_pos q2).symm.trans hf
      refine x_iload_n X dX8_recover_133 rfl hl 1 rfl ?_
      exact x_iret X rfl rfl hf dX8_recover_134
    · have hf := (if_neg q2).symm.trans hf
      refine x_iload_n X dX8_recover_26 rfl hl 2 rfl ?_
      refine x_iconst X dX8_recover_27 xk_iconst_2 ?_
      refine x_idiv X dX8_recover_28 (by decide) ?_
      refine x_iconst X dX8_recover_29 xk_iconst_4 ?_
      refine x_idiv X dX8_recover_30 (by decide) ?_
      refine x_istore_n (lv' := [(0, .ref (b 0)), (1, .int x1), (2, .int x2)]) X dX8_recover_31 rfl hl (by decide) (fun _ => rfl) (fun x3_3 ls ex3_3 hl => ?_)
      have hf := x_oi_of ex3_3 hf
      refine x_iload_n X dX8_recover_32 rfl hl 3 rfl ?_
      refine x_iconst X dX8_recover_33 xk_iconst_2 ?_
      refine x_idiv X dX8_recover_34 (by decide) ?_
      refine x_iconst X dX8_recover_35 xk_iconst_4 ?_
      refine x_irem X dX8_recover_36 (by decide) ?_
      refine x_istore (lv' := [(3, .int x3_3), (0, .ref (b 0)), (1, .int x1), (2, .int x2)]) X dX8_recover_37 hl (by decide) (fun _ => rfl) (fun x4_4 ls ex4_4 hl => ?_)
      have hf := x_oi_of ex4_4 hf
      refine x_aload_n X dX8_recover_39 rfl hl 2 rfl ?_
      refine x_iload_n X dX8_recover_40 rfl hl 1 rfl ?_
      refine x_iload X dX8_recover_41 hl 0 rfl ?_
      obtain ⟨v6, s5, c7, hf⟩ := x_ob_of hf
      refine x_cVi X 0 8 (mw_o _ _ _ _) rfl rfl (c_X8_neighbour l D cI cZ cJ b F c7) (cwV 2 X.2.2.2.2.1 gX8_recover_X8_neighbour rfl rfl rfl (by decide +kernel) ⟨Nat.le_of_ble_eq_true rfl, Nat.le_of_ble_eq_true rfl⟩) rfl hl rfl (Nat.le_of_ble_eq_true rfl) ⟨Nat.zero_le _, Nat.zero_le _⟩ dX8_recover_43 ?_
      refine x_if_lt (tgt := 127) X dX8_recover_46 rfl (fun q8 => ?_) (fun q8 => ?_)
      · have hf := (if_pos q8).symm.trans hf
        exact b_X8_recover_127 X F _ ih x1 x2 s5 ls hf (lv_sub hl [2, 3, 4] rfl)
      · have hf := (if_neg q8).symm.trans hf
        refine x_aload_n X dX8_recover_49 rfl hl 2 rfl ?_
        refine x_getf X in_X8_recover_X8 (mw_o _ _ _ _) rfl 2 (by decide) lk_X8_recover_16 rfl rfl dX8_recover_50 ?_
        refine x_aload_n X dX8_recover_53 rfl hl 2 rfl ?_
        refine x_getf X in_X8_recover_X8 (mw_o _ _ _ _) rfl 8 (by decide) lk_X8_recover_23 rfl rfl dX8_recover_54 ?_
        refine x_aload_n X dX8_recover_57 rfl hl 2 rfl ?_
        refine x_iload_n X dX8_recover_58 rfl hl 1 rfl ?_
        refine x_iload X dX8_recover_59 hl 0 rfl ?_
        obtain ⟨v10, s9, c11, hf⟩ := x_ob_of hf
        refine x_cVi X 0 8 (mw_o _ _ _ _) rfl rfl (c_X8_neighbour l D cI cZ cJ b F c11) (cwV 2 X.2.2.2.2.1 gX8_recover_X8_neighbour rfl rfl rfl (by decide +kernel) ⟨Nat.le_of_ble_eq_true rfl, Nat.le_of_ble_eq_true rfl⟩) rfl hl rfl (Nat.le_of_ble_eq_true rfl) ⟨Nat.zero_le _, Nat.zero_le _⟩ dX8_recover_61 ?_
        refine x_iload X dX8_recover_64 hl 0 rfl ?_
        refine x_iload_n X dX8_recover_66 rfl hl 4 rfl ?_
        refine x_iconst X dX8_recover_67 xk_iconst_2 ?_
        refine x_irem X dX8_recover_68 (by decide) ?_
        obtain ⟨v13, s12, c14, hf⟩ := x_ob_of hf
        refine x_cSi X (c_X8_bufferOf l D cI cZ cJ b F c14) (va_cwS 3 X.2.2.2.2.1 gX8_recover_X8_bufferOf rfl rfl rfl (by decide +kernel) ⟨Nat.le_of_ble_eq_true rfl, Nat.le_of_ble_eq_true rfl⟩) rfl hl rfl (Nat.le_of_ble_eq_true rfl) ⟨Nat.zero_le _, Nat.zero_le _⟩ dX8_recover_69 ?_
        obtain ⟨g15, hf⟩ := x_og_of hf
        refine x_iald X (1 + 1) 0 (mw_r1 _ _ _ _) rfl (x_in_of g15) dX8_recover_72 ?_
        refine x_isub X dX8_recover_73 ?_
        refine x_istore (lv' := [(4, .int x4_4), (3, .int x3_3), (0, .ref (b 0)), (1, .int x1), (2, .int x2)]) X dX8_recover_74 hl (by decide) (fun _ => rfl) (fun x5_16 ls ex5_16 hl => ?_)
        have hf := x_oi_of ex5_16 hf
        refine x_iconst X dX8_recover_76 xk_iconst_0 ?_
        refine x_istoreA (lv' := [(6, .int (0 : Int32)), (5, .int x5_16), (4, .int x4_4), (3, .int x3_3), (0, .ref (b 0)), (1, .int x1), (2, .int x2)]) X dX8_recover_77 hl (by decide) rfl (fun ls hl => ?_)
        exact b_X8_recover_79 X F _ ih F x1 x2 x5_16 (0 : Int32) s12 ls hf (lv_sub hl [4, 5, 6, 1, 0] rfl)
set_option maxHeartbeats 4000000 in
set_option maxRecDepth 100000 in
theorem c_X8_recover (l : Launch) (D : va_G) (cI cZ cJ : ClassId) (b : Nat → Nat) (F : Nat) {s s' : CS} {r : Int32} (hf : r_X8_recover F s = some (r, s')) : x_Mi l yX8_recover wsX8_recover rm_X8_recover D (x_tys cI cZ cJ) (mwld cI cZ b) [.ref (b 0)] s r s' := by
  refine x_enteri (cc := cX8_recover) (nL := 7) (ty := .int) (own := RX8) (by decide) rfl rfl (Nat.le_of_ble_eq_true rfl) ?_
  intro p e S0 m args below meth c A X ls hl
  have hl : lv_has ls 7 [(0, .ref (b 0))] := hl
  unfold r_X8_recover at hf
  refine x_aload_n X dX8_recover_0 rfl hl 0 rfl ?_
  refine x_iconst X dX8_recover_1 xk_iconst_0 ?_
  refine x_puti X in_X8_recover_X8 (mw_o _ _ _ _) rfl 25 (by decide) tyX8 tyX8_ok nmX8 lk_X8_recover_79 rfl rfl (by decide +kernel) (Nat.le_of_ble_eq_true rfl) (mw_s7 _ _ _ _ _) dX8_recover_2 (fun s1 es1 => ?_)
  have hf := x_os_of es1 hf
  refine x_iconst X dX8_recover_5 xk_iconst_0 ?_
  refine x_istoreA_n (lv' := [(1, .int (0 : Int32)), (0, .ref (b 0))]) X dX8_recover_6 rfl hl (by decide) rfl (fun ls hl => ?_)
  refine x_iconst X dX8_recover_7 xk_iconst_0 ?_
  refine x_istoreA_n (lv' := [(2, .int (0 : Int32)), (1, .int (0 : Int32)), (0, .ref (b 0))]) X dX8_recover_8 rfl hl (by decide) rfl (fun ls hl => ?_)
  exact b_X8_recover_9 X F F (0 : Int32) (0 : Int32) s1 ls hf (lv_sub hl [2, 1, 0] rfl)
def rm_X8_tick : Room := { frames := 0, cells := 0, slots := 0, locals := 0 }
theorem in_X8_tick_X8 : ∀ w ∈ wsX80, w ∈ wsX8_tick := by decide +kernel
theorem lk_X8_tick_79 : Cond.fieldLink RX8 79 "CreditfabricModel" "thrown" "I" ∈ wsX8_tick := by decide +kernel
theorem lk_X8_tick_100 : Cond.fieldLink RX8 100 "CreditfabricModel" "tick" "I" ∈ wsX8_tick := by decide +kernel
set_option maxHeartbeats 4000000 in
set_option maxRecDepth 100000 in
theorem c_X8_tick (l : Launch) (D : va_G) (cI cZ cJ : ClassId) (b : Nat → Nat) (F : Nat) {s s' : CS} {r : Int32} (hf : r_X8_tick F s = some (r, s')) : x_Mi l yX8_tick wsX8_tick rm_X8_tick D (x_tys cI cZ cJ) (mwld cI cZ b) [.ref (b 0)] s r s' := by
  refine x_enteri (cc := cX8_tick) (nL := 1) (ty := .int) (own := RX8) (by decide) rfl rfl (Nat.le_of_ble_eq_true rfl) ?_
  intro p e S0 m args below meth c A X ls hl
  have hl : lv_has ls 1 [(0, .ref (b 0))] := hl
  unfold r_X8_tick at hf
  refine x_aload_n X dX8_tick_0 rfl hl 0 rfl ?_
  refine x_iconst X dX8_tick_1 xk_iconst_0 ?_
  refine x_puti X in_X8_tick_X8 (mw_o _ _ _ _) rfl 25 (by decide) tyX8 tyX8_ok nmX8 lk_X8_tick_79 rfl rfl (by decide +kernel) (Nat.le_of_ble_eq_true rfl) (mw_s7 _ _ _ _ _) dX8_tick_2 (fun s1 es1 => ?_)
  have hf := x_os_of es1 hf
  refine x_aload_n X dX8_tick_5 rfl hl 0 rfl ?_
  refine x_getf X in_X8_tick_X8 (mw_o _ _ _ _) rfl 4 (by decide) lk_X8_tick_100 rfl rfl dX8_tick_6 ?_
  exact x_iret X rfl rfl hf dX8_tick_9
def rm_X8_packets : Room := { frames := 0, cells := 0, slots := 0, locals := 0 }
theorem in_X8_packets_X8 : ∀ w ∈ wsX80, w ∈ wsX8_packets := by decide +kernel
theorem lk_X8_packets_79 : Cond.fieldLink RX8 79 "CreditfabricModel" "thrown" "I" ∈ wsX8_packets := by decide +kernel
theorem lk_X8_packets_82 : Cond.fieldLink RX8 82 "CreditfabricModel" "sent" "I" ∈ wsX8_packets := by decide +kernel
set_option maxHeartbeats 4000000 in
set_option maxRecDepth 100000 in
theorem c_X8_packets (l : Launch) (D : va_G) (cI cZ cJ : ClassId) (b : Nat → Nat) (F : Nat) {s s' : CS} {r : Int32} (hf : r_X8_packets F s = some (r, s')) : x_Mi l yX8_packets wsX8_packets rm_X8_packets D (x_tys cI cZ cJ) (mwld cI cZ b) [.ref (b 0)] s r s' := by
  refine x_enteri (cc := cX8_packets) (nL := 1) (ty := .int) (own := RX8) (by decide) rfl rfl (Nat.le_of_ble_eq_true rfl) ?_
  intro p e S0 m args below meth c A X ls hl
  have hl : lv_has ls 1 [(0, .ref (b 0))] := hl
  unfold r_X8_packets at hf
  refine x_aload_n X dX8_packets_0 rfl hl 0 rfl ?_
  refine x_iconst X dX8_packets_1 xk_iconst_0 ?_
  refine x_puti X in_X8_packets_X8 (mw_o _ _ _ _) rfl 25 (by decide) tyX8 tyX8_ok nmX8 lk_X8_packets_79 rfl rfl (by decide +kernel) (Nat.le_of_ble_eq_true rfl) (mw_s7 _ _ _ _ _) dX8_packets_2 (fun s1 es1 => ?_)
  have hf := x_os_of es1 hf
  refine x_aload_n X dX8_packets_5 rfl hl 0 rfl ?_
  refine x_getf X in_X8_packets_X8 (mw_o _ _ _ _) rfl 5 (by decide) lk_X8_packets_82 rfl rfl dX8_packets_6 ?_
  exact x_iret X rfl rfl hf dX8_packets_9
def rm_X8_arrived : Room := { frames := 0, cells := 0, slots := 0, locals := 0 }
theorem in_X8_arrived_X8 : ∀ w ∈ wsX80, w ∈ wsX8_arrived := by decide +kernel
theorem lk_X8_arrived_79 : Cond.fieldLink RX8 79 "CreditfabricModel" "thrown" "I" ∈ wsX8_arrived := by decide +kernel
theorem lk_X8_arrived_103 : Cond.fieldLink RX8 103 "CreditfabricModel" "out" "I" ∈ wsX8_arrived := by decide +kernel
set_option maxHeartbeats 4000000 in
set_option maxRecDepth 100000 in
theorem c_X8_arrived (l : Launch) (D : va_G) (cI cZ cJ : ClassId) (b : Nat → Nat) (F : Nat) {s s' : CS} {r : Int32} (hf : r_X8_arrived F s = some (r, s')) : x_Mi l yX8_arrived wsX8_arrived rm_X8_arrived D (x_tys cI cZ cJ) (mwld cI cZ b) [.ref (b 0)] s r s' := by
  refine x_enteri (cc := cX8_arrived) (nL := 1) (ty := .int) (own := RX8) (by decide) rfl rfl (Nat.le_of_ble_eq_true rfl) ?_
  intro p e S0 m args below meth c A X ls hl
  have hl : lv_has ls 1 [(0, .ref (b 0))] := hl
  unfold r_X8_arrived at hf
  refine x_aload_n X dX8_arrived_0 rfl hl 0 rfl ?_
  refine x_iconst X dX8_arrived_1 xk_iconst_0 ?_
  refine x_puti X in_X8_arrived_X8 (mw_o _ _ _ _) rfl 25 (by decide) tyX8 tyX8_ok nmX8 lk_X8_arrived_79 rfl rfl (by decide +kernel) (Nat.le_of_ble_eq_true rfl) (mw_s7 _ _ _ _ _) dX8_arrived_2 (fun s1 es1 => ?_)
  have hf := x_os_of es1 hf
  refine x_aload_n X dX8_arrived_5 rfl hl 0 rfl ?_
  refine x_getf X in_X8_arrived_X8 (mw_o _ _ _ _) rfl 6 (by decide) lk_X8_arrived_103 rfl rfl dX8_arrived_6 ?_
  exact x_iret X rfl rfl hf dX8_arrived_9
def rm_X8_credits : Room := { frames := 2, cells := 0, slots := 0, locals := 47 }
theorem in_X8_credits_X8 : ∀ w ∈ wsX80, w ∈ wsX8_credits := by decide +kernel
theorem lk_X8_credits_26 : Cond.fieldLink RX8 26 "CreditfabricModel" "credit" "[I" ∈ wsX8_credits := by decide +kernel
set_option maxHeartbeats 4000000 in
set_option maxRecDepth 100000 in
theorem b_X8_credits_35 {p : Program} {l : Launch} {e : Env} {S0 : State} {m : MethodId} {args : Array Value} {below : List Frame} {meth : Method} {c : Code} {A : Nat → Prop} {D : va_G} {cI cZ cJ : ClassId} {b : Nat → Nat} (X : x_X p S0 m args meth c cX8_credits 4 (some .int) RX8 wsX8_credits D (x_tys cI cZ cJ) A) (F : Nat) {r : Int32} {s' : CS}  : ∀ (t0 : Int32) (s : CS) (ls : Array Slot), r_X8_credits_b35 F t0 s = some (r, s') → lv_has ls 4 [] → x_W p l e rm_X8_credits S0 m args below meth c A D (mwld cI cZ b) 0 0 (x_Ri below args S0 A D (mwld cI cZ b) r s') s (F0 m 35 ls [.int t0]) := by
  intro t0 s ls hf hl
  unfold r_X8_credits_b35 at hf
  exact x_iret X rfl rfl hf dX8_credits_35
set_option maxHeartbeats 4000000 in
set_option maxRecDepth 100000 in
theorem c_X8_credits (l : Launch) (D : va_G) (cI cZ cJ : ClassId) (b : Nat → Nat) (F : Nat) {s s' : CS} {r : Int32} {x1 x2 x3 : Int32} (hf : r_X8_credits F x1 x2 x3 s = some (r, s')) : x_Mi l yX8_credits wsX8_credits rm_X8_credits D (x_tys cI cZ cJ) (mwld cI cZ b) [.ref (b 0), .int x1, .int x2, .int x3] s r s' := by
  refine x_enteri (cc := cX8_credits) (nL := 4) (ty := .int) (own := RX8) (by decide) rfl rfl (Nat.le_of_ble_eq_true rfl) ?_
  intro p e S0 m args below meth c A X ls hl
  have hl : lv_has ls 4 [(0, .ref (b 0)), (1, .int x1), (2, .int x2), (3, .int x3)] := hl
  unfold r_X8_credits at hf
  refine x_aload_n X dX8_credits_0 rfl hl 0 rfl ?_
  refine x_aload_n X dX8_credits_1 rfl hl 0 rfl ?_
  refine x_iload_n X dX8_credits_2 rfl hl 1 rfl ?_
  refine x_iload_n X dX8_credits_3 rfl hl 2 rfl ?_
  obtain ⟨v2, s1, c3, hf⟩ := x_ob_of hf
  refine x_cVi X 0 8 (mw_o _ _ _ _) rfl rfl (c_X8_isLink l D cI cZ cJ b F c3) (cwV 2 X.2.2.2.2.1 gX8_credits_X8_isLink rfl rfl rfl (by decide +kernel) ⟨Nat.le_of_ble_eq_true rfl, Nat.le_of_ble_eq_true rfl⟩) rfl hl rfl (Nat.le_of_ble_eq_true rfl) ⟨Nat.zero_le _, Nat.zero_le _⟩ dX8_credits_4 ?_
  refine x_iload_n X dX8_credits_7 rfl hl 3 rfl ?_
  refine x_iconst X dX8_credits_8 xk_iconst_0 ?_
  refine x_iconst X dX8_credits_9 xk_iconst_1 ?_
  obtain ⟨v5, s4, c6, hf⟩ := x_ob_of hf
  refine x_cSi X (c_X8_isWithin l D cI cZ cJ b F c6) (va_cwS 3 X.2.2.2.2.1 gX8_credits_X8_isWithin rfl rfl rfl (by decide +kernel) ⟨Nat.le_of_ble_eq_true rfl, Nat.le_of_ble_eq_true rfl⟩) rfl hl rfl (Nat.le_of_ble_eq_true rfl) ⟨Nat.zero_le _, Nat.zero_le _⟩ dX8_credits_10 ?_
  refine x_iconst X dX8_credits_13 xk_iconst_1 ?_
  obtain ⟨v8, s7, c9, hf⟩ := x_ob_of hf
  refine x_cVi X 0 8 (mw_o _ _ _ _) rfl rfl (c_X8_goes l D cI cZ cJ b F c9) (cwV 3 X.2.2.2.2.1 gX8_credits_X8_goes rfl rfl rfl (by decide +kernel) ⟨Nat.le_of_ble_eq_true rfl, Nat.le_of_ble_eq_true rfl⟩) rfl hl rfl (Nat.le_of_ble_eq_true rfl) ⟨Nat.zero_le _, Nat.zero_le _⟩ dX8_credits_14 ?_
  refine x_if_eq (tgt := 34) X dX8_credits_17 rfl (fun q10 => ?_) (fun q10 => ?_)
  · have hf := (if_pos q10).symm.trans hf
    refine x_iconst X dX8_credits_34 xk_iconst_0 ?_
    exact b_X8_credits_35 X F (0 : Int32) s7 ls hf (lv_sub hl [] rfl)
  · have hf := (if_neg q10).symm.trans hf
    refine x_aload_n X dX8_credits_20 rfl hl 0 rfl ?_
    refine x_getf X in_X8_credits_X8 (mw_o _ _ _ _) rfl 9 (by decide) lk_X8_credits_26 rfl rfl dX8_credits_21 ?_
    refine x_iload_n X dX8_credits_24 rfl hl 1 rfl ?_
    refine x_iload_n X dX8_credits_25 rfl hl 2 rfl ?_
    refine x_iload_n X dX8_credits_26 rfl hl 3 rfl ?_
    obtain ⟨v12, s11, c13, hf⟩ := x_ob_of hf
    refine x_cSi X (c_X8_linkOf l D cI cZ cJ b F c13) (va_cwS 3 X.2.2.2.2.1 gX8_credits_X8_linkOf rfl rfl rfl (by decide +kernel) ⟨Nat.le_of_ble_eq_true rfl, Nat.le_of_ble_eq_true rfl⟩) rfl hl rfl (Nat.le_of_ble_eq_true rfl) ⟨Nat.zero_le _, Nat.zero_le _⟩ dX8_credits_27 ?_
    obtain ⟨g14, hf⟩ := x_og_of hf
    refine x_iald X (1 + 2) 0 (mw_r2 _ _ _ _) rfl (x_in_of g14) dX8_credits_30 ?_
    refine x_goto (tgt := 35) X dX8_credits_31 rfl ?_
    exact b_X8_credits_35 X F (x_at s11 2 v12) s11 ls hf (lv_sub hl [] rfl)
def rm_X8_inBuffer : Room := { frames := 1, cells := 0, slots := 0, locals := 23 }
theorem in_X8_inBuffer_X8 : ∀ w ∈ wsX80, w ∈ wsX8_inBuffer := by decide +kernel
theorem lk_X8_inBuffer_23 : Cond.fieldLink RX8 23 "CreditfabricModel" "many" "[I" ∈ wsX8_inBuffer := by decide +kernel
set_option maxHeartbeats 4000000 in
set_option maxRecDepth 100000 in
theorem b_X8_inBuffer_51 {p : Program} {l : Launch} {e : Env} {S0 : State} {m : MethodId} {args : Array Value} {below : List Frame} {meth : Method} {c : Code} {A : Nat → Prop} {D : va_G} {cI cZ cJ : ClassId} {b : Nat → Nat} (X : x_X p S0 m args meth c cX8_inBuffer 4 (some .int) RX8 wsX8_inBuffer D (x_tys cI cZ cJ) A) (F : Nat) {r : Int32} {s' : CS}  : ∀ (t0 : Int32) (s : CS) (ls : Array Slot), r_X8_inBuffer_b51 F t0 s = some (r, s') → lv_has ls 4 [] → x_W p l e rm_X8_inBuffer S0 m args below meth c A D (mwld cI cZ b) 0 0 (x_Ri below args S0 A D (mwld cI cZ b) r s') s (F0 m 51 ls [.int t0]) := by
  intro t0 s ls hf hl
  unfold r_X8_inBuffer_b51 at hf
  exact x_iret X rfl rfl hf dX8_inBuffer_51
set_option maxHeartbeats 4000000 in
set_option maxRecDepth 100000 in
theorem b_X8_inBuffer_29 {p : Program} {l : Launch} {e : Env} {S0 : State} {m : MethodId} {args : Array Value} {below : List Frame} {meth : Method} {c : Code} {A : Nat → Prop} {D : va_G} {cI cZ cJ : ClassId} {b : Nat → Nat} (X : x_X p S0 m args meth c cX8_inBuffer 4 (some .int) RX8 wsX8_inBuffer D (x_tys cI cZ cJ) A) (F : Nat) {r : Int32} {s' : CS}  : ∀ (x1 x2 x3 t0 t1 : Int32) (s : CS) (ls : Array Slot), r_X8_inBuffer_b29 F x1 x2 x3 t0 t1 s = some (r, s') → lv_has ls 4 [(0, .ref (b 0)), (1, .int x1), (2, .int x2), (3, .int x3)] → x_W p l e rm_X8_inBuffer S0 m args below meth c A D (mwld cI cZ b) 0 0 (x_Ri below args S0 A D (mwld cI cZ b) r s') s (F0 m 29 ls [.int t0, .int t1, .ref (b 0)]) := by
  intro x1 x2 x3 t0 t1 s ls hf hl
  unfold r_X8_inBuffer_b29 at hf
  refine x_iconst X dX8_inBuffer_29 xk_iconst_1 ?_
  obtain ⟨v9, s8, c10, hf⟩ := x_ob_of hf
  refine x_cVi X 0 8 (mw_o _ _ _ _) rfl rfl (c_X8_goes l D cI cZ cJ b F c10) (cwV 3 X.2.2.2.2.1 gX8_inBuffer_X8_goes rfl rfl rfl (by decide +kernel) ⟨Nat.le_of_ble_eq_true rfl, Nat.le_of_ble_eq_true rfl⟩) rfl hl rfl (Nat.le_of_ble_eq_true rfl) ⟨Nat.zero_le _, Nat.zero_le _⟩ dX8_inBuffer_30 ?_
  refine x_if_eq (tgt := 50) X dX8_inBuffer_33 rfl (fun q11 => ?_) (fun q11 => ?_)
  · have hf := (if_pos q11).symm.trans hf
    refine x_iconst X dX8_inBuffer_50 xk_iconst_0 ?_
    exact b_X8_inBuffer_51 X F (0 : Int32) s8 ls hf (lv_sub hl [] rfl)
  · have hf := (if_neg q11).symm.trans hf
    refine x_aload_n X dX8_inBuffer_36 rfl hl 0 rfl ?_
    refine x_getf X in_X8_inBuffer_X8 (mw_o _ _ _ _) rfl 8 (by decide) lk_X8_inBuffer_23 rfl rfl dX8_inBuffer_37 ?_
    refine x_iload_n X dX8_inBuffer_40 rfl hl 1 rfl ?_
    refine x_iload_n X dX8_inBuffer_41 rfl hl 2 rfl ?_
    refine x_iload_n X dX8_inBuffer_42 rfl hl 3 rfl ?_
    obtain ⟨v13, s12, c14, hf⟩ := x_ob_of hf
    refine x_cSi X (c_X8_bufferOf l D cI cZ cJ b F c14) (va_cwS 3 X.2.2.2.2.1 gX8_inBuffer_X8_bufferOf rfl rfl rfl (by decide +kernel) ⟨Nat.le_of_ble_eq_true rfl, Nat.le_of_ble_eq_true rfl⟩) rfl hl rfl (Nat.le_of_ble_eq_true rfl) ⟨Nat.zero_le _, Nat.zero_le _⟩ dX8_inBuffer_43 ?_
    obtain ⟨g15, hf⟩ := x_og_of hf
    refine x_iald X (1 + 1) 0 (mw_r1 _ _ _ _) rfl (x_in_of g15) dX8_inBuffer_46 ?_
    refine x_goto (tgt := 51) X dX8_inBuffer_47 rfl ?_
    exact b_X8_inBuffer_51 X F (x_at s12 1 v13) s12 ls hf (lv_sub hl [] rfl)
set_option maxHeartbeats 4000000 in
set_option maxRecDepth 100000 in
theorem b_X8_inBuffer_28 {p : Program} {l : Launch} {e : Env} {S0 : State} {m : MethodId} {args : Array Value} {below : List Frame} {meth : Method} {c : Code} {A : Nat → Prop} {D : va_G} {cI cZ cJ : ClassId} {b : Nat → Nat} (X : x_X p S0 m args meth c cX8_inBuffer 4 (some .int) RX8 wsX8_inBuffer D (x_tys cI cZ cJ) A) (F : Nat) {r : Int32} {s' : CS}  : ∀ (x1 x2 x3 t0 : Int32) (s : CS) (ls : Array Slot), r_X8_inBuffer_b28 F x1 x2 x3 t0 s = some (r, s') → lv_has ls 4 [(0, .ref (b 0)), (1, .int x1), (2, .int x2), (3, .int x3)] → x_W p l e rm_X8_inBuffer S0 m args below meth c A D (mwld cI cZ b) 0 0 (x_Ri below args S0 A D (mwld cI cZ b) r s') s (F0 m 28 ls [.int t0, .ref (b 0)]) := by
  intro x1 x2 x3 t0 s ls hf hl
  unfold r_X8_inBuffer_b28 at hf
  refine x_iconst X dX8_inBuffer_28 xk_iconst_0 ?_
  exact b_X8_inBuffer_29 X F x1 x2 x3 (0 : Int32) t0 s ls hf (lv_sub hl [0, 1, 2, 3] rfl)
set_option maxHeartbeats 4000000 in
set_option maxRecDepth 100000 in
theorem c_X8_inBuffer (l : Launch) (D : va_G) (cI cZ cJ : ClassId) (b : Nat → Nat) (F : Nat) {s s' : CS} {r : Int32} {x1 x2 x3 : Int32} (hf : r_X8_inBuffer F x1 x2 x3 s = some (r, s')) : x_Mi l yX8_inBuffer wsX8_inBuffer rm_X8_inBuffer D (x_tys cI cZ cJ) (mwld cI cZ b) [.ref (b 0), .int x1, .int x2, .int x3] s r s' := by
  refine x_enteri (cc := cX8_inBuffer) (nL := 4) (ty := .int) (own := RX8) (by decide) rfl rfl (Nat.le_of_ble_eq_true rfl) ?_
  intro p e S0 m args below meth c A X ls hl
  have hl : lv_has ls 4 [(0, .ref (b 0)), (1, .int x1), (2, .int x2), (3, .int x3)] := hl
  unfold r_X8_inBuffer at hf
  refine x_aload_n X dX8_inBuffer_0 rfl hl 0 rfl ?_
  refine x_aload_n X dX8_inBuffer_1 rfl hl 0 rfl ?_
  refine x_iload_n X dX8_inBuffer_2 rfl hl 1 rfl ?_
  obtain ⟨v2, s1, c3, hf⟩ := x_ob_of hf
  refine x_cVi X 0 8 (mw_o _ _ _ _) rfl rfl (c_X8_isSwitch l D cI cZ cJ b F c3) (cwV 1 X.2.2.2.2.1 gX8_inBuffer_X8_isSwitch rfl rfl rfl (by decide +kernel) ⟨Nat.le_of_ble_eq_true rfl, Nat.le_of_ble_eq_true rfl⟩) rfl hl rfl (Nat.le_of_ble_eq_true rfl) ⟨Nat.zero_le _, Nat.zero_le _⟩ dX8_inBuffer_3 ?_
  refine x_iload_n X dX8_inBuffer_6 rfl hl 2 rfl ?_
  refine x_iconst X dX8_inBuffer_7 xk_iconst_0 ?_
  refine x_iconst X dX8_inBuffer_8 xk_iconst_4 ?_
  obtain ⟨v5, s4, c6, hf⟩ := x_ob_of hf
  refine x_cSi X (c_X8_isWithin l D cI cZ cJ b F c6) (va_cwS 3 X.2.2.2.2.1 gX8_inBuffer_X8_isWithin rfl rfl rfl (by decide +kernel) ⟨Nat.le_of_ble_eq_true rfl, Nat.le_of_ble_eq_true rfl⟩) rfl hl rfl (Nat.le_of_ble_eq_true rfl) ⟨Nat.zero_le _, Nat.zero_le _⟩ dX8_inBuffer_9 ?_
  refine x_if_eq (tgt := 28) X dX8_inBuffer_12 rfl (fun q7 => ?_) (fun q7 => ?_)
  · have hf := (if_pos q7).symm.trans hf
    exact b_X8_inBuffer_28 X F x1 x2 x3 v2 s4 ls hf (lv_sub hl [0, 1, 2, 3] rfl)
  · have hf := (if_neg q7).symm.trans hf
    refine x_iload_n X dX8_inBuffer_15 rfl hl 3 rfl ?_
    refine x_iconst X dX8_inBuffer_16 xk_iconst_0 ?_
    refine x_iconst X dX8_inBuffer_17 xk_iconst_1 ?_
    obtain ⟨v17, s16, c18, hf⟩ := x_ob_of hf
    refine x_cSi X (c_X8_isWithin l D cI cZ cJ b F c18) (va_cwS 3 X.2.2.2.2.1 gX8_inBuffer_X8_isWithin rfl rfl rfl (by decide +kernel) ⟨Nat.le_of_ble_eq_true rfl, Nat.le_of_ble_eq_true rfl⟩) rfl hl rfl (Nat.le_of_ble_eq_true rfl) ⟨Nat.zero_le _, Nat.zero_le _⟩ dX8_inBuffer_18 ?_
    refine x_if_eq (tgt := 28) X dX8_inBuffer_21 rfl (fun q19 => ?_) (fun q19 => ?_)
    · have hf := (if_pos q19).symm.trans hf
      exact b_X8_inBuffer_28 X F x1 x2 x3 v2 s16 ls hf (lv_sub hl [0, 1, 2, 3] rfl)
    · have hf := (if_neg q19).symm.trans hf
      refine x_iconst X dX8_inBuffer_24 xk_iconst_1 ?_
      refine x_goto (tgt := 29) X dX8_inBuffer_25 rfl ?_
      exact b_X8_inBuffer_29 X F x1 x2 x3 (1 : Int32) v2 s16 ls hf (lv_sub hl [0, 1, 2, 3] rfl)
def rm_X8_gap : Room := { frames := 1, cells := 0, slots := 0, locals := 23 }
theorem in_X8_gap_X8 : ∀ w ∈ wsX80, w ∈ wsX8_gap := by decide +kernel
theorem lk_X8_gap_35 : Cond.fieldLink RX8 35 "CreditfabricModel" "gap" "[I" ∈ wsX8_gap := by decide +kernel
set_option maxHeartbeats 4000000 in
set_option maxRecDepth 100000 in
theorem b_X8_gap_24 {p : Program} {l : Launch} {e : Env} {S0 : State} {m : MethodId} {args : Array Value} {below : List Frame} {meth : Method} {c : Code} {A : Nat → Prop} {D : va_G} {cI cZ cJ : ClassId} {b : Nat → Nat} (X : x_X p S0 m args meth c cX8_gap 2 (some .int) RX8 wsX8_gap D (x_tys cI cZ cJ) A) (F : Nat) {r : Int32} {s' : CS}  : ∀ (t0 : Int32) (s : CS) (ls : Array Slot), r_X8_gap_b24 F t0 s = some (r, s') → lv_has ls 2 [] → x_W p l e rm_X8_gap S0 m args below meth c A D (mwld cI cZ b) 0 0 (x_Ri below args S0 A D (mwld cI cZ b) r s') s (F0 m 24 ls [.int t0]) := by
  intro t0 s ls hf hl
  unfold r_X8_gap_b24 at hf
  exact x_iret X rfl rfl hf dX8_gap_24
set_option maxHeartbeats 4000000 in
set_option maxRecDepth 100000 in
theorem c_X8_gap (l : Launch) (D : va_G) (cI cZ cJ : ClassId) (b : Nat → Nat) (F : Nat) {s s' : CS} {r : Int32} {x1 : Int32} (hf : r_X8_gap F x1 s = some (r, s')) : x_Mi l yX8_gap wsX8_gap rm_X8_gap D (x_tys cI cZ cJ) (mwld cI cZ b) [.ref (b 0), .int x1] s r s' := by
  refine x_enteri (cc := cX8_gap) (nL := 2) (ty := .int) (own := RX8) (by decide) rfl rfl (Nat.le_of_ble_eq_true rfl) ?_
  intro p e S0 m args below meth c A X ls hl
  have hl : lv_has ls 2 [(0, .ref (b 0)), (1, .int x1)] := hl
  unfold r_X8_gap at hf
  refine x_aload_n X dX8_gap_0 rfl hl 0 rfl ?_
  refine x_aload_n X dX8_gap_1 rfl hl 0 rfl ?_
  refine x_iload_n X dX8_gap_2 rfl hl 1 rfl ?_
  obtain ⟨v2, s1, c3, hf⟩ := x_ob_of hf
  refine x_cVi X 0 8 (mw_o _ _ _ _) rfl rfl (c_X8_isSwitch l D cI cZ cJ b F c3) (cwV 1 X.2.2.2.2.1 gX8_gap_X8_isSwitch rfl rfl rfl (by decide +kernel) ⟨Nat.le_of_ble_eq_true rfl, Nat.le_of_ble_eq_true rfl⟩) rfl hl rfl (Nat.le_of_ble_eq_true rfl) ⟨Nat.zero_le _, Nat.zero_le _⟩ dX8_gap_3 ?_
  refine x_iconst X dX8_gap_6 xk_iconst_1 ?_
  refine x_iconst X dX8_gap_7 xk_iconst_1 ?_
  obtain ⟨v5, s4, c6, hf⟩ := x_ob_of hf
  refine x_cVi X 0 8 (mw_o _ _ _ _) rfl rfl (c_X8_goes l D cI cZ cJ b F c6) (cwV 3 X.2.2.2.2.1 gX8_gap_X8_goes rfl rfl rfl (by decide +kernel) ⟨Nat.le_of_ble_eq_true rfl, Nat.le_of_ble_eq_true rfl⟩) rfl hl rfl (Nat.le_of_ble_eq_true rfl) ⟨Nat.zero_le _, Nat.zero_le _⟩ dX8_gap_8 ?_
  refine x_if_eq (tgt := 23) X dX8_gap_11 rfl (fun q7 => ?_) (fun q7 => ?_)
  · have hf := (if_pos q7).symm.trans hf
    refine x_iconst X dX8_gap_23 xk_iconst_0 ?_
    exact b_X8_gap_24 X F (0 : Int32) s4 ls hf (lv_sub hl [] rfl)
  · have hf := (if_neg q7).symm.trans hf
    refine x_aload_n X dX8_gap_14 rfl hl 0 rfl ?_
    refine x_getf X in_X8_gap_X8 (mw_o _ _ _ _) rfl 12 (by decide) lk_X8_gap_35 rfl rfl dX8_gap_15 ?_
    refine x_iload_n X dX8_gap_18 rfl hl 1 rfl ?_
    obtain ⟨g8, hf⟩ := x_og_of hf
    refine x_iald X (1 + 5) 0 (mw_r5 _ _ _ _) rfl (x_in_of g8) dX8_gap_19 ?_
    refine x_goto (tgt := 24) X dX8_gap_20 rfl ?_
    exact b_X8_gap_24 X F (x_at s4 5 x1) s4 ls hf (lv_sub hl [] rfl)
def rm_X8_placeOf : Room := { frames := 1, cells := 0, slots := 0, locals := 23 }
theorem in_X8_placeOf_X8 : ∀ w ∈ wsX80, w ∈ wsX8_placeOf := by decide +kernel
theorem lk_X8_placeOf_57 : Cond.fieldLink RX8 57 "CreditfabricModel" "place" "[I" ∈ wsX8_placeOf := by decide +kernel
set_option maxHeartbeats 4000000 in
set_option maxRecDepth 100000 in
theorem b_X8_placeOf_24 {p : Program} {l : Launch} {e : Env} {S0 : State} {m : MethodId} {args : Array Value} {below : List Frame} {meth : Method} {c : Code} {A : Nat → Prop} {D : va_G} {cI cZ cJ : ClassId} {b : Nat → Nat} (X : x_X p S0 m args meth c cX8_placeOf 2 (some .int) RX8 wsX8_placeOf D (x_tys cI cZ cJ) A) (F : Nat) {r : Int32} {s' : CS}  : ∀ (t0 : Int32) (s : CS) (ls : Array Slot), r_X8_placeOf_b24 F t0 s = some (r, s') → lv_has ls 2 [] → x_W p l e rm_X8_placeOf S0 m args below meth c A D (mwld cI cZ b) 0 0 (x_Ri below args S0 A D (mwld cI cZ b) r s') s (F0 m 24 ls [.int t0]) := by
  intro t0 s ls hf hl
  unfold r_X8_placeOf_b24 at hf
  exact x_iret X rfl rfl hf dX8_placeOf_24
set_option maxHeartbeats 4000000 in
set_option maxRecDepth 100000 in
theorem c_X8_placeOf (l : Launch) (D : va_G) (cI cZ cJ : ClassId) (b : Nat → Nat) (F : Nat) {s s' : CS} {r : Int32} {x1 : Int32} (hf : r_X8_placeOf F x1 s = some (r, s')) : x_Mi l yX8_placeOf wsX8_placeOf rm_X8_placeOf D (x_tys cI cZ cJ) (mwld cI cZ b) [.ref (b 0), .int x1] s r s' := by
  refine x_enteri (cc := cX8_placeOf) (nL := 2) (ty := .int) (own := RX8) (by decide) rfl rfl (Nat.le_of_ble_eq_true rfl) ?_
  intro p e S0 m args below meth c A X ls hl
  have hl : lv_has ls 2 [(0, .ref (b 0)), (1, .int x1)] := hl
  unfold r_X8_placeOf at hf
  refine x_aload_n X dX8_placeOf_0 rfl hl 0 rfl ?_
  refine x_aload_n X dX8_placeOf_1 rfl hl 0 rfl ?_
  refine x_iload_n X dX8_placeOf_2 rfl hl 1 rfl ?_
  obtain ⟨v2, s1, c3, hf⟩ := x_ob_of hf
  refine x_cVi X 0 8 (mw_o _ _ _ _) rfl rfl (c_X8_isPacket l D cI cZ cJ b F c3) (cwV 1 X.2.2.2.2.1 gX8_placeOf_X8_isPacket rfl rfl rfl (by decide +kernel) ⟨Nat.le_of_ble_eq_true rfl, Nat.le_of_ble_eq_true rfl⟩) rfl hl rfl (Nat.le_of_ble_eq_true rfl) ⟨Nat.zero_le _, Nat.zero_le _⟩ dX8_placeOf_3 ?_
  refine x_iconst X dX8_placeOf_6 xk_iconst_1 ?_
  refine x_iconst X dX8_placeOf_7 xk_iconst_1 ?_
  obtain ⟨v5, s4, c6, hf⟩ := x_ob_of hf
  refine x_cVi X 0 8 (mw_o _ _ _ _) rfl rfl (c_X8_goes l D cI cZ cJ b F c6) (cwV 3 X.2.2.2.2.1 gX8_placeOf_X8_goes rfl rfl rfl (by decide +kernel) ⟨Nat.le_of_ble_eq_true rfl, Nat.le_of_ble_eq_true rfl⟩) rfl hl rfl (Nat.le_of_ble_eq_true rfl) ⟨Nat.zero_le _, Nat.zero_le _⟩ dX8_placeOf_8 ?_
  refine x_if_eq (tgt := 23) X dX8_placeOf_11 rfl (fun q7 => ?_) (fun q7 => ?_)
  · have hf := (if_pos q7).symm.trans hf
    refine x_iconst X dX8_placeOf_23 xk_iconst_0 ?_
    exact b_X8_placeOf_24 X F (0 : Int32) s4 ls hf (lv_sub hl [] rfl)
  · have hf := (if_neg q7).symm.trans hf
    refine x_aload_n X dX8_placeOf_14 rfl hl 0 rfl ?_
    refine x_getf X in_X8_placeOf_X8 (mw_o _ _ _ _) rfl 19 (by decide) lk_X8_placeOf_57 rfl rfl dX8_placeOf_15 ?_
    refine x_iload_n X dX8_placeOf_18 rfl hl 1 rfl ?_
    obtain ⟨g8, hf⟩ := x_og_of hf
    refine x_iald X (1 + 12) 0 (mw_r12 _ _ _ _) rfl (x_in_of g8) dX8_placeOf_19 ?_
    refine x_goto (tgt := 24) X dX8_placeOf_20 rfl ?_
    exact b_X8_placeOf_24 X F (x_at s4 12 x1) s4 ls hf (lv_sub hl [] rfl)
def rm_X8_hops : Room := { frames := 1, cells := 0, slots := 0, locals := 23 }
theorem in_X8_hops_X8 : ∀ w ∈ wsX80, w ∈ wsX8_hops := by decide +kernel
theorem lk_X8_hops_60 : Cond.fieldLink RX8 60 "CreditfabricModel" "hops" "[I" ∈ wsX8_hops := by decide +kernel
set_option maxHeartbeats 4000000 in
set_option maxRecDepth 100000 in
theorem b_X8_hops_24 {p : Program} {l : Launch} {e : Env} {S0 : State} {m : MethodId} {args : Array Value} {below : List Frame} {meth : Method} {c : Code} {A : Nat → Prop} {D : va_G} {cI cZ cJ : ClassId} {b : Nat → Nat} (X : x_X p S0 m args meth c cX8_hops 2 (some .int) RX8 wsX8_hops D (x_tys cI cZ cJ) A) (F : Nat) {r : Int32} {s' : CS}  : ∀ (t0 : Int32) (s : CS) (ls : Array Slot), r_X8_hops_b24 F t0 s = some (r, s') → lv_has ls 2 [] → x_W p l e rm_X8_hops S0 m args below meth c A D (mwld cI cZ b) 0 0 (x_Ri below args S0 A D (mwld cI cZ b) r s') s (F0 m 24 ls [.int t0]) := by
  intro t0 s ls hf hl
  unfold r_X8_hops_b24 at hf
  exact x_iret X rfl rfl hf dX8_hops_24
set_option maxHeartbeats 4000000 in
set_option maxRecDepth 100000 in
theorem c_X8_hops (l : Launch) (D : va_G) (cI cZ cJ : ClassId) (b : Nat → Nat) (F : Nat) {s s' : CS} {r : Int32} {x1 : Int32} (hf : r_X8_hops F x1 s = some (r, s')) : x_Mi l yX8_hops wsX8_hops rm_X8_hops D (x_tys cI cZ cJ) (mwld cI cZ b) [.ref (b 0), .int x1] s r s' := by
  refine x_enteri (cc := cX8_hops) (nL := 2) (ty := .int) (own := RX8) (by decide) rfl rfl (Nat.le_of_ble_eq_true rfl) ?_
  intro p e S0 m args below meth c A X ls hl
  have hl : lv_has ls 2 [(0, .ref (b 0)), (1, .int x1)] := hl
  unfold r_X8_hops at hf
  refine x_aload_n X dX8_hops_0 rfl hl 0 rfl ?_
  refine x_aload_n X dX8_hops_1 rfl hl 0 rfl ?_
  refine x_iload_n X dX8_hops_2 rfl hl 1 rfl ?_
  obtain ⟨v2, s1, c3, hf⟩ := x_ob_of hf
  refine x_cVi X 0 8 (mw_o _ _ _ _) rfl rfl (c_X8_isPacket l D cI cZ cJ b F c3) (cwV 1 X.2.2.2.2.1 gX8_hops_X8_isPacket rfl rfl rfl (by decide +kernel) ⟨Nat.le_of_ble_eq_true rfl, Nat.le_of_ble_eq_true rfl⟩) rfl hl rfl (Nat.le_of_ble_eq_true rfl) ⟨Nat.zero_le _, Nat.zero_le _⟩ dX8_hops_3 ?_
  refine x_iconst X dX8_hops_6 xk_iconst_1 ?_
  refine x_iconst X dX8_hops_7 xk_iconst_1 ?_
  obtain ⟨v5, s4, c6, hf⟩ := x_ob_of hf
  refine x_cVi X 0 8 (mw_o _ _ _ _) rfl rfl (c_X8_goes l D cI cZ cJ b F c6) (cwV 3 X.2.2.2.2.1 gX8_hops_X8_goes rfl rfl rfl (by decide +kernel) ⟨Nat.le_of_ble_eq_true rfl, Nat.le_of_ble_eq_true rfl⟩) rfl hl rfl (Nat.le_of_ble_eq_true rfl) ⟨Nat.zero_le _, Nat.zero_le _⟩ dX8_hops_8 ?_
  refine x_if_eq (tgt := 23) X dX8_hops_11 rfl (fun q7 => ?_) (fun q7 => ?_)
  · have hf := (if_pos q7).symm.trans hf
    refine x_iconst X dX8_hops_23 xk_iconst_0 ?_
    exact b_X8_hops_24 X F (0 : Int32) s4 ls hf (lv_sub hl [] rfl)
  · have hf := (if_neg q7).symm.trans hf
    refine x_aload_n X dX8_hops_14 rfl hl 0 rfl ?_
    refine x_getf X in_X8_hops_X8 (mw_o _ _ _ _) rfl 20 (by decide) lk_X8_hops_60 rfl rfl dX8_hops_15 ?_
    refine x_iload_n X dX8_hops_18 rfl hl 1 rfl ?_
    obtain ⟨g8, hf⟩ := x_og_of hf
    refine x_iald X (1 + 13) 0 (mw_r13 _ _ _ _) rfl (x_in_of g8) dX8_hops_19 ?_
    refine x_goto (tgt := 24) X dX8_hops_20 rfl ?_
    exact b_X8_hops_24 X F (x_at s4 13 x1) s4 ls hf (lv_sub hl [] rfl)
def rm_X8_isMarked : Room := { frames := 1, cells := 0, slots := 0, locals := 23 }
theorem in_X8_isMarked_X8 : ∀ w ∈ wsX80, w ∈ wsX8_isMarked := by decide +kernel
theorem lk_X8_isMarked_63 : Cond.fieldLink RX8 63 "CreditfabricModel" "isMarked" "[Z" ∈ wsX8_isMarked := by decide +kernel
set_option maxHeartbeats 4000000 in
set_option maxRecDepth 100000 in
theorem b_X8_isMarked_28 {p : Program} {l : Launch} {e : Env} {S0 : State} {m : MethodId} {args : Array Value} {below : List Frame} {meth : Method} {c : Code} {A : Nat → Prop} {D : va_G} {cI cZ cJ : ClassId} {b : Nat → Nat} (X : x_X p S0 m args meth c cX8_isMarked 2 (some .boolean) RX8 wsX8_isMarked D (x_tys cI cZ cJ) A) (F : Nat) {r : Int32} {s' : CS}  : ∀ (t0 : Int32) (s : CS) (ls : Array Slot), r_X8_isMarked_b28 F t0 s = some (r, s') → lv_has ls 2 [] → x_W p l e rm_X8_isMarked S0 m args below meth c A D (mwld cI cZ b) 0 0 (x_Ri below args S0 A D (mwld cI cZ b) r s') s (F0 m 28 ls [.int t0]) := by
  intro t0 s ls hf hl
  unfold r_X8_isMarked_b28 at hf
  obtain ⟨g8, hf⟩ := x_og_of hf
  exact x_iret X rfl (x_bo_of g8) hf dX8_isMarked_28
set_option maxHeartbeats 4000000 in
set_option maxRecDepth 100000 in
theorem b_X8_isMarked_27 {p : Program} {l : Launch} {e : Env} {S0 : State} {m : MethodId} {args : Array Value} {below : List Frame} {meth : Method} {c : Code} {A : Nat → Prop} {D : va_G} {cI cZ cJ : ClassId} {b : Nat → Nat} (X : x_X p S0 m args meth c cX8_isMarked 2 (some .boolean) RX8 wsX8_isMarked D (x_tys cI cZ cJ) A) (F : Nat) {r : Int32} {s' : CS}  : ∀ (s : CS) (ls : Array Slot), r_X8_isMarked_b27 F s = some (r, s') → lv_has ls 2 [] → x_W p l e rm_X8_isMarked S0 m args below meth c A D (mwld cI cZ b) 0 0 (x_Ri below args S0 A D (mwld cI cZ b) r s') s (F0 m 27 ls []) := by
  intro s ls hf hl
  unfold r_X8_isMarked_b27 at hf
  refine x_iconst X dX8_isMarked_27 xk_iconst_0 ?_
  exact b_X8_isMarked_28 X F (0 : Int32) s ls hf (lv_sub hl [] rfl)
set_option maxHeartbeats 4000000 in
set_option maxRecDepth 100000 in
theorem c_X8_isMarked (l : Launch) (D : va_G) (cI cZ cJ : ClassId) (b : Nat → Nat) (F : Nat) {s s' : CS} {r : Int32} {x1 : Int32} (hf : r_X8_isMarked F x1 s = some (r, s')) : x_Mi l yX8_isMarked wsX8_isMarked rm_X8_isMarked D (x_tys cI cZ cJ) (mwld cI cZ b) [.ref (b 0), .int x1] s r s' := by
  refine x_enteri (cc := cX8_isMarked) (nL := 2) (ty := .boolean) (own := RX8) (by decide) rfl rfl (Nat.le_of_ble_eq_true rfl) ?_
  intro p e S0 m args below meth c A X ls hl
  have hl : lv_has ls 2 [(0, .ref (b 0)), (1, .int x1)] := hl
  unfold r_X8_isMarked at hf
  refine x_aload_n X dX8_isMarked_0 rfl hl 0 rfl ?_
  refine x_aload_n X dX8_isMarked_1 rfl hl 0 rfl ?_
  refine x_iload_n X dX8_isMarked_2 rfl hl 1 rfl ?_
  obtain ⟨v2, s1, c3, hf⟩ := x_ob_of hf
  refine x_cVi X 0 8 (mw_o _ _ _ _) rfl rfl (c_X8_isPacket l D cI cZ cJ b F c3) (cwV 1 X.2.2.2.2.1 gX8_isMarked_X8_isPacket rfl rfl rfl (by decide +kernel) ⟨Nat.le_of_ble_eq_true rfl, Nat.le_of_ble_eq_true rfl⟩) rfl hl rfl (Nat.le_of_ble_eq_true rfl) ⟨Nat.zero_le _, Nat.zero_le _⟩ dX8_isMarked_3 ?_
  refine x_iconst X dX8_isMarked_6 xk_iconst_1 ?_
  refine x_iconst X dX8_isMarked_7 xk_iconst_1 ?_
  obtain ⟨v5, s4, c6, hf⟩ := x_ob_of hf
  refine x_cVi X 0 8 (mw_o _ _ _ _) rfl rfl (c_X8_goes l D cI cZ cJ b F c6) (cwV 3 X.2.2.2.2.1 gX8_isMarked_X8_goes rfl rfl rfl (by decide +kernel) ⟨Nat.le_of_ble_eq_true rfl, Nat.le_of_ble_eq_true rfl⟩) rfl hl rfl (Nat.le_of_ble_eq_true rfl) ⟨Nat.zero_le _, Nat.zero_le _⟩ dX8_isMarked_8 ?_
  refine x_if_eq (tgt := 27) X dX8_isMarked_11 rfl (fun q7 => ?_) (fun q7 => ?_)
  · have hf := (if_pos q7).symm.trans hf
    exact b_X8_isMarked_27 X F s4 ls hf (lv_sub hl [] rfl)
  · have hf := (if_neg q7).symm.trans hf
    refine x_aload_n X dX8_isMarked_14 rfl hl 0 rfl ?_
    refine x_getf X in_X8_isMarked_X8 (mw_o _ _ _ _) rfl 21 (by decide) lk_X8_isMarked_63 rfl rfl dX8_isMarked_15 ?_
    refine x_iload_n X dX8_isMarked_18 rfl hl 1 rfl ?_
    obtain ⟨g9, hf⟩ := x_og_of hf
    refine x_zald X (1 + 14) 1 (mw_r14 _ _ _ _) rfl (x_in_of g9) dX8_isMarked_19 ?_
    refine x_if_eq (tgt := 27) X dX8_isMarked_20 rfl (fun q10 => ?_) (fun q10 => ?_)
    · have hf := (if_pos q10).symm.trans hf
      exact b_X8_isMarked_27 X F s4 ls hf (lv_sub hl [] rfl)
    · have hf := (if_neg q10).symm.trans hf
      refine x_iconst X dX8_isMarked_23 xk_iconst_1 ?_
      refine x_goto (tgt := 28) X dX8_isMarked_24 rfl ?_
      exact b_X8_isMarked_28 X F (1 : Int32) s4 ls hf (lv_sub hl [] rfl)
def rm_X8_wants : Room := { frames := 1, cells := 0, slots := 0, locals := 28 }
theorem in_X8_wants_X8 : ∀ w ∈ wsX80, w ∈ wsX8_wants := by decide +kernel
theorem lk_X8_wants_57 : Cond.fieldLink RX8 57 "CreditfabricModel" "place" "[I" ∈ wsX8_wants := by decide +kernel
set_option maxHeartbeats 4000000 in
set_option maxRecDepth 100000 in
theorem b_X8_wants_40 {p : Program} {l : Launch} {e : Env} {S0 : State} {m : MethodId} {args : Array Value} {below : List Frame} {meth : Method} {c : Code} {A : Nat → Prop} {D : va_G} {cI cZ cJ : ClassId} {b : Nat → Nat} (X : x_X p S0 m args meth c cX8_wants 2 (some .int) RX8 wsX8_wants D (x_tys cI cZ cJ) A) (F : Nat) {r : Int32} {s' : CS}  : ∀ (t0 : Int32) (s : CS) (ls : Array Slot), r_X8_wants_b40 F t0 s = some (r, s') → lv_has ls 2 [] → x_W p l e rm_X8_wants S0 m args below meth c A D (mwld cI cZ b) 0 0 (x_Ri below args S0 A D (mwld cI cZ b) r s') s (F0 m 40 ls [.int t0]) := by
  intro t0 s ls hf hl
  unfold r_X8_wants_b40 at hf
  exact x_iret X rfl rfl hf dX8_wants_40
set_option maxHeartbeats 4000000 in
set_option maxRecDepth 100000 in
theorem c_X8_wants (l : Launch) (D : va_G) (cI cZ cJ : ClassId) (b : Nat → Nat) (F : Nat) {s s' : CS} {r : Int32} {x1 : Int32} (hf : r_X8_wants F x1 s = some (r, s')) : x_Mi l yX8_wants wsX8_wants rm_X8_wants D (x_tys cI cZ cJ) (mwld cI cZ b) [.ref (b 0), .int x1] s r s' := by
  refine x_enteri (cc := cX8_wants) (nL := 2) (ty := .int) (own := RX8) (by decide) rfl rfl (Nat.le_of_ble_eq_true rfl) ?_
  intro p e S0 m args below meth c A X ls hl
  have hl : lv_has ls 2 [(0, .ref (b 0)), (1, .int x1)] := hl
  unfold r_X8_wants at hf
  refine x_aload_n X dX8_wants_0 rfl hl 0 rfl ?_
  refine x_aload_n X dX8_wants_1 rfl hl 0 rfl ?_
  refine x_iload_n X dX8_wants_2 rfl hl 1 rfl ?_
  obtain ⟨v2, s1, c3, hf⟩ := x_ob_of hf
  refine x_cVi X 0 8 (mw_o _ _ _ _) rfl rfl (c_X8_isPacket l D cI cZ cJ b F c3) (cwV 1 X.2.2.2.2.1 gX8_wants_X8_isPacket rfl rfl rfl (by decide +kernel) ⟨Nat.le_of_ble_eq_true rfl, Nat.le_of_ble_eq_true rfl⟩) rfl hl rfl (Nat.le_of_ble_eq_true rfl) ⟨Nat.zero_le _, Nat.zero_le _⟩ dX8_wants_3 ?_
  refine x_iconst X dX8_wants_6 xk_iconst_1 ?_
  refine x_iconst X dX8_wants_7 xk_iconst_1 ?_
  obtain ⟨v5, s4, c6, hf⟩ := x_ob_of hf
  refine x_cVi X 0 8 (mw_o _ _ _ _) rfl rfl (c_X8_goes l D cI cZ cJ b F c6) (cwV 3 X.2.2.2.2.1 gX8_wants_X8_goes rfl rfl rfl (by decide +kernel) ⟨Nat.le_of_ble_eq_true rfl, Nat.le_of_ble_eq_true rfl⟩) rfl hl rfl (Nat.le_of_ble_eq_true rfl) ⟨Nat.zero_le _, Nat.zero_le _⟩ dX8_wants_8 ?_
  refine x_if_ne (tgt := 16) X dX8_wants_11 rfl (fun q7 => ?_) (fun q7 => ?_)
  · have hf := (if_neg q7).symm.trans hf
    refine x_aload_n X dX8_wants_16 rfl hl 0 rfl ?_
    refine x_getf X in_X8_wants_X8 (mw_o _ _ _ _) rfl 19 (by decide) lk_X8_wants_57 rfl rfl dX8_wants_17 ?_
    refine x_iload_n X dX8_wants_20 rfl hl 1 rfl ?_
    obtain ⟨g8, hf⟩ := x_og_of hf
    refine x_iald X (1 + 12) 0 (mw_r12 _ _ _ _) rfl (x_in_of g8) dX8_wants_21 ?_
    refine x_if_ge (tgt := 29) X dX8_wants_22 rfl (fun q9 => ?_) (fun q9 => ?_)
    · have hf := (if_pos q9).symm.trans hf
      refine x_aload_n X dX8_wants_29 rfl hl 0 rfl ?_
      refine x_iload_n X dX8_wants_30 rfl hl 1 rfl ?_
      refine x_aload_n X dX8_wants_31 rfl hl 0 rfl ?_
      refine x_getf X in_X8_wants_X8 (mw_o _ _ _ _) rfl 19 (by decide) lk_X8_wants_57 rfl rfl dX8_wants_32 ?_
      refine x_iload_n X dX8_wants_35 rfl hl 1 rfl ?_
      obtain ⟨g10, hf⟩ := x_og_of hf
      refine x_iald X (1 + 12) 0 (mw_r12 _ _ _ _) rfl (x_in_of g10) dX8_wants_36 ?_
      obtain ⟨v12, s11, c13, hf⟩ := x_ob_of hf
      refine x_cVi X 0 8 (mw_o _ _ _ _) rfl rfl (c_X8_wanted l D cI cZ cJ b F c13) (cwV 2 X.2.2.2.2.1 gX8_wants_X8_wanted rfl rfl rfl (by decide +kernel) ⟨Nat.le_of_ble_eq_true rfl, Nat.le_of_ble_eq_true rfl⟩) rfl hl rfl (Nat.le_of_ble_eq_true rfl) ⟨Nat.zero_le _, Nat.zero_le _⟩ dX8_wants_37 ?_
      exact b_X8_wants_40 X F v12 s11 ls hf (lv_sub hl [] rfl)
    · have hf := (if_neg q9).symm.trans hf
      refine x_iconst X dX8_wants_25 xk_iconst_m1 ?_
      refine x_goto (tgt := 40) X dX8_wants_26 rfl ?_
      exact b_X8_wants_40 X F (-1 : Int32) s4 ls hf (lv_sub hl [] rfl)
  · have hf := (if_pos q7).symm.trans hf
    refine x_iconst X dX8_wants_14 xk_iconst_0 ?_
    exact x_iret X rfl rfl hf dX8_wants_15
def rm_X8_waitsFor : Room := { frames := 1, cells := 0, slots := 0, locals := 28 }
theorem in_X8_waitsFor_X8 : ∀ w ∈ wsX80, w ∈ wsX8_waitsFor := by decide +kernel
theorem lk_X8_waitsFor_16 : Cond.fieldLink RX8 16 "CreditfabricModel" "room" "I" ∈ wsX8_waitsFor := by decide +kernel
theorem lk_X8_waitsFor_19 : Cond.fieldLink RX8 19 "CreditfabricModel" "buffer" "[I" ∈ wsX8_waitsFor := by decide +kernel
theorem lk_X8_waitsFor_23 : Cond.fieldLink RX8 23 "CreditfabricModel" "many" "[I" ∈ wsX8_waitsFor := by decide +kernel
set_option maxHeartbeats 4000000 in
set_option maxRecDepth 100000 in
theorem b_X8_waitsFor_72 {p : Program} {l : Launch} {e : Env} {S0 : State} {m : MethodId} {args : Array Value} {below : List Frame} {meth : Method} {c : Code} {A : Nat → Prop} {D : va_G} {cI cZ cJ : ClassId} {b : Nat → Nat} (X : x_X p S0 m args meth c cX8_waitsFor 5 (some .int) RX8 wsX8_waitsFor D (x_tys cI cZ cJ) A) (F : Nat) {r : Int32} {s' : CS}  : ∀ (t0 : Int32) (s : CS) (ls : Array Slot), r_X8_waitsFor_b72 F t0 s = some (r, s') → lv_has ls 5 [] → x_W p l e rm_X8_waitsFor S0 m args below meth c A D (mwld cI cZ b) 0 0 (x_Ri below args S0 A D (mwld cI cZ b) r s') s (F0 m 72 ls [.int t0]) := by
  intro t0 s ls hf hl
  unfold r_X8_waitsFor_b72 at hf
  exact x_iret X rfl rfl hf dX8_waitsFor_72
set_option maxHeartbeats 4000000 in
set_option maxRecDepth 100000 in
theorem c_X8_waitsFor (l : Launch) (D : va_G) (cI cZ cJ : ClassId) (b : Nat → Nat) (F : Nat) {s s' : CS} {r : Int32} {x1 : Int32} (hf : r_X8_waitsFor F x1 s = some (r, s')) : x_Mi l yX8_waitsFor wsX8_waitsFor rm_X8_waitsFor D (x_tys cI cZ cJ) (mwld cI cZ b) [.ref (b 0), .int x1] s r s' := by
  refine x_enteri (cc := cX8_waitsFor) (nL := 5) (ty := .int) (own := RX8) (by decide) rfl rfl (Nat.le_of_ble_eq_true rfl) ?_
  intro p e S0 m args below meth c A X ls hl
  have hl : lv_has ls 5 [(0, .ref (b 0)), (1, .int x1)] := hl
  unfold r_X8_waitsFor at hf
  refine x_aload_n X dX8_waitsFor_0 rfl hl 0 rfl ?_
  refine x_getf X in_X8_waitsFor_X8 (mw_o _ _ _ _) rfl 8 (by decide) lk_X8_waitsFor_23 rfl rfl dX8_waitsFor_1 ?_
  refine x_iload_n X dX8_waitsFor_4 rfl hl 1 rfl ?_
  obtain ⟨g1, hf⟩ := x_og_of hf
  refine x_iald X (1 + 1) 0 (mw_r1 _ _ _ _) rfl (x_in_of g1) dX8_waitsFor_5 ?_
  refine x_if_ne (tgt := 11) X dX8_waitsFor_6 rfl (fun q2 => ?_) (fun q2 => ?_)
  · have hf := (if_neg q2).symm.trans hf
    refine x_iload_n X dX8_waitsFor_11 rfl hl 1 rfl ?_
    refine x_bipush X dX8_waitsFor_12 xk_bipush_10 ?_
    refine x_idiv X dX8_waitsFor_14 (by decide) ?_
    refine x_istore_n (lv' := [(0, .ref (b 0)), (1, .int x1)]) X dX8_waitsFor_15 rfl hl (by decide) (fun _ => rfl) (fun x2_3 ls ex2_3 hl => ?_)
    have hf := x_oi_of ex2_3 hf
    refine x_aload_n X dX8_waitsFor_16 rfl hl 1 rfl ?_
    refine x_aload_n X dX8_waitsFor_17 rfl hl 1 rfl ?_
    refine x_getf X in_X8_waitsFor_X8 (mw_o _ _ _ _) rfl 7 (by decide) lk_X8_waitsFor_19 rfl rfl dX8_waitsFor_18 ?_
    refine x_iconst X dX8_waitsFor_21 xk_iconst_3 ?_
    refine x_iload_n X dX8_waitsFor_22 rfl hl 2 rfl ?_
    refine x_imul X dX8_waitsFor_23 ?_
    obtain ⟨g4, hf⟩ := x_og_of hf
    refine x_iald X (1 + 0) 0 (mw_r0 _ _ _ _) rfl (x_in_of g4) dX8_waitsFor_24 ?_
    refine x_iload_n X dX8_waitsFor_25 rfl hl 0 rfl ?_
    obtain ⟨v6, s5, c7, hf⟩ := x_ob_of hf
    refine x_cVi X 0 8 (mw_o _ _ _ _) rfl rfl (c_X8_wanted l D cI cZ cJ b F c7) (cwV 2 X.2.2.2.2.1 gX8_waitsFor_X8_wanted rfl rfl rfl (by decide +kernel) ⟨Nat.le_of_ble_eq_true rfl, Nat.le_of_ble_eq_true rfl⟩) rfl hl rfl (Nat.le_of_ble_eq_true rfl) ⟨Nat.zero_le _, Nat.zero_le _⟩ dX8_waitsFor_26 ?_
    refine x_istoreA_n (lv' := [(3, .int v6), (2, .int x2_3), (0, .ref (b 0)), (1, .int x1)]) X dX8_waitsFor_29 rfl hl (by decide) rfl (fun ls hl => ?_)
    refine x_iload_n X dX8_waitsFor_30 rfl hl 0 rfl ?_
    refine x_iconst X dX8_waitsFor_31 xk_iconst_4 ?_
    refine x_icmp_ne (tgt := 37) X dX8_waitsFor_32 rfl (fun q8 => ?_) (fun q8 => ?_)
    · have hf := (if_neg q8).symm.trans hf
      refine x_aload_n X dX8_waitsFor_37 rfl hl 2 rfl ?_
      refine x_iload_n X dX8_waitsFor_38 rfl hl 1 rfl ?_
      refine x_iload_n X dX8_waitsFor_39 rfl hl 0 rfl ?_
      obtain ⟨v10, s9, c11, hf⟩ := x_ob_of hf
      refine x_cVi X 0 8 (mw_o _ _ _ _) rfl rfl (c_X8_neighbour l D cI cZ cJ b F c11) (cwV 2 X.2.2.2.2.1 gX8_waitsFor_X8_neighbour rfl rfl rfl (by decide +kernel) ⟨Nat.le_of_ble_eq_true rfl, Nat.le_of_ble_eq_true rfl⟩) rfl hl rfl (Nat.le_of_ble_eq_true rfl) ⟨Nat.zero_le _, Nat.zero_le _⟩ dX8_waitsFor_40 ?_
      refine x_iload_n X dX8_waitsFor_43 rfl hl 0 rfl ?_
      refine x_iload_n X dX8_waitsFor_44 rfl hl 3 rfl ?_
      refine x_iconst X dX8_waitsFor_45 xk_iconst_2 ?_
      refine x_irem X dX8_waitsFor_46 (by decide) ?_
      obtain ⟨v13, s12, c14, hf⟩ := x_ob_of hf
      refine x_cSi X (c_X8_bufferOf l D cI cZ cJ b F c14) (va_cwS 3 X.2.2.2.2.1 gX8_waitsFor_X8_bufferOf rfl rfl rfl (by decide +kernel) ⟨Nat.le_of_ble_eq_true rfl, Nat.le_of_ble_eq_true rfl⟩) rfl hl rfl (Nat.le_of_ble_eq_true rfl) ⟨Nat.zero_le _, Nat.zero_le _⟩ dX8_waitsFor_47 ?_
      refine x_istoreA (lv' := [(4, .int v13), (3, .int v6), (2, .int x2_3), (0, .ref (b 0)), (1, .int x1)]) X dX8_waitsFor_50 hl (by decide) rfl (fun ls hl => ?_)
      refine x_aload_n X dX8_waitsFor_52 rfl hl 3 rfl ?_
      refine x_getf X in_X8_waitsFor_X8 (mw_o _ _ _ _) rfl 8 (by decide) lk_X8_waitsFor_23 rfl rfl dX8_waitsFor_53 ?_
      refine x_iload X dX8_waitsFor_56 hl 0 rfl ?_
      obtain ⟨g15, hf⟩ := x_og_of hf
      refine x_iald X (1 + 1) 0 (mw_r1 _ _ _ _) rfl (x_in_of g15) dX8_waitsFor_58 ?_
      refine x_aload_n X dX8_waitsFor_59 rfl hl 3 rfl ?_
      refine x_getf X in_X8_waitsFor_X8 (mw_o _ _ _ _) rfl 2 (by decide) lk_X8_waitsFor_16 rfl rfl dX8_waitsFor_60 ?_
      refine x_icmp_ne (tgt := 71) X dX8_waitsFor_63 rfl (fun q16 => ?_) (fun q16 => ?_)
      · have hf := (if_neg q16).symm.trans hf
        refine x_iconst X dX8_waitsFor_71 xk_iconst_m1 ?_
        exact b_X8_waitsFor_72 X F (-1 : Int32) s12 ls hf (lv_sub hl [] rfl)
      · have hf := (if_pos q16).symm.trans hf
        refine x_iload X dX8_waitsFor_66 hl 0 rfl ?_
        refine x_goto (tgt := 72) X dX8_waitsFor_68 rfl ?_
        exact b_X8_waitsFor_72 X F v13 s12 ls hf (lv_sub hl [] rfl)
    · have hf := (if_pos q8).symm.trans hf
      refine x_iconst X dX8_waitsFor_35 xk_iconst_m1 ?_
      exact x_iret X rfl rfl hf dX8_waitsFor_36
  · have hf := (if_pos q2).symm.trans hf
    refine x_iconst X dX8_waitsFor_9 xk_iconst_m1 ?_
    exact x_iret X rfl rfl hf dX8_waitsFor_10
def rm_X8_circle : Room := { frames := 2, cells := 0, slots := 0, locals := 52 }
theorem in_X8_circle_X8 : ∀ w ∈ wsX80, w ∈ wsX8_circle := by decide +kernel
theorem lk_X8_circle_7 : Cond.fieldLink RX8 7 "CreditfabricModel" "columns" "I" ∈ wsX8_circle := by decide +kernel
theorem lk_X8_circle_13 : Cond.fieldLink RX8 13 "CreditfabricModel" "rows" "I" ∈ wsX8_circle := by decide +kernel
theorem lk_X8_circle_79 : Cond.fieldLink RX8 79 "CreditfabricModel" "thrown" "I" ∈ wsX8_circle := by decide +kernel
set_option maxHeartbeats 4000000 in
set_option maxRecDepth 100000 in
theorem b_X8_circle_80 {p : Program} {l : Launch} {e : Env} {S0 : State} {m : MethodId} {args : Array Value} {below : List Frame} {meth : Method} {c : Code} {A : Nat → Prop} {D : va_G} {cI cZ cJ : ClassId} {b : Nat → Nat} (X : x_X p S0 m args meth c cX8_circle 6 (some .int) RX8 wsX8_circle D (x_tys cI cZ cJ) A) (F : Nat) {r : Int32} {s' : CS} (K22 : Int32 → Int32 → Int32 → CS → Option (Int32 × CS)) (hK22 : ∀ (x1 x2 x3 : Int32) (s : CS) (ls : Array Slot), K22 x1 x2 x3 s = some (r, s') → lv_has ls 6 [(0, .ref (b 0)), (1, .int x1), (2, .int x2), (3, .int x3)] → x_W p l e rm_X8_circle S0 m args below meth c A D (mwld cI cZ b) 0 0 (x_Ri below args S0 A D (mwld cI cZ b) r s') s (F0 m 22 ls [])) : ∀ (x1 x3 t0 t1 : Int32) (s : CS) (ls : Array Slot), r_X8_circle_b80 K22 F x1 x3 t0 t1 s = some (r, s') → lv_has ls 6 [(0, .ref (b 0)), (1, .int x1), (3, .int x3)] → x_W p l e rm_X8_circle S0 m args below meth c A D (mwld cI cZ b) 0 0 (x_Ri below args S0 A D (mwld cI cZ b) r s') s (F0 m 80 ls [.int t0, .int t1]) := by
  intro x1 x3 t0 t1 s ls hf hl
  unfold r_X8_circle_b80 at hf
  refine x_iadd X dX8_circle_80 ?_
  refine x_istore_n (lv' := [(0, .ref (b 0)), (1, .int x1), (3, .int x3)]) X dX8_circle_81 rfl hl (by decide) (fun _ => rfl) (fun x2_9 ls ex2_9 hl => ?_)
  have hf := x_oi_of ex2_9 hf
  refine x_iinc (v := (x3 + (1 : Int32))) (lv' := [(3, .int (x3 + (1 : Int32))), (2, .int x2_9), (0, .ref (b 0)), (1, .int x1)]) X dX8_circle_82 hl (j := 3) rfl rfl (by decide) rfl (fun ls hl => ?_)
  refine x_goto (tgt := 22) X dX8_circle_85 rfl ?_
  exact hK22 x1 x2_9 (x3 + (1 : Int32)) s ls hf (lv_sub hl [2, 3, 1, 0] rfl)
set_option maxHeartbeats 4000000 in
set_option maxRecDepth 100000 in
theorem b_X8_circle_68 {p : Program} {l : Launch} {e : Env} {S0 : State} {m : MethodId} {args : Array Value} {below : List Frame} {meth : Method} {c : Code} {A : Nat → Prop} {D : va_G} {cI cZ cJ : ClassId} {b : Nat → Nat} (X : x_X p S0 m args meth c cX8_circle 6 (some .int) RX8 wsX8_circle D (x_tys cI cZ cJ) A) (F : Nat) {r : Int32} {s' : CS} (K22 : Int32 → Int32 → Int32 → CS → Option (Int32 × CS)) (hK22 : ∀ (x1 x2 x3 : Int32) (s : CS) (ls : Array Slot), K22 x1 x2 x3 s = some (r, s') → lv_has ls 6 [(0, .ref (b 0)), (1, .int x1), (2, .int x2), (3, .int x3)] → x_W p l e rm_X8_circle S0 m args below meth c A D (mwld cI cZ b) 0 0 (x_Ri below args S0 A D (mwld cI cZ b) r s') s (F0 m 22 ls [])) : ∀ (x1 x2 x3 x4 : Int32) (s : CS) (ls : Array Slot), r_X8_circle_b68 K22 F x1 x2 x3 x4 s = some (r, s') → lv_has ls 6 [(0, .ref (b 0)), (1, .int x1), (2, .int x2), (3, .int x3), (4, .int x4)] → x_W p l e rm_X8_circle S0 m args below meth c A D (mwld cI cZ b) 0 0 (x_Ri below args S0 A D (mwld cI cZ b) r s') s (F0 m 68 ls []) := by
  intro x1 x2 x3 x4 s ls hf hl
  unfold r_X8_circle_b68 at hf
  refine x_iload_n X dX8_circle_68 rfl hl 2 rfl ?_
  refine x_iload X dX8_circle_69 hl 4 rfl ?_
  refine x_iload_n X dX8_circle_71 rfl hl 3 rfl ?_
  refine x_icmp_ne (tgt := 79) X dX8_circle_72 rfl (fun q8 => ?_) (fun q8 => ?_)
  · have hf := (if_neg q8).symm.trans hf
    refine x_iconst X dX8_circle_79 xk_iconst_0 ?_
    exact b_X8_circle_80 X F _ hK22 x1 x3 (0 : Int32) x2 s ls hf (lv_sub hl [0, 1, 3] rfl)
  · have hf := (if_pos q8).symm.trans hf
    refine x_iconst X dX8_circle_75 xk_iconst_1 ?_
    refine x_goto (tgt := 80) X dX8_circle_76 rfl ?_
    exact b_X8_circle_80 X F _ hK22 x1 x3 (1 : Int32) x2 s ls hf (lv_sub hl [0, 1, 3] rfl)
set_option maxHeartbeats 4000000 in
set_option maxRecDepth 100000 in
theorem b_X8_circle_37 {p : Program} {l : Launch} {e : Env} {S0 : State} {m : MethodId} {args : Array Value} {below : List Frame} {meth : Method} {c : Code} {A : Nat → Prop} {D : va_G} {cI cZ cJ : ClassId} {b : Nat → Nat} (X : x_X p S0 m args meth c cX8_circle 6 (some .int) RX8 wsX8_circle D (x_tys cI cZ cJ) A) (F : Nat) {r : Int32} {s' : CS} (K22 : Int32 → Int32 → Int32 → CS → Option (Int32 × CS)) (hK22 : ∀ (x1 x2 x3 : Int32) (s : CS) (ls : Array Slot), K22 x1 x2 x3 s = some (r, s') → lv_has ls 6 [(0, .ref (b 0)), (1, .int x1), (2, .int x2), (3, .int x3)] → x_W p l e rm_X8_circle S0 m args below meth c A D (mwld cI cZ b) 0 0 (x_Ri below args S0 A D (mwld cI cZ b) r s') s (F0 m 22 ls [])) : ∀ (n : Nat) (x1 x2 x3 x4 x5 : Int32) (s : CS) (ls : Array Slot), r_X8_circle_b37 K22 F n x1 x2 x3 x4 x5 s = some (r, s') → lv_has ls 6 [(0, .ref (b 0)), (1, .int x1), (2, .int x2), (3, .int x3), (4, .int x4), (5, .int x5)] → x_W p l e rm_X8_circle S0 m args below meth c A D (mwld cI cZ b) 0 0 (x_Ri below args S0 A D (mwld cI cZ b) r s') s (F0 m 37 ls []) := by
  intro n
  induction n with
  | zero =>
    intro x1 x2 x3 x4 x5 s ls hf hl
    have hf : (none : Option (Int32 × CS)) = some (r, s') := hf
    cases hf
  | succ n ih =>
    intro x1 x2 x3 x4 x5 s ls hf hl
    rw [r_X8_circle_b37_s] at hf
    refine x_iload X dX8_circle_37 hl 5 rfl ?_
    refine x_iload_n X dX8_circle_39 rfl hl 1 rfl ?_
    refine x_icmp_ge (tgt := 68) X dX8_circle_40 rfl (fun q7 => ?_) (fun q7 => ?_)
    · have hf := (if_pos q7).symm.trans hf
      exact b_X8_circle_68 X F _ hK22 x1 x2 x3 x4 s ls hf (lv_sub hl [0, 1, 2, 3, 4] rfl)
    · have hf := (if_neg q7).symm.trans hf
      refine x_iload X dX8_circle_43 hl 4 rfl ?_
      refine x_if_lt (tgt := 68) X dX8_circle_45 rfl (fun q10 => ?_) (fun q10 => ?_)
      · have hf := (if_pos q10).symm.trans hf
        exact b_X8_circle_68 X F _ hK22 x1 x2 x3 x4 s ls hf (lv_sub hl [0, 1, 2, 3, 4] rfl)
      · have hf := (if_neg q10).symm.trans hf
        refine x_iload X dX8_circle_48 hl 4 rfl ?_
        refine x_iload_n X dX8_circle_50 rfl hl 3 rfl ?_
        refine x_icmp_eq (tgt := 68) X dX8_circle_51 rfl (fun q11 => ?_) (fun q11 => ?_)
        · have hf := (if_pos q11).symm.trans hf
          exact b_X8_circle_68 X F _ hK22 x1 x2 x3 x4 s ls hf (lv_sub hl [0, 1, 2, 3, 4] rfl)
        · have hf := (if_neg q11).symm.trans hf
          refine x_aload_n X dX8_circle_54 rfl hl 0 rfl ?_
          refine x_iload X dX8_circle_55 hl 4 rfl ?_
          obtain ⟨v13, s12, c14, hf⟩ := x_ob_of hf
          refine x_cVi X 0 8 (mw_o _ _ _ _) rfl rfl (c_X8_waitsFor l D cI cZ cJ b F c14) (cwV 1 X.2.2.2.2.1 gX8_circle_X8_waitsFor rfl rfl rfl (by decide +kernel) ⟨Nat.le_of_ble_eq_true rfl, Nat.le_of_ble_eq_true rfl⟩) rfl hl rfl (Nat.le_of_ble_eq_true rfl) ⟨Nat.zero_le _, Nat.zero_le _⟩ dX8_circle_57 ?_
          refine x_istoreA (lv' := [(4, .int v13), (0, .ref (b 0)), (1, .int x1), (2, .int x2), (3, .int x3), (5, .int x5)]) X dX8_circle_60 hl (by decide) rfl (fun ls hl => ?_)
          refine x_iinc (v := (x5 + (1 : Int32))) (lv' := [(5, .int (x5 + (1 : Int32))), (4, .int v13), (0, .ref (b 0)), (1, .int x1), (2, .int x2), (3, .int x3)]) X dX8_circle_62 hl (j := 5) rfl rfl (by decide) rfl (fun ls hl => ?_)
          refine x_goto (tgt := 37) X dX8_circle_65 rfl ?_
          exact ih x1 x2 x3 v13 (x5 + (1 : Int32)) s12 ls hf (lv_sub hl [2, 3, 4, 5, 1, 0] rfl)
set_option maxHeartbeats 4000000 in
set_option maxRecDepth 100000 in
theorem b_X8_circle_22 {p : Program} {l : Launch} {e : Env} {S0 : State} {m : MethodId} {args : Array Value} {below : List Frame} {meth : Method} {c : Code} {A : Nat → Prop} {D : va_G} {cI cZ cJ : ClassId} {b : Nat → Nat} (X : x_X p S0 m args meth c cX8_circle 6 (some .int) RX8 wsX8_circle D (x_tys cI cZ cJ) A) (F : Nat) {r : Int32} {s' : CS}  : ∀ (n : Nat) (x1 x2 x3 : Int32) (s : CS) (ls : Array Slot), r_X8_circle_b22 F n x1 x2 x3 s = some (r, s') → lv_has ls 6 [(0, .ref (b 0)), (1, .int x1), (2, .int x2), (3, .int x3)] → x_W p l e rm_X8_circle S0 m args below meth c A D (mwld cI cZ b) 0 0 (x_Ri below args S0 A D (mwld cI cZ b) r s') s (F0 m 22 ls []) := by
  intro n
  induction n with
  | zero =>
    intro x1 x2 x3 s ls hf hl
    have hf : (none : Option (Int32 × CS)) = some (r, s') := hf
    cases hf
  | succ n ih =>
    intro x1 x2 x3 s ls hf hl
    rw [r_X8_circle_b22_s] at hf
    refine x_iload_n X dX8_circle_22 rfl hl 3 rfl ?_
    refine x_iload_n X dX8_circle_23 rfl hl 1 rfl ?_
    refine x_icmp_ge (tgt := 88) X dX8_circle_24 rfl (fun q3 => ?_) (fun q3 => ?_)
    · have hf := (if_pos q3).symm.trans hf
      refine x_iload_n X dX8_circle_88 rfl hl 2 rfl ?_
      exact x_iret X rfl rfl hf dX8_circle_89
    · have hf := (if_neg q3).symm.trans hf
      refine x_aload_n X dX8_circle_27 rfl hl 0 rfl ?_
      refine x_iload_n X dX8_circle_28 rfl hl 3 rfl ?_
      obtain ⟨v5, s4, c6, hf⟩ := x_ob_of hf
      refine x_cVi X 0 8 (mw_o _ _ _ _) rfl rfl (c_X8_waitsFor l D cI cZ cJ b F c6) (cwV 1 X.2.2.2.2.1 gX8_circle_X8_waitsFor rfl rfl rfl (by decide +kernel) ⟨Nat.le_of_ble_eq_true rfl, Nat.le_of_ble_eq_true rfl⟩) rfl hl rfl (Nat.le_of_ble_eq_true rfl) ⟨Nat.zero_le _, Nat.zero_le _⟩ dX8_circle_29 ?_
      refine x_istoreA (lv' := [(4, .int v5), (0, .ref (b 0)), (1, .int x1), (2, .int x2), (3, .int x3)]) X dX8_circle_32 hl (by decide) rfl (fun ls hl => ?_)
      refine x_iconst X dX8_circle_34 xk_iconst_0 ?_
      refine x_istoreA (lv' := [(5, .int (0 : Int32)), (4, .int v5), (0, .ref (b 0)), (1, .int x1), (2, .int x2), (3, .int x3)]) X dX8_circle_35 hl (by decide) rfl (fun ls hl => ?_)
      exact b_X8_circle_37 X F _ ih F x1 x2 x3 v5 (0 : Int32) s4 ls hf (lv_sub hl [2, 3, 4, 5, 1, 0] rfl)
set_option maxHeartbeats 4000000 in
set_option maxRecDepth 100000 in
theorem c_X8_circle (l : Launch) (D : va_G) (cI cZ cJ : ClassId) (b : Nat → Nat) (F : Nat) {s s' : CS} {r : Int32} (hf : r_X8_circle F s = some (r, s')) : x_Mi l yX8_circle wsX8_circle rm_X8_circle D (x_tys cI cZ cJ) (mwld cI cZ b) [.ref (b 0)] s r s' := by
  refine x_enteri (cc := cX8_circle) (nL := 6) (ty := .int) (own := RX8) (by decide) rfl rfl (Nat.le_of_ble_eq_true rfl) ?_
  intro p e S0 m args below meth c A X ls hl
  have hl : lv_has ls 6 [(0, .ref (b 0))] := hl
  unfold r_X8_circle at hf
  refine x_aload_n X dX8_circle_0 rfl hl 0 rfl ?_
  refine x_iconst X dX8_circle_1 xk_iconst_0 ?_
  refine x_puti X in_X8_circle_X8 (mw_o _ _ _ _) rfl 25 (by decide) tyX8 tyX8_ok nmX8 lk_X8_circle_79 rfl rfl (by decide +kernel) (Nat.le_of_ble_eq_true rfl) (mw_s7 _ _ _ _ _) dX8_circle_2 (fun s1 es1 => ?_)
  have hf := x_os_of es1 hf
  refine x_aload_n X dX8_circle_5 rfl hl 0 rfl ?_
  refine x_getf X in_X8_circle_X8 (mw_o _ _ _ _) rfl 0 (by decide) lk_X8_circle_7 rfl rfl dX8_circle_6 ?_
  refine x_aload_n X dX8_circle_9 rfl hl 0 rfl ?_
  refine x_getf X in_X8_circle_X8 (mw_o _ _ _ _) rfl 1 (by decide) lk_X8_circle_13 rfl rfl dX8_circle_10 ?_
  refine x_imul X dX8_circle_13 ?_
  refine x_bipush X dX8_circle_14 xk_bipush_10 ?_
  refine x_imul X dX8_circle_16 ?_
  refine x_istore_n (lv' := [(0, .ref (b 0))]) X dX8_circle_17 rfl hl (by decide) (fun _ => rfl) (fun x1_2 ls ex1_2 hl => ?_)
  have hf := x_oi_of ex1_2 hf
  refine x_iconst X dX8_circle_18 xk_iconst_0 ?_
  refine x_istoreA_n (lv' := [(2, .int (0 : Int32)), (1, .int x1_2), (0, .ref (b 0))]) X dX8_circle_19 rfl hl (by decide) rfl (fun ls hl => ?_)
  refine x_iconst X dX8_circle_20 xk_iconst_0 ?_
  refine x_istoreA_n (lv' := [(3, .int (0 : Int32)), (2, .int (0 : Int32)), (1, .int x1_2), (0, .ref (b 0))]) X dX8_circle_21 rfl hl (by decide) rfl (fun ls hl => ?_)
  exact b_X8_circle_22 X F F x1_2 (0 : Int32) (0 : Int32) s1 ls hf (lv_sub hl [3, 2, 1, 0] rfl)
def rm_X8_lays : Room := { frames := 1, cells := 0, slots := 0, locals := 28 }
theorem in_X8_lays_X8 : ∀ w ∈ wsX80, w ∈ wsX8_lays := by decide +kernel
theorem lk_X8_lays_7 : Cond.fieldLink RX8 7 "CreditfabricModel" "columns" "I" ∈ wsX8_lays := by decide +kernel
theorem lk_X8_lays_13 : Cond.fieldLink RX8 13 "CreditfabricModel" "rows" "I" ∈ wsX8_lays := by decide +kernel
theorem lk_X8_lays_19 : Cond.fieldLink RX8 19 "CreditfabricModel" "buffer" "[I" ∈ wsX8_lays := by decide +kernel
theorem lk_X8_lays_23 : Cond.fieldLink RX8 23 "CreditfabricModel" "many" "[I" ∈ wsX8_lays := by decide +kernel
theorem lk_X8_lays_51 : Cond.fieldLink RX8 51 "CreditfabricModel" "lane" "[I" ∈ wsX8_lays := by decide +kernel
theorem lk_X8_lays_69 : Cond.fieldLink RX8 69 "CreditfabricModel" "hangs" "[Z" ∈ wsX8_lays := by decide +kernel
set_option maxHeartbeats 4000000 in
set_option maxRecDepth 100000 in
theorem b_X8_lays_77 {p : Program} {l : Launch} {e : Env} {S0 : State} {m : MethodId} {args : Array Value} {below : List Frame} {meth : Method} {c : Code} {A : Nat → Prop} {D : va_G} {cI cZ cJ : ClassId} {b : Nat → Nat} (X : x_X p S0 m args meth c cX8_lays 7 none RX8 wsX8_lays D (x_tys cI cZ cJ) A) (F : Nat) {r : Int32} {s' : CS} (K42 : Int32 → Int32 → CS → Option (Int32 × CS)) (hK42 : ∀ (x1 x2 : Int32) (s : CS) (ls : Array Slot), K42 x1 x2 s = some (r, s') → lv_has ls 7 [(0, .ref (b 0)), (1, .int x1), (2, .int x2)] → x_W p l e rm_X8_lays S0 m args below meth c A D (mwld cI cZ b) 0 0 (x_Rv below args S0 A D (mwld cI cZ b) s') s (F0 m 42 ls [])) : ∀ (n : Nat) (x1 x2 x3 x4 x5 : Int32) (s : CS) (ls : Array Slot), r_X8_lays_b77 K42 F n x1 x2 x3 x4 x5 s = some (r, s') → lv_has ls 7 [(0, .ref (b 0)), (1, .int x1), (2, .int x2), (3, .int x3), (4, .int x4), (5, .int x5)] → x_W p l e rm_X8_lays S0 m args below meth c A D (mwld cI cZ b) 0 0 (x_Rv below args S0 A D (mwld cI cZ b) s') s (F0 m 77 ls []) := by
  intro n
  induction n with
  | zero =>
    intro x1 x2 x3 x4 x5 s ls hf hl
    have hf : (none : Option (Int32 × CS)) = some (r, s') := hf
    cases hf
  | succ n ih =>
    intro x1 x2 x3 x4 x5 s ls hf hl
    rw [r_X8_lays_b77_s] at hf
    refine x_iload X dX8_lays_77 hl 5 rfl ?_
    refine x_iconst X dX8_lays_79 xk_iconst_4 ?_
    refine x_icmp_ge (tgt := 141) X dX8_lays_80 rfl (fun q10 => ?_) (fun q10 => ?_)
    · have hf := (if_pos q10).symm.trans hf
      refine x_iinc (v := (x2 + (1 : Int32))) (lv' := [(2, .int (x2 + (1 : Int32))), (0, .ref (b 0)), (1, .int x1), (3, .int x3), (4, .int x4), (5, .int x5)]) X dX8_lays_141 hl (j := 2) rfl rfl (by decide) rfl (fun ls hl => ?_)
      refine x_goto (tgt := 42) X dX8_lays_144 rfl ?_
      exact hK42 x1 (x2 + (1 : Int32)) s ls hf (lv_sub hl [1, 2, 0] rfl)
    · have hf := (if_neg q10).symm.trans hf
      refine x_aload_n X dX8_lays_83 rfl hl 0 rfl ?_
      refine x_iload X dX8_lays_84 hl 4 rfl ?_
      refine x_bipush X dX8_lays_86 xk_bipush_10 ?_
      refine x_idiv X dX8_lays_88 (by decide) ?_
      refine x_iload X dX8_lays_89 hl 5 rfl ?_
      obtain ⟨v12, s11, c13, hf⟩ := x_ob_of hf
      refine x_cVi X 0 8 (mw_o _ _ _ _) rfl rfl (c_X8_neighbour l D cI cZ cJ b F c13) (cwV 2 X.2.2.2.2.1 gX8_lays_X8_neighbour rfl rfl rfl (by decide +kernel) ⟨Nat.le_of_ble_eq_true rfl, Nat.le_of_ble_eq_true rfl⟩) rfl hl rfl (Nat.le_of_ble_eq_true rfl) ⟨Nat.zero_le _, Nat.zero_le _⟩ dX8_lays_91 ?_
      refine x_iload X dX8_lays_94 hl 5 rfl ?_
      refine x_aload_n X dX8_lays_96 rfl hl 0 rfl ?_
      refine x_getf X in_X8_lays_X8 (mw_o _ _ _ _) rfl 17 (by decide) lk_X8_lays_51 rfl rfl dX8_lays_97 ?_
      refine x_iload_n X dX8_lays_100 rfl hl 3 rfl ?_
      obtain ⟨g14, hf⟩ := x_og_of hf
      refine x_iald X (1 + 10) 0 (mw_r10 _ _ _ _) rfl (x_in_of g14) dX8_lays_101 ?_
      obtain ⟨v16, s15, c17, hf⟩ := x_ob_of hf
      refine x_cSi X (c_X8_bufferOf l D cI cZ cJ b F c17) (va_cwS 3 X.2.2.2.2.1 gX8_lays_X8_bufferOf rfl rfl rfl (by decide +kernel) ⟨Nat.le_of_ble_eq_true rfl, Nat.le_of_ble_eq_true rfl⟩) rfl hl rfl (Nat.le_of_ble_eq_true rfl) ⟨Nat.zero_le _, Nat.zero_le _⟩ dX8_lays_102 ?_
      refine x_istoreA (lv' := [(6, .int v16), (0, .ref (b 0)), (1, .int x1), (2, .int x2), (3, .int x3), (4, .int x4), (5, .int x5)]) X dX8_lays_105 hl (by decide) rfl (fun ls hl => ?_)
      refine x_aload_n X dX8_lays_107 rfl hl 1 rfl ?_
      refine x_getf X in_X8_lays_X8 (mw_o _ _ _ _) rfl 23 (by decide) lk_X8_lays_69 rfl rfl dX8_lays_108 ?_
      refine x_sipush X dX8_lays_111 xk_sipush_160 ?_
      refine x_iload X dX8_lays_114 hl 5 rfl ?_
      refine x_imul X dX8_lays_116 ?_
      refine x_iload X dX8_lays_117 hl 0 rfl ?_
      refine x_iadd X dX8_lays_119 ?_
      refine x_iconst X dX8_lays_120 xk_iconst_1 ?_
      obtain ⟨g18, hf⟩ := x_og_of hf
      refine x_zast X (1 + 16) 1 (mw_r16 _ _ _ _) rfl (x_in_of g18) (mw_a16 _ _ _ _ _ _) dX8_lays_121 (fun s19 es19 => ?_)
      have hf := x_os_of es19 hf
      refine x_iload X dX8_lays_122 hl 0 rfl ?_
      refine x_istoreA (lv' := [(4, .int v16), (6, .int v16), (0, .ref (b 0)), (1, .int x1), (2, .int x2), (3, .int x3), (5, .int x5)]) X dX8_lays_124 hl (by decide) rfl (fun ls hl => ?_)
      refine x_aload_n X dX8_lays_126 rfl hl 2 rfl ?_
      refine x_iload_n X dX8_lays_127 rfl hl 5 rfl ?_
      refine x_iload X dX8_lays_128 hl 0 rfl ?_
      refine x_bipush X dX8_lays_130 xk_bipush_10 ?_
      refine x_idiv X dX8_lays_132 (by decide) ?_
      obtain ⟨v21, s20, c22, hf⟩ := x_ob_of hf
      refine x_cVi X 0 8 (mw_o _ _ _ _) rfl rfl (c_X8_wanted l D cI cZ cJ b F c22) (cwV 2 X.2.2.2.2.1 gX8_lays_X8_wanted rfl rfl rfl (by decide +kernel) ⟨Nat.le_of_ble_eq_true rfl, Nat.le_of_ble_eq_true rfl⟩) rfl hl rfl (Nat.le_of_ble_eq_true rfl) ⟨Nat.zero_le _, Nat.zero_le _⟩ dX8_lays_133 ?_
      refine x_istoreA (lv' := [(5, .int v21), (4, .int v16), (6, .int v16), (0, .ref (b 0)), (1, .int x1), (2, .int x2), (3, .int x3)]) X dX8_lays_136 hl (by decide) rfl (fun ls hl => ?_)
      refine x_goto (tgt := 77) X dX8_lays_138 rfl ?_
      exact ih x1 x2 x3 v16 v21 s20 ls hf (lv_sub hl [3, 4, 5, 6, 1, 0] rfl)
set_option maxHeartbeats 4000000 in
set_option maxRecDepth 100000 in
theorem b_X8_lays_42 {p : Program} {l : Launch} {e : Env} {S0 : State} {m : MethodId} {args : Array Value} {below : List Frame} {meth : Method} {c : Code} {A : Nat → Prop} {D : va_G} {cI cZ cJ : ClassId} {b : Nat → Nat} (X : x_X p S0 m args meth c cX8_lays 7 none RX8 wsX8_lays D (x_tys cI cZ cJ) A) (F : Nat) {r : Int32} {s' : CS} (K24 : Int32 → CS → Option (Int32 × CS)) (hK24 : ∀ (x1 : Int32) (s : CS) (ls : Array Slot), K24 x1 s = some (r, s') → lv_has ls 7 [(0, .ref (b 0)), (1, .int x1)] → x_W p l e rm_X8_lays S0 m args below meth c A D (mwld cI cZ b) 0 0 (x_Rv below args S0 A D (mwld cI cZ b) s') s (F0 m 24 ls [])) : ∀ (n : Nat) (x1 x2 : Int32) (s : CS) (ls : Array Slot), r_X8_lays_b42 K24 F n x1 x2 s = some (r, s') → lv_has ls 7 [(0, .ref (b 0)), (1, .int x1), (2, .int x2)] → x_W p l e rm_X8_lays S0 m args below meth c A D (mwld cI cZ b) 0 0 (x_Rv below args S0 A D (mwld cI cZ b) s') s (F0 m 42 ls []) := by
  intro n
  induction n with
  | zero =>
    intro x1 x2 s ls hf hl
    have hf : (none : Option (Int32 × CS)) = some (r, s') := hf
    cases hf
  | succ n ih =>
    intro x1 x2 s ls hf hl
    rw [r_X8_lays_b42_s] at hf
    refine x_iload_n X dX8_lays_42 rfl hl 2 rfl ?_
    refine x_aload_n X dX8_lays_43 rfl hl 0 rfl ?_
    refine x_getf X in_X8_lays_X8 (mw_o _ _ _ _) rfl 8 (by decide) lk_X8_lays_23 rfl rfl dX8_lays_44 ?_
    refine x_iload_n X dX8_lays_47 rfl hl 1 rfl ?_
    obtain ⟨g3, hf⟩ := x_og_of hf
    refine x_iald X (1 + 1) 0 (mw_r1 _ _ _ _) rfl (x_in_of g3) dX8_lays_48 ?_
    refine x_icmp_ge (tgt := 147) X dX8_lays_49 rfl (fun q4 => ?_) (fun q4 => ?_)
    · have hf := (if_pos q4).symm.trans hf
      refine x_iinc (v := (x1 + (1 : Int32))) (lv' := [(1, .int (x1 + (1 : Int32))), (0, .ref (b 0)), (2, .int x2)]) X dX8_lays_147 hl (j := 1) rfl rfl (by decide) rfl (fun ls hl => ?_)
      refine x_goto (tgt := 24) X dX8_lays_150 rfl ?_
      exact hK24 (x1 + (1 : Int32)) s ls hf (lv_sub hl [1, 0] rfl)
    · have hf := (if_neg q4).symm.trans hf
      refine x_aload_n X dX8_lays_52 rfl hl 0 rfl ?_
      refine x_getf X in_X8_lays_X8 (mw_o _ _ _ _) rfl 7 (by decide) lk_X8_lays_19 rfl rfl dX8_lays_53 ?_
      refine x_iconst X dX8_lays_56 xk_iconst_3 ?_
      refine x_iload_n X dX8_lays_57 rfl hl 1 rfl ?_
      refine x_imul X dX8_lays_58 ?_
      refine x_iload_n X dX8_lays_59 rfl hl 2 rfl ?_
      refine x_iadd X dX8_lays_60 ?_
      obtain ⟨g5, hf⟩ := x_og_of hf
      refine x_iald X (1 + 0) 0 (mw_r0 _ _ _ _) rfl (x_in_of g5) dX8_lays_61 ?_
      refine x_istore_n (lv' := [(0, .ref (b 0)), (1, .int x1), (2, .int x2)]) X dX8_lays_62 rfl hl (by decide) (fun _ => rfl) (fun x3_6 ls ex3_6 hl => ?_)
      have hf := x_oi_of ex3_6 hf
      refine x_iload_n X dX8_lays_63 rfl hl 2 rfl ?_
      refine x_istoreA (lv' := [(4, .int x1), (3, .int x3_6), (0, .ref (b 0)), (1, .int x1), (2, .int x2)]) X dX8_lays_64 hl (by decide) rfl (fun ls hl => ?_)
      refine x_aload_n X dX8_lays_66 rfl hl 2 rfl ?_
      refine x_iload_n X dX8_lays_67 rfl hl 1 rfl ?_
      refine x_iload_n X dX8_lays_68 rfl hl 3 rfl ?_
      refine x_bipush X dX8_lays_69 xk_bipush_10 ?_
      refine x_idiv X dX8_lays_71 (by decide) ?_
      obtain ⟨v8, s7, c9, hf⟩ := x_ob_of hf
      refine x_cVi X 0 8 (mw_o _ _ _ _) rfl rfl (c_X8_wanted l D cI cZ cJ b F c9) (cwV 2 X.2.2.2.2.1 gX8_lays_X8_wanted rfl rfl rfl (by decide +kernel) ⟨Nat.le_of_ble_eq_true rfl, Nat.le_of_ble_eq_true rfl⟩) rfl hl rfl (Nat.le_of_ble_eq_true rfl) ⟨Nat.zero_le _, Nat.zero_le _⟩ dX8_lays_72 ?_
      refine x_istoreA (lv' := [(5, .int v8), (4, .int x1), (3, .int x3_6), (0, .ref (b 0)), (1, .int x1), (2, .int x2)]) X dX8_lays_75 hl (by decide) rfl (fun ls hl => ?_)
      exact b_X8_lays_77 X F _ ih F x1 x2 x3_6 x1 v8 s7 ls hf (lv_sub hl [3, 4, 5, 2, 1, 0] rfl)
set_option maxHeartbeats 4000000 in
set_option maxRecDepth 100000 in
theorem b_X8_lays_24 {p : Program} {l : Launch} {e : Env} {S0 : State} {m : MethodId} {args : Array Value} {below : List Frame} {meth : Method} {c : Code} {A : Nat → Prop} {D : va_G} {cI cZ cJ : ClassId} {b : Nat → Nat} (X : x_X p S0 m args meth c cX8_lays 7 none RX8 wsX8_lays D (x_tys cI cZ cJ) A) (F : Nat) {r : Int32} {s' : CS}  : ∀ (n : Nat) (x1 : Int32) (s : CS) (ls : Array Slot), r_X8_lays_b24 F n x1 s = some (r, s') → lv_has ls 7 [(0, .ref (b 0)), (1, .int x1)] → x_W p l e rm_X8_lays S0 m args below meth c A D (mwld cI cZ b) 0 0 (x_Rv below args S0 A D (mwld cI cZ b) s') s (F0 m 24 ls []) := by
  intro n
  induction n with
  | zero =>
    intro x1 s ls hf hl
    have hf : (none : Option (Int32 × CS)) = some (r, s') := hf
    cases hf
  | succ n ih =>
    intro x1 s ls hf hl
    rw [r_X8_lays_b24_s] at hf
    refine x_iload_n X dX8_lays_24 rfl hl 1 rfl ?_
    refine x_aload_n X dX8_lays_25 rfl hl 0 rfl ?_
    refine x_getf X in_X8_lays_X8 (mw_o _ _ _ _) rfl 0 (by decide) lk_X8_lays_7 rfl rfl dX8_lays_26 ?_
    refine x_aload_n X dX8_lays_29 rfl hl 0 rfl ?_
    refine x_getf X in_X8_lays_X8 (mw_o _ _ _ _) rfl 1 (by decide) lk_X8_lays_13 rfl rfl dX8_lays_30 ?_
    refine x_imul X dX8_lays_33 ?_
    refine x_bipush X dX8_lays_34 xk_bipush_10 ?_
    refine x_imul X dX8_lays_36 ?_
    refine x_icmp_ge (tgt := 153) X dX8_lays_37 rfl (fun q2 => ?_) (fun q2 => ?_)
    · have hf := (if_pos q2).symm.trans hf
      exact x_vret X rfl hf dX8_lays_153
    · have hf := (if_neg q2).symm.trans hf
      refine x_iconst X dX8_lays_40 xk_iconst_0 ?_
      refine x_istoreA_n (lv' := [(2, .int (0 : Int32)), (0, .ref (b 0)), (1, .int x1)]) X dX8_lays_41 rfl hl (by decide) rfl (fun ls hl => ?_)
      exact b_X8_lays_42 X F _ ih F x1 (0 : Int32) s ls hf (lv_sub hl [1, 2, 0] rfl)
set_option maxHeartbeats 4000000 in
set_option maxRecDepth 100000 in
theorem b_X8_lays_2 {p : Program} {l : Launch} {e : Env} {S0 : State} {m : MethodId} {args : Array Value} {below : List Frame} {meth : Method} {c : Code} {A : Nat → Prop} {D : va_G} {cI cZ cJ : ClassId} {b : Nat → Nat} (X : x_X p S0 m args meth c cX8_lays 7 none RX8 wsX8_lays D (x_tys cI cZ cJ) A) (F : Nat) {r : Int32} {s' : CS}  : ∀ (n : Nat) (x1 : Int32) (s : CS) (ls : Array Slot), r_X8_lays_b2 F n x1 s = some (r, s') → lv_has ls 7 [(0, .ref (b 0)), (1, .int x1)] → x_W p l e rm_X8_lays S0 m args below meth c A D (mwld cI cZ b) 0 0 (x_Rv below args S0 A D (mwld cI cZ b) s') s (F0 m 2 ls []) := by
  intro n
  induction n with
  | zero =>
    intro x1 s ls hf hl
    have hf : (none : Option (Int32 × CS)) = some (r, s') := hf
    cases hf
  | succ n ih =>
    intro x1 s ls hf hl
    rw [r_X8_lays_b2_s] at hf
    refine x_iload_n X dX8_lays_2 rfl hl 1 rfl ?_
    refine x_sipush X dX8_lays_3 xk_sipush_25600 ?_
    refine x_icmp_ge (tgt := 22) X dX8_lays_6 rfl (fun q1 => ?_) (fun q1 => ?_)
    · have hf := (if_pos q1).symm.trans hf
      refine x_iconst X dX8_lays_22 xk_iconst_0 ?_
      refine x_istoreA_n (lv' := [(1, .int (0 : Int32)), (0, .ref (b 0))]) X dX8_lays_23 rfl hl (by decide) rfl (fun ls hl => ?_)
      exact b_X8_lays_24 X F F (0 : Int32) s ls hf (lv_sub hl [1, 0] rfl)
    · have hf := (if_neg q1).symm.trans hf
      refine x_aload_n X dX8_lays_9 rfl hl 0 rfl ?_
      refine x_getf X in_X8_lays_X8 (mw_o _ _ _ _) rfl 23 (by decide) lk_X8_lays_69 rfl rfl dX8_lays_10 ?_
      refine x_iload_n X dX8_lays_13 rfl hl 1 rfl ?_
      refine x_iconst X dX8_lays_14 xk_iconst_0 ?_
      obtain ⟨g23, hf⟩ := x_og_of hf
      refine x_zast X (1 + 16) 1 (mw_r16 _ _ _ _) rfl (x_in_of g23) (mw_a16 _ _ _ _ _ _) dX8_lays_15 (fun s24 es24 => ?_)
      have hf := x_os_of es24 hf
      refine x_iinc (v := (x1 + (1 : Int32))) (lv' := [(1, .int (x1 + (1 : Int32))), (0, .ref (b 0))]) X dX8_lays_16 hl (j := 1) rfl rfl (by decide) rfl (fun ls hl => ?_)
      refine x_goto (tgt := 2) X dX8_lays_19 rfl ?_
      exact ih (x1 + (1 : Int32)) s24 ls hf (lv_sub hl [1, 0] rfl)
set_option maxHeartbeats 4000000 in
set_option maxRecDepth 100000 in
theorem c_X8_lays (l : Launch) (D : va_G) (cI cZ cJ : ClassId) (b : Nat → Nat) (F : Nat) {s s' : CS} {r : Int32} (hf : r_X8_lays F s = some (r, s')) : x_Mv l yX8_lays wsX8_lays rm_X8_lays D (x_tys cI cZ cJ) (mwld cI cZ b) [.ref (b 0)] s s' := by
  refine x_enterv (cc := cX8_lays) (nL := 7) (own := RX8) (by decide) rfl rfl (Nat.le_of_ble_eq_true rfl) ?_
  intro p e S0 m args below meth c A X ls hl
  have hl : lv_has ls 7 [(0, .ref (b 0))] := hl
  unfold r_X8_lays at hf
  refine x_iconst X dX8_lays_0 xk_iconst_0 ?_
  refine x_istoreA_n (lv' := [(1, .int (0 : Int32)), (0, .ref (b 0))]) X dX8_lays_1 rfl hl (by decide) rfl (fun ls hl => ?_)
  exact b_X8_lays_2 X F F (0 : Int32) s ls hf (lv_sub hl [1, 0] rfl)
def rm_X8_mayCircle : Room := { frames := 2, cells := 0, slots := 0, locals := 54 }
theorem in_X8_mayCircle_X8 : ∀ w ∈ wsX80, w ∈ wsX8_mayCircle := by decide +kernel
theorem lk_X8_mayCircle_7 : Cond.fieldLink RX8 7 "CreditfabricModel" "columns" "I" ∈ wsX8_mayCircle := by decide +kernel
theorem lk_X8_mayCircle_13 : Cond.fieldLink RX8 13 "CreditfabricModel" "rows" "I" ∈ wsX8_mayCircle := by decide +kernel
theorem lk_X8_mayCircle_69 : Cond.fieldLink RX8 69 "CreditfabricModel" "hangs" "[Z" ∈ wsX8_mayCircle := by decide +kernel
theorem lk_X8_mayCircle_72 : Cond.fieldLink RX8 72 "CreditfabricModel" "isGone" "[Z" ∈ wsX8_mayCircle := by decide +kernel
theorem lk_X8_mayCircle_79 : Cond.fieldLink RX8 79 "CreditfabricModel" "thrown" "I" ∈ wsX8_mayCircle := by decide +kernel
set_option maxHeartbeats 4000000 in
set_option maxRecDepth 100000 in
theorem b_X8_mayCircle_168 {p : Program} {l : Launch} {e : Env} {S0 : State} {m : MethodId} {args : Array Value} {below : List Frame} {meth : Method} {c : Code} {A : Nat → Prop} {D : va_G} {cI cZ cJ : ClassId} {b : Nat → Nat} (X : x_X p S0 m args meth c cX8_mayCircle 7 (some .boolean) RX8 wsX8_mayCircle D (x_tys cI cZ cJ) A) (F : Nat) {r : Int32} {s' : CS}  : ∀ (t0 : Int32) (s : CS) (ls : Array Slot), r_X8_mayCircle_b168 F t0 s = some (r, s') → lv_has ls 7 [] → x_W p l e rm_X8_mayCircle S0 m args below meth c A D (mwld cI cZ b) 0 0 (x_Ri below args S0 A D (mwld cI cZ b) r s') s (F0 m 168 ls [.int t0]) := by
  intro t0 s ls hf hl
  unfold r_X8_mayCircle_b168 at hf
  obtain ⟨g9, hf⟩ := x_og_of hf
  exact x_iret X rfl (x_bo_of g9) hf dX8_mayCircle_168
set_option maxHeartbeats 4000000 in
set_option maxRecDepth 100000 in
theorem b_X8_mayCircle_150 {p : Program} {l : Launch} {e : Env} {S0 : State} {m : MethodId} {args : Array Value} {below : List Frame} {meth : Method} {c : Code} {A : Nat → Prop} {D : va_G} {cI cZ cJ : ClassId} {b : Nat → Nat} (X : x_X p S0 m args meth c cX8_mayCircle 7 (some .boolean) RX8 wsX8_mayCircle D (x_tys cI cZ cJ) A) (F : Nat) {r : Int32} {s' : CS} (K55 : Int32 → Int32 → Int32 → Int32 → CS → Option (Int32 × CS)) (hK55 : ∀ (x1 x2 x3 x4 : Int32) (s : CS) (ls : Array Slot), K55 x1 x2 x3 x4 s = some (r, s') → lv_has ls 7 [(0, .ref (b 0)), (1, .int x1), (2, .int x2), (3, .int x3), (4, .int x4)] → x_W p l e rm_X8_mayCircle S0 m args below meth c A D (mwld cI cZ b) 0 0 (x_Ri below args S0 A D (mwld cI cZ b) r s') s (F0 m 55 ls [])) : ∀ (x1 x2 x3 x4 : Int32) (s : CS) (ls : Array Slot), r_X8_mayCircle_b150 K55 F x1 x2 x3 x4 s = some (r, s') → lv_has ls 7 [(0, .ref (b 0)), (1, .int x1), (2, .int x2), (3, .int x3), (4, .int x4)] → x_W p l e rm_X8_mayCircle S0 m args below meth c A D (mwld cI cZ b) 0 0 (x_Ri below args S0 A D (mwld cI cZ b) r s') s (F0 m 150 ls []) := by
  intro x1 x2 x3 x4 s ls hf hl
  unfold r_X8_mayCircle_b150 at hf
  refine x_iinc (v := (x4 + (1 : Int32))) (lv' := [(4, .int (x4 + (1 : Int32))), (0, .ref (b 0)), (1, .int x1), (2, .int x2), (3, .int x3)]) X dX8_mayCircle_150 hl (j := 4) rfl rfl (by decide) rfl (fun ls hl => ?_)
  refine x_goto (tgt := 55) X dX8_mayCircle_153 rfl ?_
  exact hK55 x1 x2 x3 (x4 + (1 : Int32)) s ls hf (lv_sub hl [1, 2, 3, 4, 0] rfl)
set_option maxHeartbeats 4000000 in
set_option maxRecDepth 100000 in
theorem b_X8_mayCircle_132 {p : Program} {l : Launch} {e : Env} {S0 : State} {m : MethodId} {args : Array Value} {below : List Frame} {meth : Method} {c : Code} {A : Nat → Prop} {D : va_G} {cI cZ cJ : ClassId} {b : Nat → Nat} (X : x_X p S0 m args meth c cX8_mayCircle 7 (some .boolean) RX8 wsX8_mayCircle D (x_tys cI cZ cJ) A) (F : Nat) {r : Int32} {s' : CS} (K55 : Int32 → Int32 → Int32 → Int32 → CS → Option (Int32 × CS)) (hK55 : ∀ (x1 x2 x3 x4 : Int32) (s : CS) (ls : Array Slot), K55 x1 x2 x3 x4 s = some (r, s') → lv_has ls 7 [(0, .ref (b 0)), (1, .int x1), (2, .int x2), (3, .int x3), (4, .int x4)] → x_W p l e rm_X8_mayCircle S0 m args below meth c A D (mwld cI cZ b) 0 0 (x_Ri below args S0 A D (mwld cI cZ b) r s') s (F0 m 55 ls [])) : ∀ (x1 x2 x3 x4 x5 : Int32) (s : CS) (ls : Array Slot), r_X8_mayCircle_b132 K55 F x1 x2 x3 x4 x5 s = some (r, s') → lv_has ls 7 [(0, .ref (b 0)), (1, .int x1), (2, .int x2), (3, .int x3), (4, .int x4), (5, .int x5)] → x_W p l e rm_X8_mayCircle S0 m args below meth c A D (mwld cI cZ b) 0 0 (x_Ri below args S0 A D (mwld cI cZ b) r s') s (F0 m 132 ls []) := by
  intro x1 x2 x3 x4 x5 s ls hf hl
  unfold r_X8_mayCircle_b132 at hf
  refine x_iload X dX8_mayCircle_132 hl 5 rfl ?_
  refine x_if_eq (tgt := 150) X dX8_mayCircle_134 rfl (fun q14 => ?_) (fun q14 => ?_)
  · have hf := (if_pos q14).symm.trans hf
    exact b_X8_mayCircle_150 X F _ hK55 x1 x2 x3 x4 s ls hf (lv_sub hl [0, 1, 2, 3, 4] rfl)
  · have hf := (if_neg q14).symm.trans hf
    refine x_aload_n X dX8_mayCircle_137 rfl hl 0 rfl ?_
    refine x_getf X in_X8_mayCircle_X8 (mw_o _ _ _ _) rfl 24 (by decide) lk_X8_mayCircle_72 rfl rfl dX8_mayCircle_138 ?_
    refine x_iload X dX8_mayCircle_141 hl 4 rfl ?_
    refine x_iconst X dX8_mayCircle_143 xk_iconst_1 ?_
    obtain ⟨g15, hf⟩ := x_og_of hf
    refine x_zast X (1 + 17) 1 (mw_r17 _ _ _ _) rfl (x_in_of g15) (mw_a17 _ _ _ _ _ _) dX8_mayCircle_144 (fun s16 es16 => ?_)
    have hf := x_os_of es16 hf
    refine x_iconst X dX8_mayCircle_145 xk_iconst_1 ?_
    refine x_istoreA_n (lv' := [(3, .int (1 : Int32)), (0, .ref (b 0)), (1, .int x1), (2, .int x2), (4, .int x4), (5, .int x5)]) X dX8_mayCircle_146 rfl hl (by decide) rfl (fun ls hl => ?_)
    refine x_iinc (v := (x2 + (-1 : Int32))) (lv' := [(2, .int (x2 + (-1 : Int32))), (3, .int (1 : Int32)), (0, .ref (b 0)), (1, .int x1), (4, .int x4), (5, .int x5)]) X dX8_mayCircle_147 hl (j := 3) rfl rfl (by decide) rfl (fun ls hl => ?_)
    exact b_X8_mayCircle_150 X F _ hK55 x1 (x2 + (-1 : Int32)) (1 : Int32) x4 s16 ls hf (lv_sub hl [2, 3, 0, 1, 4] rfl)
set_option maxHeartbeats 4000000 in
set_option maxRecDepth 100000 in
theorem b_X8_mayCircle_124 {p : Program} {l : Launch} {e : Env} {S0 : State} {m : MethodId} {args : Array Value} {below : List Frame} {meth : Method} {c : Code} {A : Nat → Prop} {D : va_G} {cI cZ cJ : ClassId} {b : Nat → Nat} (X : x_X p S0 m args meth c cX8_mayCircle 7 (some .boolean) RX8 wsX8_mayCircle D (x_tys cI cZ cJ) A) (F : Nat) {r : Int32} {s' : CS} (K81 : Int32 → Int32 → Int32 → Int32 → Int32 → Int32 → CS → Option (Int32 × CS)) (hK81 : ∀ (x1 x2 x3 x4 x5 x6 : Int32) (s : CS) (ls : Array Slot), K81 x1 x2 x3 x4 x5 x6 s = some (r, s') → lv_has ls 7 [(0, .ref (b 0)), (1, .int x1), (2, .int x2), (3, .int x3), (4, .int x4), (5, .int x5), (6, .int x6)] → x_W p l e rm_X8_mayCircle S0 m args below meth c A D (mwld cI cZ b) 0 0 (x_Ri below args S0 A D (mwld cI cZ b) r s') s (F0 m 81 ls [])) : ∀ (x1 x2 x3 x4 x6 t0 : Int32) (s : CS) (ls : Array Slot), r_X8_mayCircle_b124 K81 F x1 x2 x3 x4 x6 t0 s = some (r, s') → lv_has ls 7 [(0, .ref (b 0)), (1, .int x1), (2, .int x2), (3, .int x3), (4, .int x4), (6, .int x6)] → x_W p l e rm_X8_mayCircle S0 m args below meth c A D (mwld cI cZ b) 0 0 (x_Ri below args S0 A D (mwld cI cZ b) r s') s (F0 m 124 ls [.int t0]) := by
  intro x1 x2 x3 x4 x6 t0 s ls hf hl
  unfold r_X8_mayCircle_b124 at hf
  refine x_istoreA (lv' := [(5, .int t0), (0, .ref (b 0)), (1, .int x1), (2, .int x2), (3, .int x3), (4, .int x4), (6, .int x6)]) X dX8_mayCircle_124 hl (by decide) rfl (fun ls hl => ?_)
  refine x_iinc (v := (x6 + (1 : Int32))) (lv' := [(6, .int (x6 + (1 : Int32))), (5, .int t0), (0, .ref (b 0)), (1, .int x1), (2, .int x2), (3, .int x3), (4, .int x4)]) X dX8_mayCircle_126 hl (j := 6) rfl rfl (by decide) rfl (fun ls hl => ?_)
  refine x_goto (tgt := 81) X dX8_mayCircle_129 rfl ?_
  exact hK81 x1 x2 x3 x4 t0 (x6 + (1 : Int32)) s ls hf (lv_sub hl [2, 3, 4, 5, 6, 1, 0] rfl)
set_option maxHeartbeats 4000000 in
set_option maxRecDepth 100000 in
theorem b_X8_mayCircle_119 {p : Program} {l : Launch} {e : Env} {S0 : State} {m : MethodId} {args : Array Value} {below : List Frame} {meth : Method} {c : Code} {A : Nat → Prop} {D : va_G} {cI cZ cJ : ClassId} {b : Nat → Nat} (X : x_X p S0 m args meth c cX8_mayCircle 7 (some .boolean) RX8 wsX8_mayCircle D (x_tys cI cZ cJ) A) (F : Nat) {r : Int32} {s' : CS} (K81 : Int32 → Int32 → Int32 → Int32 → Int32 → Int32 → CS → Option (Int32 × CS)) (hK81 : ∀ (x1 x2 x3 x4 x5 x6 : Int32) (s : CS) (ls : Array Slot), K81 x1 x2 x3 x4 x5 x6 s = some (r, s') → lv_has ls 7 [(0, .ref (b 0)), (1, .int x1), (2, .int x2), (3, .int x3), (4, .int x4), (5, .int x5), (6, .int x6)] → x_W p l e rm_X8_mayCircle S0 m args below meth c A D (mwld cI cZ b) 0 0 (x_Ri below args S0 A D (mwld cI cZ b) r s') s (F0 m 81 ls [])) : ∀ (x1 x2 x3 x4 x6 : Int32) (s : CS) (ls : Array Slot), r_X8_mayCircle_b119 K81 F x1 x2 x3 x4 x6 s = some (r, s') → lv_has ls 7 [(0, .ref (b 0)), (1, .int x1), (2, .int x2), (3, .int x3), (4, .int x4), (6, .int x6)] → x_W p l e rm_X8_mayCircle S0 m args below meth c A D (mwld cI cZ b) 0 0 (x_Ri below args S0 A D (mwld cI cZ b) r s') s (F0 m 119 ls []) := by
  intro x1 x2 x3 x4 x6 s ls hf hl
  unfold r_X8_mayCircle_b119 at hf
  refine x_iconst X dX8_mayCircle_119 xk_iconst_1 ?_
  refine x_goto (tgt := 124) X dX8_mayCircle_120 rfl ?_
  exact b_X8_mayCircle_124 X F _ hK81 x1 x2 x3 x4 x6 (1 : Int32) s ls hf (lv_sub hl [0, 1, 2, 3, 4, 5] rfl)
set_option maxHeartbeats 4000000 in
set_option maxRecDepth 100000 in
theorem b_X8_mayCircle_81 {p : Program} {l : Launch} {e : Env} {S0 : State} {m : MethodId} {args : Array Value} {below : List Frame} {meth : Method} {c : Code} {A : Nat → Prop} {D : va_G} {cI cZ cJ : ClassId} {b : Nat → Nat} (X : x_X p S0 m args meth c cX8_mayCircle 7 (some .boolean) RX8 wsX8_mayCircle D (x_tys cI cZ cJ) A) (F : Nat) {r : Int32} {s' : CS} (K55 : Int32 → Int32 → Int32 → Int32 → CS → Option (Int32 × CS)) (hK55 : ∀ (x1 x2 x3 x4 : Int32) (s : CS) (ls : Array Slot), K55 x1 x2 x3 x4 s = some (r, s') → lv_has ls 7 [(0, .ref (b 0)), (1, .int x1), (2, .int x2), (3, .int x3), (4, .int x4)] → x_W p l e rm_X8_mayCircle S0 m args below meth c A D (mwld cI cZ b) 0 0 (x_Ri below args S0 A D (mwld cI cZ b) r s') s (F0 m 55 ls [])) : ∀ (n : Nat) (x1 x2 x3 x4 x5 x6 : Int32) (s : CS) (ls : Array Slot), r_X8_mayCircle_b81 K55 F n x1 x2 x3 x4 x5 x6 s = some (r, s') → lv_has ls 7 [(0, .ref (b 0)), (1, .int x1), (2, .int x2), (3, .int x3), (4, .int x4), (5, .int x5), (6, .int x6)] → x_W p l e rm_X8_mayCircle S0 m args below meth c A D (mwld cI cZ b) 0 0 (x_Ri below args S0 A D (mwld cI cZ b) r s') s (F0 m 81 ls []) := by
  intro n
  induction n with
  | zero =>
    intro x1 x2 x3 x4 x5 x6 s ls hf hl
    have hf : (none : Option (Int32 × CS)) = some (r, s') := hf
    cases hf
  | succ n ih =>
    intro x1 x2 x3 x4 x5 x6 s ls hf hl
    rw [r_X8_mayCircle_b81_s] at hf
    refine x_iload X dX8_mayCircle_81 hl 6 rfl ?_
    refine x_iload_n X dX8_mayCircle_83 rfl hl 1 rfl ?_
    refine x_icmp_ge (tgt := 132) X dX8_mayCircle_84 rfl (fun q13 => ?_) (fun q13 => ?_)
    · have hf := (if_pos q13).symm.trans hf
      exact b_X8_mayCircle_132 X F _ hK55 x1 x2 x3 x4 x5 s ls hf (lv_sub hl [0, 1, 2, 3, 4, 5] rfl)
    · have hf := (if_neg q13).symm.trans hf
      refine x_iload X dX8_mayCircle_87 hl 5 rfl ?_
      refine x_if_eq (tgt := 132) X dX8_mayCircle_89 rfl (fun q17 => ?_) (fun q17 => ?_)
      · have hf := (if_pos q17).symm.trans hf
        exact b_X8_mayCircle_132 X F _ hK55 x1 x2 x3 x4 x5 s ls hf (lv_sub hl [0, 1, 2, 3, 4, 5] rfl)
      · have hf := (if_neg q17).symm.trans hf
        refine x_aload_n X dX8_mayCircle_92 rfl hl 0 rfl ?_
        refine x_getf X in_X8_mayCircle_X8 (mw_o _ _ _ _) rfl 23 (by decide) lk_X8_mayCircle_69 rfl rfl dX8_mayCircle_93 ?_
        refine x_sipush X dX8_mayCircle_96 xk_sipush_160 ?_
        refine x_iload X dX8_mayCircle_99 hl 4 rfl ?_
        refine x_imul X dX8_mayCircle_101 ?_
        refine x_iload X dX8_mayCircle_102 hl 6 rfl ?_
        refine x_iadd X dX8_mayCircle_104 ?_
        obtain ⟨g18, hf⟩ := x_og_of hf
        refine x_zald X (1 + 16) 1 (mw_r16 _ _ _ _) rfl (x_in_of g18) dX8_mayCircle_105 ?_
        refine x_if_eq (tgt := 119) X dX8_mayCircle_106 rfl (fun q19 => ?_) (fun q19 => ?_)
        · have hf := (if_pos q19).symm.trans hf
          exact b_X8_mayCircle_119 X F _ ih x1 x2 x3 x4 x6 s ls hf (lv_sub hl [0, 1, 2, 3, 4, 6] rfl)
        · have hf := (if_neg q19).symm.trans hf
          refine x_aload_n X dX8_mayCircle_109 rfl hl 0 rfl ?_
          refine x_getf X in_X8_mayCircle_X8 (mw_o _ _ _ _) rfl 24 (by decide) lk_X8_mayCircle_72 rfl rfl dX8_mayCircle_110 ?_
          refine x_iload X dX8_mayCircle_113 hl 6 rfl ?_
          obtain ⟨g20, hf⟩ := x_og_of hf
          refine x_zald X (1 + 17) 1 (mw_r17 _ _ _ _) rfl (x_in_of g20) dX8_mayCircle_115 ?_
          refine x_if_eq (tgt := 123) X dX8_mayCircle_116 rfl (fun q21 => ?_) (fun q21 => ?_)
          · have hf := (if_pos q21).symm.trans hf
            refine x_iconst X dX8_mayCircle_123 xk_iconst_0 ?_
            exact b_X8_mayCircle_124 X F _ ih x1 x2 x3 x4 x6 (0 : Int32) s ls hf (lv_sub hl [0, 1, 2, 3, 4, 6] rfl)
          · have hf := (if_neg q21).symm.trans hf
            exact b_X8_mayCircle_119 X F _ ih x1 x2 x3 x4 x6 s ls hf (lv_sub hl [0, 1, 2, 3, 4, 6] rfl)
set_option maxHeartbeats 4000000 in
set_option maxRecDepth 100000 in
theorem b_X8_mayCircle_76 {p : Program} {l : Launch} {e : Env} {S0 : State} {m : MethodId} {args : Array Value} {below : List Frame} {meth : Method} {c : Code} {A : Nat → Prop} {D : va_G} {cI cZ cJ : ClassId} {b : Nat → Nat} (X : x_X p S0 m args meth c cX8_mayCircle 7 (some .boolean) RX8 wsX8_mayCircle D (x_tys cI cZ cJ) A) (F : Nat) {r : Int32} {s' : CS} (K55 : Int32 → Int32 → Int32 → Int32 → CS → Option (Int32 × CS)) (hK55 : ∀ (x1 x2 x3 x4 : Int32) (s : CS) (ls : Array Slot), K55 x1 x2 x3 x4 s = some (r, s') → lv_has ls 7 [(0, .ref (b 0)), (1, .int x1), (2, .int x2), (3, .int x3), (4, .int x4)] → x_W p l e rm_X8_mayCircle S0 m args below meth c A D (mwld cI cZ b) 0 0 (x_Ri below args S0 A D (mwld cI cZ b) r s') s (F0 m 55 ls [])) : ∀ (x1 x2 x3 x4 t0 : Int32) (s : CS) (ls : Array Slot), r_X8_mayCircle_b76 K55 F x1 x2 x3 x4 t0 s = some (r, s') → lv_has ls 7 [(0, .ref (b 0)), (1, .int x1), (2, .int x2), (3, .int x3), (4, .int x4)] → x_W p l e rm_X8_mayCircle S0 m args below meth c A D (mwld cI cZ b) 0 0 (x_Ri below args S0 A D (mwld cI cZ b) r s') s (F0 m 76 ls [.int t0]) := by
  intro x1 x2 x3 x4 t0 s ls hf hl
  unfold r_X8_mayCircle_b76 at hf
  refine x_istoreA (lv' := [(5, .int t0), (0, .ref (b 0)), (1, .int x1), (2, .int x2), (3, .int x3), (4, .int x4)]) X dX8_mayCircle_76 hl (by decide) rfl (fun ls hl => ?_)
  refine x_iconst X dX8_mayCircle_78 xk_iconst_0 ?_
  refine x_istoreA (lv' := [(6, .int (0 : Int32)), (5, .int t0), (0, .ref (b 0)), (1, .int x1), (2, .int x2), (3, .int x3), (4, .int x4)]) X dX8_mayCircle_79 hl (by decide) rfl (fun ls hl => ?_)
  exact b_X8_mayCircle_81 X F _ hK55 F x1 x2 x3 x4 t0 (0 : Int32) s ls hf (lv_sub hl [2, 3, 4, 5, 6, 1, 0] rfl)
set_option maxHeartbeats 4000000 in
set_option maxRecDepth 100000 in
theorem b_X8_mayCircle_55 {p : Program} {l : Launch} {e : Env} {S0 : State} {m : MethodId} {args : Array Value} {below : List Frame} {meth : Method} {c : Code} {A : Nat → Prop} {D : va_G} {cI cZ cJ : ClassId} {b : Nat → Nat} (X : x_X p S0 m args meth c cX8_mayCircle 7 (some .boolean) RX8 wsX8_mayCircle D (x_tys cI cZ cJ) A) (F : Nat) {r : Int32} {s' : CS} (K46 : Int32 → Int32 → Int32 → CS → Option (Int32 × CS)) (hK46 : ∀ (x1 x2 x3 : Int32) (s : CS) (ls : Array Slot), K46 x1 x2 x3 s = some (r, s') → lv_has ls 7 [(0, .ref (b 0)), (1, .int x1), (2, .int x2), (3, .int x3)] → x_W p l e rm_X8_mayCircle S0 m args below meth c A D (mwld cI cZ b) 0 0 (x_Ri below args S0 A D (mwld cI cZ b) r s') s (F0 m 46 ls [])) : ∀ (n : Nat) (x1 x2 x3 x4 : Int32) (s : CS) (ls : Array Slot), r_X8_mayCircle_b55 K46 F n x1 x2 x3 x4 s = some (r, s') → lv_has ls 7 [(0, .ref (b 0)), (1, .int x1), (2, .int x2), (3, .int x3), (4, .int x4)] → x_W p l e rm_X8_mayCircle S0 m args below meth c A D (mwld cI cZ b) 0 0 (x_Ri below args S0 A D (mwld cI cZ b) r s') s (F0 m 55 ls []) := by
  intro n
  induction n with
  | zero =>
    intro x1 x2 x3 x4 s ls hf hl
    have hf : (none : Option (Int32 × CS)) = some (r, s') := hf
    cases hf
  | succ n ih =>
    intro x1 x2 x3 x4 s ls hf hl
    rw [r_X8_mayCircle_b55_s] at hf
    refine x_iload X dX8_mayCircle_55 hl 4 rfl ?_
    refine x_iload_n X dX8_mayCircle_57 rfl hl 1 rfl ?_
    refine x_icmp_ge (tgt := 156) X dX8_mayCircle_58 rfl (fun q10 => ?_) (fun q10 => ?_)
    · have hf := (if_pos q10).symm.trans hf
      refine x_goto (tgt := 46) X dX8_mayCircle_156 rfl ?_
      exact hK46 x1 x2 x3 s ls hf (lv_sub hl [0, 1, 2, 3] rfl)
    · have hf := (if_neg q10).symm.trans hf
      refine x_aload_n X dX8_mayCircle_61 rfl hl 0 rfl ?_
      refine x_getf X in_X8_mayCircle_X8 (mw_o _ _ _ _) rfl 24 (by decide) lk_X8_mayCircle_72 rfl rfl dX8_mayCircle_62 ?_
      refine x_iload X dX8_mayCircle_65 hl 4 rfl ?_
      obtain ⟨g11, hf⟩ := x_og_of hf
      refine x_zald X (1 + 17) 1 (mw_r17 _ _ _ _) rfl (x_in_of g11) dX8_mayCircle_67 ?_
      refine x_if_ne (tgt := 75) X dX8_mayCircle_68 rfl (fun q12 => ?_) (fun q12 => ?_)
      · have hf := (if_neg q12).symm.trans hf
        refine x_iconst X dX8_mayCircle_75 xk_iconst_0 ?_
        exact b_X8_mayCircle_76 X F _ ih x1 x2 x3 x4 (0 : Int32) s ls hf (lv_sub hl [0, 1, 2, 3, 4] rfl)
      · have hf := (if_pos q12).symm.trans hf
        refine x_iconst X dX8_mayCircle_71 xk_iconst_1 ?_
        refine x_goto (tgt := 76) X dX8_mayCircle_72 rfl ?_
        exact b_X8_mayCircle_76 X F _ ih x1 x2 x3 x4 (1 : Int32) s ls hf (lv_sub hl [0, 1, 2, 3, 4] rfl)
set_option maxHeartbeats 4000000 in
set_option maxRecDepth 100000 in
theorem b_X8_mayCircle_46 {p : Program} {l : Launch} {e : Env} {S0 : State} {m : MethodId} {args : Array Value} {below : List Frame} {meth : Method} {c : Code} {A : Nat → Prop} {D : va_G} {cI cZ cJ : ClassId} {b : Nat → Nat} (X : x_X p S0 m args meth c cX8_mayCircle 7 (some .boolean) RX8 wsX8_mayCircle D (x_tys cI cZ cJ) A) (F : Nat) {r : Int32} {s' : CS}  : ∀ (n : Nat) (x1 x2 x3 : Int32) (s : CS) (ls : Array Slot), r_X8_mayCircle_b46 F n x1 x2 x3 s = some (r, s') → lv_has ls 7 [(0, .ref (b 0)), (1, .int x1), (2, .int x2), (3, .int x3)] → x_W p l e rm_X8_mayCircle S0 m args below meth c A D (mwld cI cZ b) 0 0 (x_Ri below args S0 A D (mwld cI cZ b) r s') s (F0 m 46 ls []) := by
  intro n
  induction n with
  | zero =>
    intro x1 x2 x3 s ls hf hl
    have hf : (none : Option (Int32 × CS)) = some (r, s') := hf
    cases hf
  | succ n ih =>
    intro x1 x2 x3 s ls hf hl
    rw [r_X8_mayCircle_b46_s] at hf
    refine x_iload_n X dX8_mayCircle_46 rfl hl 3 rfl ?_
    refine x_if_eq (tgt := 159) X dX8_mayCircle_47 rfl (fun q7 => ?_) (fun q7 => ?_)
    · have hf := (if_pos q7).symm.trans hf
      refine x_iload_n X dX8_mayCircle_159 rfl hl 2 rfl ?_
      refine x_if_le (tgt := 167) X dX8_mayCircle_160 rfl (fun q8 => ?_) (fun q8 => ?_)
      · have hf := (if_pos q8).symm.trans hf
        refine x_iconst X dX8_mayCircle_167 xk_iconst_0 ?_
        exact b_X8_mayCircle_168 X F (0 : Int32) s ls hf (lv_sub hl [] rfl)
      · have hf := (if_neg q8).symm.trans hf
        refine x_iconst X dX8_mayCircle_163 xk_iconst_1 ?_
        refine x_goto (tgt := 168) X dX8_mayCircle_164 rfl ?_
        exact b_X8_mayCircle_168 X F (1 : Int32) s ls hf (lv_sub hl [] rfl)
    · have hf := (if_neg q7).symm.trans hf
      refine x_iconst X dX8_mayCircle_50 xk_iconst_0 ?_
      refine x_istoreA_n (lv' := [(3, .int (0 : Int32)), (0, .ref (b 0)), (1, .int x1), (2, .int x2)]) X dX8_mayCircle_51 rfl hl (by decide) rfl (fun ls hl => ?_)
      refine x_iconst X dX8_mayCircle_52 xk_iconst_0 ?_
      refine x_istoreA (lv' := [(4, .int (0 : Int32)), (3, .int (0 : Int32)), (0, .ref (b 0)), (1, .int x1), (2, .int x2)]) X dX8_mayCircle_53 hl (by decide) rfl (fun ls hl => ?_)
      exact b_X8_mayCircle_55 X F _ ih F x1 x2 (0 : Int32) (0 : Int32) s ls hf (lv_sub hl [2, 3, 4, 1, 0] rfl)
set_option maxHeartbeats 4000000 in
set_option maxRecDepth 100000 in
theorem b_X8_mayCircle_24 {p : Program} {l : Launch} {e : Env} {S0 : State} {m : MethodId} {args : Array Value} {below : List Frame} {meth : Method} {c : Code} {A : Nat → Prop} {D : va_G} {cI cZ cJ : ClassId} {b : Nat → Nat} (X : x_X p S0 m args meth c cX8_mayCircle 7 (some .boolean) RX8 wsX8_mayCircle D (x_tys cI cZ cJ) A) (F : Nat) {r : Int32} {s' : CS}  : ∀ (n : Nat) (x1 x2 : Int32) (s : CS) (ls : Array Slot), r_X8_mayCircle_b24 F n x1 x2 s = some (r, s') → lv_has ls 7 [(0, .ref (b 0)), (1, .int x1), (2, .int x2)] → x_W p l e rm_X8_mayCircle S0 m args below meth c A D (mwld cI cZ b) 0 0 (x_Ri below args S0 A D (mwld cI cZ b) r s') s (F0 m 24 ls []) := by
  intro n
  induction n with
  | zero =>
    intro x1 x2 s ls hf hl
    have hf : (none : Option (Int32 × CS)) = some (r, s') := hf
    cases hf
  | succ n ih =>
    intro x1 x2 s ls hf hl
    rw [r_X8_mayCircle_b24_s] at hf
    refine x_iload_n X dX8_mayCircle_24 rfl hl 2 rfl ?_
    refine x_iload_n X dX8_mayCircle_25 rfl hl 1 rfl ?_
    refine x_icmp_ge (tgt := 42) X dX8_mayCircle_26 rfl (fun q6 => ?_) (fun q6 => ?_)
    · have hf := (if_pos q6).symm.trans hf
      refine x_iload_n X dX8_mayCircle_42 rfl hl 1 rfl ?_
      refine x_istoreA_n (lv' := [(2, .int x1), (0, .ref (b 0)), (1, .int x1)]) X dX8_mayCircle_43 rfl hl (by decide) rfl (fun ls hl => ?_)
      refine x_iconst X dX8_mayCircle_44 xk_iconst_1 ?_
      refine x_istoreA_n (lv' := [(3, .int (1 : Int32)), (2, .int x1), (0, .ref (b 0)), (1, .int x1)]) X dX8_mayCircle_45 rfl hl (by decide) rfl (fun ls hl => ?_)
      exact b_X8_mayCircle_46 X F F x1 x1 (1 : Int32) s ls hf (lv_sub hl [2, 3, 1, 0] rfl)
    · have hf := (if_neg q6).symm.trans hf
      refine x_aload_n X dX8_mayCircle_29 rfl hl 0 rfl ?_
      refine x_getf X in_X8_mayCircle_X8 (mw_o _ _ _ _) rfl 24 (by decide) lk_X8_mayCircle_72 rfl rfl dX8_mayCircle_30 ?_
      refine x_iload_n X dX8_mayCircle_33 rfl hl 2 rfl ?_
      refine x_iconst X dX8_mayCircle_34 xk_iconst_0 ?_
      obtain ⟨g22, hf⟩ := x_og_of hf
      refine x_zast X (1 + 17) 1 (mw_r17 _ _ _ _) rfl (x_in_of g22) (mw_a17 _ _ _ _ _ _) dX8_mayCircle_35 (fun s23 es23 => ?_)
      have hf := x_os_of es23 hf
      refine x_iinc (v := (x2 + (1 : Int32))) (lv' := [(2, .int (x2 + (1 : Int32))), (0, .ref (b 0)), (1, .int x1)]) X dX8_mayCircle_36 hl (j := 2) rfl rfl (by decide) rfl (fun ls hl => ?_)
      refine x_goto (tgt := 24) X dX8_mayCircle_39 rfl ?_
      exact ih x1 (x2 + (1 : Int32)) s23 ls hf (lv_sub hl [1, 2, 0] rfl)
set_option maxHeartbeats 4000000 in
set_option maxRecDepth 100000 in
theorem c_X8_mayCircle (l : Launch) (D : va_G) (cI cZ cJ : ClassId) (b : Nat → Nat) (F : Nat) {s s' : CS} {r : Int32} (hf : r_X8_mayCircle F s = some (r, s')) : x_Mi l yX8_mayCircle wsX8_mayCircle rm_X8_mayCircle D (x_tys cI cZ cJ) (mwld cI cZ b) [.ref (b 0)] s r s' := by
  refine x_enteri (cc := cX8_mayCircle) (nL := 7) (ty := .boolean) (own := RX8) (by decide) rfl rfl (Nat.le_of_ble_eq_true rfl) ?_
  intro p e S0 m args below meth c A X ls hl
  have hl : lv_has ls 7 [(0, .ref (b 0))] := hl
  unfold r_X8_mayCircle at hf
  refine x_aload_n X dX8_mayCircle_0 rfl hl 0 rfl ?_
  refine x_iconst X dX8_mayCircle_1 xk_iconst_0 ?_
  refine x_puti X in_X8_mayCircle_X8 (mw_o _ _ _ _) rfl 25 (by decide) tyX8 tyX8_ok nmX8 lk_X8_mayCircle_79 rfl rfl (by decide +kernel) (Nat.le_of_ble_eq_true rfl) (mw_s7 _ _ _ _ _) dX8_mayCircle_2 (fun s1 es1 => ?_)
  have hf := x_os_of es1 hf
  refine x_aload_n X dX8_mayCircle_5 rfl hl 0 rfl ?_
  obtain ⟨v3, s2, c4, hf⟩ := x_ob_of hf
  refine x_cVv X 0 8 (mw_o _ _ _ _) rfl rfl (c_X8_lays l D cI cZ cJ b F c4) (cwV 0 X.2.2.2.2.1 gX8_mayCircle_X8_lays rfl rfl rfl (by decide +kernel) ⟨Nat.le_of_ble_eq_true rfl, Nat.le_of_ble_eq_true rfl⟩) rfl hl rfl (Nat.le_of_ble_eq_true rfl) ⟨Nat.zero_le _, Nat.zero_le _⟩ dX8_mayCircle_6 ?_
  refine x_aload_n X dX8_mayCircle_9 rfl hl 0 rfl ?_
  refine x_getf X in_X8_mayCircle_X8 (mw_o _ _ _ _) rfl 0 (by decide) lk_X8_mayCircle_7 rfl rfl dX8_mayCircle_10 ?_
  refine x_aload_n X dX8_mayCircle_13 rfl hl 0 rfl ?_
  refine x_getf X in_X8_mayCircle_X8 (mw_o _ _ _ _) rfl 1 (by decide) lk_X8_mayCircle_13 rfl rfl dX8_mayCircle_14 ?_
  refine x_imul X dX8_mayCircle_17 ?_
  refine x_bipush X dX8_mayCircle_18 xk_bipush_10 ?_
  refine x_imul X dX8_mayCircle_20 ?_
  refine x_istore_n (lv' := [(0, .ref (b 0))]) X dX8_mayCircle_21 rfl hl (by decide) (fun _ => rfl) (fun x1_5 ls ex1_5 hl => ?_)
  have hf := x_oi_of ex1_5 hf
  refine x_iconst X dX8_mayCircle_22 xk_iconst_0 ?_
  refine x_istoreA_n (lv' := [(2, .int (0 : Int32)), (1, .int x1_5), (0, .ref (b 0))]) X dX8_mayCircle_23 rfl hl (by decide) rfl (fun ls hl => ?_)
  exact b_X8_mayCircle_24 X F F x1_5 (0 : Int32) s2 ls hf (lv_sub hl [2, 1, 0] rfl)
