def x_str79 : String := "a grid has 2 to 4 columns and 2 to 4 rows"
def x_str84 : String := "a buffer has room for 1 to 3 packets"
def x_str86 : String := "the delay is 0 to 3 ticks"
def x_str95 : String := "the goal is the source"
def x_str100 : String := "the mode is 0 or 1"
def x_str112 : String := "the buffer is full"
def x_str123 : String := "the gap is not over"
def x_str128 : String := "80 packets were sent"
def x_str141 : String := "1 to 50 ticks are run at once"
def x_str165 : String := "there is no credit to lose"
def x_str177 : String := "an input is 0 to 4"
def x_str211 : String := "there is no such switch"
def x_str217 : String := "there is no link in this direction"
def x_str219 : String := "there is no such packet"
def x_str221 : String := "the lane is 0 or 1"
theorem x_nest_on : ∀ w ∈ x_nest, w.onTables = true := by decide +kernel
theorem xf_nm : ∀ n ∈ ["java/lang/RuntimeException", "java/lang/Exception"], Bundle.fit n = true := by decide +kernel
theorem xf_1 : Bundle.fit "java/lang/IndexOutOfBoundsException" = true := by decide +kernel
theorem xf_2 : Bundle.fit "java/lang/IllegalArgumentException" = true := by decide +kernel
theorem xf_3 : Bundle.fit "java/lang/IllegalStateException" = true := by decide +kernel
theorem xc_81 : ∀ w ∈ (vx_atS RX7 81 "java/lang/IllegalArgumentException" ["java/lang/RuntimeException", "java/lang/Exception"]).filter (fun w => !goodWord w), w ∈ x_nest := by decide +kernel
theorem xg_81 : ∀ w ∈ Cond.classLink RX7 77 "java/lang/IllegalArgumentException" :: Cond.initialized "java/lang/IllegalArgumentException" :: vx_atS RX7 81 "java/lang/IllegalArgumentException" ["java/lang/RuntimeException", "java/lang/Exception"], vx_ot w = true := by decide +kernel
theorem xc_114 : ∀ w ∈ (vx_atS RX7 114 "java/lang/IllegalStateException" ["java/lang/RuntimeException", "java/lang/Exception"]).filter (fun w => !goodWord w), w ∈ x_nest := by decide +kernel
theorem xg_114 : ∀ w ∈ Cond.classLink RX7 110 "java/lang/IllegalStateException" :: Cond.initialized "java/lang/IllegalStateException" :: vx_atS RX7 114 "java/lang/IllegalStateException" ["java/lang/RuntimeException", "java/lang/Exception"], vx_ot w = true := by decide +kernel
theorem xc_213 : ∀ w ∈ (vx_atS RX7 213 "java/lang/IndexOutOfBoundsException" ["java/lang/RuntimeException", "java/lang/Exception"]).filter (fun w => !goodWord w), w ∈ x_nest := by decide +kernel
theorem xg_213 : ∀ w ∈ Cond.classLink RX7 209 "java/lang/IndexOutOfBoundsException" :: Cond.initialized "java/lang/IndexOutOfBoundsException" :: vx_atS RX7 213 "java/lang/IndexOutOfBoundsException" ["java/lang/RuntimeException", "java/lang/Exception"], vx_ot w = true := by decide +kernel
def rm_X7_begin (c9 s9 : Nat) : Room := { frames := 6, cells := c9, slots := s9, locals := 82 }
theorem xl_X7_begin_77 : Cond.classLink RX7 77 "java/lang/IllegalArgumentException" ∈ wsX7_begin := by decide +kernel
theorem xi_X7_begin_77 : Cond.initialized "java/lang/IllegalArgumentException" ∈ wsX7_begin := by decide +kernel
theorem xa_X7_begin_81 : ∀ w ∈ (vx_atS RX7 81 "java/lang/IllegalArgumentException" ["java/lang/RuntimeException", "java/lang/Exception"]).filter goodWord, w ∈ wsX7_begin := fun _ h => List.mem_cons_of_mem _ (List.mem_append_right _ h)
theorem in_X7_begin_X7 : ∀ w ∈ wsX70, w ∈ wsX7_begin := by decide +kernel
theorem lk_X7_begin_12 : Cond.fieldLink RX7 12 "Creditfabric" "grid" "LCreditfabric$Grid;" ∈ wsX7_begin := by decide +kernel
set_option maxHeartbeats 4000000 in
set_option maxRecDepth 100000 in
theorem b_X7_begin_20 {p : Program} {l : Launch} {e : Env} {S0 : State} {m : MethodId} {args : Array Value} {below : List Frame} {meth : Method} {c : Code} {A : Nat → Prop} {D : va_G} {cI cZ cJ : ClassId} {a : Nat → Nat} (X : x_X p S0 m args meth c cX7_begin 5 (some .int) RX7 wsX7_begin D (x_tys cI cZ cJ) A) (F : Nat) {r : XR} {c9 s9 : Nat} (hst : l.stackTraces = false) (hcs : r.1 = 0 ∨ (1 ≤ c9 ∧ 6 ≤ s9)) (XX : x_XX l S0 c A)  : ∀ (s : CS) (ls : Array Slot), r_X7_begin_b20 F s = some r → lv_has ls 5 [] → x_W p l e (rm_X7_begin c9 s9) S0 m args below meth c A D (cwld cI a) 0 0 (x_Rz below args S0 A D (cwld cI a) r) s (F0 m 20 ls []) := by
  intro s ls hf hl
  unfold r_X7_begin_b20 at hf
  cases Option.some.inj hf
  have hcs := hcs.resolve_left (show (2 : Nat) ≠ 0 by decide)
  refine x_thrZ X (show (2 : Nat) ≠ 0 by decide) ?_
  exact x_thr X XX (show (2 : Nat) ≠ 0 by decide) rfl rfl hl (text := x_str79) (by decide +kernel) xl_X7_begin_77 xi_X7_begin_77 xa_X7_begin_81 xc_81 x_nest_on xg_81 xf_2 xf_nm dX7_begin_20 dX7_begin_23 dX7_begin_24 dX7_begin_26 dX7_begin_29 (Nat.le_of_ble_eq_true rfl) (Nat.le_of_ble_eq_true rfl) hcs.1 hcs.2
set_option maxHeartbeats 4000000 in
set_option maxRecDepth 100000 in
theorem b_X7_begin_40 {p : Program} {l : Launch} {e : Env} {S0 : State} {m : MethodId} {args : Array Value} {below : List Frame} {meth : Method} {c : Code} {A : Nat → Prop} {D : va_G} {cI cZ cJ : ClassId} {a : Nat → Nat} (X : x_X p S0 m args meth c cX7_begin 5 (some .int) RX7 wsX7_begin D (x_tys cI cZ cJ) A) (F : Nat) {r : XR} {c9 s9 : Nat} (hst : l.stackTraces = false) (hcs : r.1 = 0 ∨ (1 ≤ c9 ∧ 6 ≤ s9)) (XX : x_XX l S0 c A)  : ∀ (s : CS) (ls : Array Slot), r_X7_begin_b40 F s = some r → lv_has ls 5 [] → x_W p l e (rm_X7_begin c9 s9) S0 m args below meth c A D (cwld cI a) 0 0 (x_Rz below args S0 A D (cwld cI a) r) s (F0 m 40 ls []) := by
  intro s ls hf hl
  unfold r_X7_begin_b40 at hf
  cases Option.some.inj hf
  have hcs := hcs.resolve_left (show (2 : Nat) ≠ 0 by decide)
  refine x_thrZ X (show (2 : Nat) ≠ 0 by decide) ?_
  exact x_thr X XX (show (2 : Nat) ≠ 0 by decide) rfl rfl hl (text := x_str84) (by decide +kernel) xl_X7_begin_77 xi_X7_begin_77 xa_X7_begin_81 xc_81 x_nest_on xg_81 xf_2 xf_nm dX7_begin_40 dX7_begin_43 dX7_begin_44 dX7_begin_46 dX7_begin_49 (Nat.le_of_ble_eq_true rfl) (Nat.le_of_ble_eq_true rfl) hcs.1 hcs.2
set_option maxHeartbeats 4000000 in
set_option maxRecDepth 100000 in
theorem b_X7_begin_61 {p : Program} {l : Launch} {e : Env} {S0 : State} {m : MethodId} {args : Array Value} {below : List Frame} {meth : Method} {c : Code} {A : Nat → Prop} {D : va_G} {cI cZ cJ : ClassId} {a : Nat → Nat} (X : x_X p S0 m args meth c cX7_begin 5 (some .int) RX7 wsX7_begin D (x_tys cI cZ cJ) A) (F : Nat) {r : XR} {c9 s9 : Nat} (hst : l.stackTraces = false) (hcs : r.1 = 0 ∨ (1 ≤ c9 ∧ 6 ≤ s9)) (XX : x_XX l S0 c A)  : ∀ (s : CS) (ls : Array Slot), r_X7_begin_b61 F s = some r → lv_has ls 5 [] → x_W p l e (rm_X7_begin c9 s9) S0 m args below meth c A D (cwld cI a) 0 0 (x_Rz below args S0 A D (cwld cI a) r) s (F0 m 61 ls []) := by
  intro s ls hf hl
  unfold r_X7_begin_b61 at hf
  cases Option.some.inj hf
  have hcs := hcs.resolve_left (show (2 : Nat) ≠ 0 by decide)
  refine x_thrZ X (show (2 : Nat) ≠ 0 by decide) ?_
  exact x_thr X XX (show (2 : Nat) ≠ 0 by decide) rfl rfl hl (text := x_str86) (by decide +kernel) xl_X7_begin_77 xi_X7_begin_77 xa_X7_begin_81 xc_81 x_nest_on xg_81 xf_2 xf_nm dX7_begin_61 dX7_begin_64 dX7_begin_65 dX7_begin_67 dX7_begin_70 (Nat.le_of_ble_eq_true rfl) (Nat.le_of_ble_eq_true rfl) hcs.1 hcs.2
set_option maxHeartbeats 4000000 in
set_option maxRecDepth 100000 in
theorem c_X7_begin (l : Launch) (hst : l.stackTraces = false) (D : va_G) (cI cZ cJ : ClassId) (a : Nat → Nat) (F : Nat) {s : CS} {r : XR} {x1 x2 x3 x4 : Int32} (hf : r_X7_begin F x1 x2 x3 x4 s = some r) : x_Mz l yX7_begin wsX7_begin rm_X7_begin D (x_tys cI cZ cJ) (cwld cI a) [.ref (a 0), .int x1, .int x2, .int x3, .int x4] s r := by
  refine x_enterZi (cc := cX7_begin) (nL := 5) (ty := .int) (own := RX7) hst (by decide) rfl rfl (Nat.le_of_ble_eq_true rfl) ?_
  intro p e S0 m args below meth c A c9 s9 hcs X XX ls hl
  have hl : lv_has ls 5 [(0, .ref (a 0)), (1, .int x1), (2, .int x2), (3, .int x3), (4, .int x4)] := hl
  unfold r_X7_begin at hf
  refine x_iload_n X dX7_begin_0 rfl hl 1 rfl ?_
  refine x_iconst X dX7_begin_1 xk_iconst_2 ?_
  refine x_icmp_lt (tgt := 20) X dX7_begin_2 rfl (fun q1 => ?_) (fun q1 => ?_)
  · have hf := (if_pos q1).symm.trans hf
    exact b_X7_begin_20 X F hst hcs XX s ls hf (lv_sub hl [] rfl)
  · have hf := (if_neg q1).symm.trans hf
    refine x_iload_n X dX7_begin_5 rfl hl 1 rfl ?_
    refine x_iconst X dX7_begin_6 xk_iconst_4 ?_
    refine x_icmp_gt (tgt := 20) X dX7_begin_7 rfl (fun q2 => ?_) (fun q2 => ?_)
    · have hf := (if_pos q2).symm.trans hf
      exact b_X7_begin_20 X F hst hcs XX s ls hf (lv_sub hl [] rfl)
    · have hf := (if_neg q2).symm.trans hf
      refine x_iload_n X dX7_begin_10 rfl hl 2 rfl ?_
      refine x_iconst X dX7_begin_11 xk_iconst_2 ?_
      refine x_icmp_lt (tgt := 20) X dX7_begin_12 rfl (fun q3 => ?_) (fun q3 => ?_)
      · have hf := (if_pos q3).symm.trans hf
        exact b_X7_begin_20 X F hst hcs XX s ls hf (lv_sub hl [] rfl)
      · have hf := (if_neg q3).symm.trans hf
        refine x_iload_n X dX7_begin_15 rfl hl 2 rfl ?_
        refine x_iconst X dX7_begin_16 xk_iconst_4 ?_
        refine x_icmp_le (tgt := 30) X dX7_begin_17 rfl (fun q4 => ?_) (fun q4 => ?_)
        · have hf := (if_pos q4).symm.trans hf
          refine x_iload_n X dX7_begin_30 rfl hl 3 rfl ?_
          refine x_iconst X dX7_begin_31 xk_iconst_1 ?_
          refine x_icmp_lt (tgt := 40) X dX7_begin_32 rfl (fun q5 => ?_) (fun q5 => ?_)
          · have hf := (if_pos q5).symm.trans hf
            exact b_X7_begin_40 X F hst hcs XX s ls hf (lv_sub hl [] rfl)
          · have hf := (if_neg q5).symm.trans hf
            refine x_iload_n X dX7_begin_35 rfl hl 3 rfl ?_
            refine x_iconst X dX7_begin_36 xk_iconst_3 ?_
            refine x_icmp_le (tgt := 50) X dX7_begin_37 rfl (fun q6 => ?_) (fun q6 => ?_)
            · have hf := (if_pos q6).symm.trans hf
              refine x_iload X dX7_begin_50 hl 4 rfl ?_
              refine x_if_lt (tgt := 61) X dX7_begin_52 rfl (fun q7 => ?_) (fun q7 => ?_)
              · have hf := (if_pos q7).symm.trans hf
                exact b_X7_begin_61 X F hst hcs XX s ls hf (lv_sub hl [] rfl)
              · have hf := (if_neg q7).symm.trans hf
                refine x_iload X dX7_begin_55 hl 4 rfl ?_
                refine x_iconst X dX7_begin_57 xk_iconst_3 ?_
                refine x_icmp_le (tgt := 71) X dX7_begin_58 rfl (fun q8 => ?_) (fun q8 => ?_)
                · have hf := (if_pos q8).symm.trans hf
                  refine x_aload_n X dX7_begin_71 rfl hl 0 rfl ?_
                  refine x_iload_n X dX7_begin_72 rfl hl 1 rfl ?_
                  refine x_iload_n X dX7_begin_73 rfl hl 2 rfl ?_
                  refine x_iload_n X dX7_begin_74 rfl hl 3 rfl ?_
                  refine x_iload X dX7_begin_75 hl 4 rfl ?_
                  obtain ⟨v10, s9, c11, hf⟩ := x_ob_of hf
                  refine x_cVv X 0 7 (cw_o0 _ _ _) rfl rfl (c_X7_layAnew l D cI cZ cJ a F c11) (cwV 4 X.2.2.2.2.1 gX7_begin_X7_layAnew rfl rfl rfl (by decide +kernel) ⟨Nat.le_of_ble_eq_true rfl, Nat.le_of_ble_eq_true rfl⟩) rfl hl rfl (Nat.le_of_ble_eq_true rfl) ⟨Nat.zero_le _, Nat.zero_le _⟩ dX7_begin_77 ?_
                  refine x_aload_n X dX7_begin_80 rfl hl 0 rfl ?_
                  refine x_getf X in_X7_begin_X7 (cw_o0 _ _ _) rfl 0 (by decide) lk_X7_begin_12 rfl rfl dX7_begin_81 ?_
                  obtain ⟨v13, s12, c14, hf⟩ := x_ob_of hf
                  refine x_cVi X 1 3 (cw_o1 _ _ _) rfl rfl (c_X3_size l D cI cZ cJ a F c14) (cwV 0 X.2.2.2.2.1 gX7_begin_X3_size rfl rfl rfl (by decide +kernel) ⟨Nat.le_of_ble_eq_true rfl, Nat.le_of_ble_eq_true rfl⟩) rfl hl rfl (Nat.le_of_ble_eq_true rfl) ⟨Nat.zero_le _, Nat.zero_le _⟩ dX7_begin_84 ?_
                  exact x_iretZ X rfl rfl hf dX7_begin_87
                · have hf := (if_neg q8).symm.trans hf
                  exact b_X7_begin_61 X F hst hcs XX s ls hf (lv_sub hl [] rfl)
            · have hf := (if_neg q6).symm.trans hf
              exact b_X7_begin_40 X F hst hcs XX s ls hf (lv_sub hl [] rfl)
        · have hf := (if_neg q4).symm.trans hf
          exact b_X7_begin_20 X F hst hcs XX s ls hf (lv_sub hl [] rfl)
def rm_X7_checkSwitch (c9 s9 : Nat) : Room := { frames := 6, cells := c9, slots := s9, locals := 82 }
theorem xl_X7_checkSwitch_209 : Cond.classLink RX7 209 "java/lang/IndexOutOfBoundsException" ∈ wsX7_checkSwitch := by decide +kernel
theorem xi_X7_checkSwitch_209 : Cond.initialized "java/lang/IndexOutOfBoundsException" ∈ wsX7_checkSwitch := by decide +kernel
theorem xa_X7_checkSwitch_213 : ∀ w ∈ (vx_atS RX7 213 "java/lang/IndexOutOfBoundsException" ["java/lang/RuntimeException", "java/lang/Exception"]).filter goodWord, w ∈ wsX7_checkSwitch := fun _ h => List.mem_cons_of_mem _ (List.mem_append_right _ h)
theorem in_X7_checkSwitch_X7 : ∀ w ∈ wsX70, w ∈ wsX7_checkSwitch := by decide +kernel
theorem lk_X7_checkSwitch_12 : Cond.fieldLink RX7 12 "Creditfabric" "grid" "LCreditfabric$Grid;" ∈ wsX7_checkSwitch := by decide +kernel
set_option maxHeartbeats 4000000 in
set_option maxRecDepth 100000 in
theorem c_X7_checkSwitch (l : Launch) (hst : l.stackTraces = false) (D : va_G) (cI cZ cJ : ClassId) (a : Nat → Nat) (F : Nat) {s : CS} {r : XR} {x1 : Int32} (hf : r_X7_checkSwitch F x1 s = some r) : x_Mzv l yX7_checkSwitch wsX7_checkSwitch rm_X7_checkSwitch D (x_tys cI cZ cJ) (cwld cI a) [.ref (a 0), .int x1] s r := by
  refine x_enterZv (cc := cX7_checkSwitch) (nL := 2) (own := RX7) hst (by decide) rfl rfl (Nat.le_of_ble_eq_true rfl) ?_
  intro p e S0 m args below meth c A c9 s9 hcs X XX ls hl
  have hl : lv_has ls 2 [(0, .ref (a 0)), (1, .int x1)] := hl
  unfold r_X7_checkSwitch at hf
  refine x_aload_n X dX7_checkSwitch_0 rfl hl 0 rfl ?_
  refine x_getf X in_X7_checkSwitch_X7 (cw_o0 _ _ _) rfl 0 (by decide) lk_X7_checkSwitch_12 rfl rfl dX7_checkSwitch_1 ?_
  refine x_iload_n X dX7_checkSwitch_4 rfl hl 1 rfl ?_
  obtain ⟨v2, s1, c3, hf⟩ := x_ob_of hf
  refine x_cVi X 1 3 (cw_o1 _ _ _) rfl rfl (c_X3_has l D cI cZ cJ a F c3) (cwV 1 X.2.2.2.2.1 gX7_checkSwitch_X3_has rfl rfl rfl (by decide +kernel) ⟨Nat.le_of_ble_eq_true rfl, Nat.le_of_ble_eq_true rfl⟩) rfl hl rfl (Nat.le_of_ble_eq_true rfl) ⟨Nat.zero_le _, Nat.zero_le _⟩ dX7_checkSwitch_5 ?_
  refine x_if_ne (tgt := 21) X dX7_checkSwitch_8 rfl (fun q4 => ?_) (fun q4 => ?_)
  · have hf := (if_neg q4).symm.trans hf
    exact x_vretZ X rfl hf dX7_checkSwitch_21
  · have hf := (if_pos q4).symm.trans hf
    cases Option.some.inj hf
    have hcs := hcs.resolve_left (show (1 : Nat) ≠ 0 by decide)
    refine x_thrZv X (show (1 : Nat) ≠ 0 by decide) ?_
    exact x_thr X XX (show (1 : Nat) ≠ 0 by decide) rfl rfl hl (text := x_str211) (by decide +kernel) xl_X7_checkSwitch_209 xi_X7_checkSwitch_209 xa_X7_checkSwitch_213 xc_213 x_nest_on xg_213 xf_1 xf_nm dX7_checkSwitch_11 dX7_checkSwitch_14 dX7_checkSwitch_15 dX7_checkSwitch_17 dX7_checkSwitch_20 (Nat.le_of_ble_eq_true rfl) (Nat.le_of_ble_eq_true rfl) hcs.1 hcs.2
def rm_X7_checkLane (c9 s9 : Nat) : Room := { frames := 6, cells := c9, slots := s9, locals := 82 }
theorem xl_X7_checkLane_77 : Cond.classLink RX7 77 "java/lang/IllegalArgumentException" ∈ wsX7_checkLane := by decide +kernel
theorem xi_X7_checkLane_77 : Cond.initialized "java/lang/IllegalArgumentException" ∈ wsX7_checkLane := by decide +kernel
theorem xa_X7_checkLane_81 : ∀ w ∈ (vx_atS RX7 81 "java/lang/IllegalArgumentException" ["java/lang/RuntimeException", "java/lang/Exception"]).filter goodWord, w ∈ wsX7_checkLane := fun _ h => List.mem_cons_of_mem _ (List.mem_append_right _ h)
set_option maxHeartbeats 4000000 in
set_option maxRecDepth 100000 in
theorem b_X7_checkLane_19 {p : Program} {l : Launch} {e : Env} {S0 : State} {m : MethodId} {args : Array Value} {below : List Frame} {meth : Method} {c : Code} {A : Nat → Prop} {D : va_G} {cI cZ cJ : ClassId} {a : Nat → Nat} (X : x_X p S0 m args meth c cX7_checkLane 1 none RX7 wsX7_checkLane D (x_tys cI cZ cJ) A) (F : Nat) {r : XR} {c9 s9 : Nat} (hst : l.stackTraces = false) (hcs : r.1 = 0 ∨ (1 ≤ c9 ∧ 6 ≤ s9)) (XX : x_XX l S0 c A)  : ∀ (s : CS) (ls : Array Slot), r_X7_checkLane_b19 F s = some r → lv_has ls 1 [] → x_W p l e (rm_X7_checkLane c9 s9) S0 m args below meth c A D (cwld cI a) 0 0 (x_Rzv below args S0 A D (cwld cI a) r) s (F0 m 19 ls []) := by
  intro s ls hf hl
  unfold r_X7_checkLane_b19 at hf
  exact x_vretZ X rfl hf dX7_checkLane_19
set_option maxHeartbeats 4000000 in
set_option maxRecDepth 100000 in
theorem c_X7_checkLane (l : Launch) (hst : l.stackTraces = false) (D : va_G) (cI cZ cJ : ClassId) (a : Nat → Nat) (F : Nat) {s : CS} {r : XR} {x0 : Int32} (hf : r_X7_checkLane F x0 s = some r) : x_Mzv l yX7_checkLane wsX7_checkLane rm_X7_checkLane D (x_tys cI cZ cJ) (cwld cI a) [.int x0] s r := by
  refine x_enterZv (cc := cX7_checkLane) (nL := 1) (own := RX7) hst (by decide) rfl rfl (Nat.le_of_ble_eq_true rfl) ?_
  intro p e S0 m args below meth c A c9 s9 hcs X XX ls hl
  have hl : lv_has ls 1 [(0, .int x0)] := hl
  unfold r_X7_checkLane at hf
  refine x_iload_n X dX7_checkLane_0 rfl hl 0 rfl ?_
  refine x_if_eq (tgt := 19) X dX7_checkLane_1 rfl (fun q1 => ?_) (fun q1 => ?_)
  · have hf := (if_pos q1).symm.trans hf
    exact b_X7_checkLane_19 X F hst hcs XX s ls hf (lv_sub hl [] rfl)
  · have hf := (if_neg q1).symm.trans hf
    refine x_iload_n X dX7_checkLane_4 rfl hl 0 rfl ?_
    refine x_iconst X dX7_checkLane_5 xk_iconst_1 ?_
    refine x_icmp_eq (tgt := 19) X dX7_checkLane_6 rfl (fun q2 => ?_) (fun q2 => ?_)
    · have hf := (if_pos q2).symm.trans hf
      exact b_X7_checkLane_19 X F hst hcs XX s ls hf (lv_sub hl [] rfl)
    · have hf := (if_neg q2).symm.trans hf
      cases Option.some.inj hf
      have hcs := hcs.resolve_left (show (2 : Nat) ≠ 0 by decide)
      refine x_thrZv X (show (2 : Nat) ≠ 0 by decide) ?_
      exact x_thr X XX (show (2 : Nat) ≠ 0 by decide) rfl rfl hl (text := x_str221) (by decide +kernel) xl_X7_checkLane_77 xi_X7_checkLane_77 xa_X7_checkLane_81 xc_81 x_nest_on xg_81 xf_2 xf_nm dX7_checkLane_9 dX7_checkLane_12 dX7_checkLane_13 dX7_checkLane_15 dX7_checkLane_18 (Nat.le_of_ble_eq_true rfl) (Nat.le_of_ble_eq_true rfl) hcs.1 hcs.2
def rm_X7_send (c9 s9 : Nat) : Room := { frames := 7, cells := c9, slots := s9, locals := 103 }
theorem xl_X7_send_77 : Cond.classLink RX7 77 "java/lang/IllegalArgumentException" ∈ wsX7_send := by decide +kernel
theorem xi_X7_send_77 : Cond.initialized "java/lang/IllegalArgumentException" ∈ wsX7_send := by decide +kernel
theorem xa_X7_send_81 : ∀ w ∈ (vx_atS RX7 81 "java/lang/IllegalArgumentException" ["java/lang/RuntimeException", "java/lang/Exception"]).filter goodWord, w ∈ wsX7_send := fun _ h => List.mem_cons_of_mem _ (List.mem_append_left _ (List.mem_append_left _ (List.mem_append_right _ h)))
theorem xl_X7_send_110 : Cond.classLink RX7 110 "java/lang/IllegalStateException" ∈ wsX7_send := by decide +kernel
theorem xi_X7_send_110 : Cond.initialized "java/lang/IllegalStateException" ∈ wsX7_send := by decide +kernel
theorem xa_X7_send_114 : ∀ w ∈ (vx_atS RX7 114 "java/lang/IllegalStateException" ["java/lang/RuntimeException", "java/lang/Exception"]).filter goodWord, w ∈ wsX7_send := fun _ h => List.mem_cons_of_mem _ (List.mem_append_left _ (List.mem_append_right _ h))
theorem in_X7_send_X4 : ∀ w ∈ wsX40, w ∈ wsX7_send := by decide +kernel
theorem in_X7_send_X7 : ∀ w ∈ wsX70, w ∈ wsX7_send := by decide +kernel
theorem lk_X7_send_21 : Cond.fieldLink RX7 21 "Creditfabric" "traffic" "LCreditfabric$Packets;" ∈ wsX7_send := by decide +kernel
theorem lk_X7_send_28 : Cond.fieldLink RX7 28 "Creditfabric" "buffers" "LCreditfabric$Buffers;" ∈ wsX7_send := by decide +kernel
theorem lk_X7_send_42 : Cond.fieldLink RX7 42 "Creditfabric" "senders" "LCreditfabric$Senders;" ∈ wsX7_send := by decide +kernel
theorem lk_X7_send_115 : Cond.fieldLink RX7 115 "Creditfabric" "now" "I" ∈ wsX7_send := by decide +kernel
set_option maxHeartbeats 4000000 in
set_option maxRecDepth 100000 in
theorem b_X7_send_50 {p : Program} {l : Launch} {e : Env} {S0 : State} {m : MethodId} {args : Array Value} {below : List Frame} {meth : Method} {c : Code} {A : Nat → Prop} {D : va_G} {cI cZ cJ : ClassId} {a : Nat → Nat} (X : x_X p S0 m args meth c cX7_send 7 (some .int) RX7 wsX7_send D (x_tys cI cZ cJ) A) (F : Nat) {r : XR} {c9 s9 : Nat} (hst : l.stackTraces = false) (hcs : r.1 = 0 ∨ (1 ≤ c9 ∧ 6 ≤ s9)) (XX : x_XX l S0 c A)  : ∀ (x1 x2 x3 x4 : Int32) (s : CS) (ls : Array Slot), r_X7_send_b50 F x1 x2 x3 x4 s = some r → lv_has ls 7 [(0, .ref (a 0)), (1, .int x1), (2, .int x2), (3, .int x3), (4, .int x4)] → x_W p l e (rm_X7_send c9 s9) S0 m args below meth c A D (cwld cI a) 0 0 (x_Rz below args S0 A D (cwld cI a) r) s (F0 m 50 ls []) := by
  intro x1 x2 x3 x4 s ls hf hl
  unfold r_X7_send_b50 at hf
  refine x_iload_n X dX7_send_50 rfl hl 1 rfl ?_
  refine x_iconst X dX7_send_51 xk_iconst_4 ?_
  refine x_iload_n X dX7_send_52 rfl hl 3 rfl ?_
  obtain ⟨v13, s12, c14, hf⟩ := x_ob_of hf
  refine x_cSi X (c_X7_bufferOf l D cI cZ cJ a F c14) (va_cwS 3 X.2.2.2.2.1 gX7_send_X7_bufferOf rfl rfl rfl (by decide +kernel) ⟨Nat.le_of_ble_eq_true rfl, Nat.le_of_ble_eq_true rfl⟩) rfl hl rfl (Nat.le_of_ble_eq_true rfl) ⟨Nat.zero_le _, Nat.zero_le _⟩ dX7_send_53 ?_
  refine x_istoreA (lv' := [(5, .int v13), (0, .ref (a 0)), (1, .int x1), (2, .int x2), (3, .int x3), (4, .int x4)]) X dX7_send_56 hl (by decide) rfl (fun ls hl => ?_)
  refine x_aload_n X dX7_send_58 rfl hl 1 rfl ?_
  refine x_getf X in_X7_send_X7 (cw_o0 _ _ _) rfl 2 (by decide) lk_X7_send_28 rfl rfl dX7_send_59 ?_
  refine x_iload X dX7_send_62 hl 0 rfl ?_
  obtain ⟨v16, s15, c17, hf⟩ := x_ob_of hf
  refine x_cVi X 3 0 (cw_o3 _ _ _) rfl rfl (c_X0_isFull l D cI cZ cJ a F c17) (cwV 1 X.2.2.2.2.1 gX7_send_X0_isFull rfl rfl rfl (by decide +kernel) ⟨Nat.le_of_ble_eq_true rfl, Nat.le_of_ble_eq_true rfl⟩) rfl hl rfl (Nat.le_of_ble_eq_true rfl) ⟨Nat.zero_le _, Nat.zero_le _⟩ dX7_send_64 ?_
  refine x_if_eq (tgt := 80) X dX7_send_67 rfl (fun q18 => ?_) (fun q18 => ?_)
  · have hf := (if_pos q18).symm.trans hf
    refine x_aload_n X dX7_send_80 rfl hl 1 rfl ?_
    refine x_getf X in_X7_send_X7 (cw_o0 _ _ _) rfl 4 (by decide) lk_X7_send_42 rfl rfl dX7_send_81 ?_
    refine x_iload_n X dX7_send_84 rfl hl 2 rfl ?_
    refine x_aload_n X dX7_send_85 rfl hl 1 rfl ?_
    refine x_getf X in_X7_send_X7 (cw_o0 _ _ _) rfl 11 (by decide) lk_X7_send_115 rfl rfl dX7_send_86 ?_
    obtain ⟨v20, s19, c21, hf⟩ := x_ob_of hf
    refine x_cVi X 5 6 (cw_o5 _ _ _) rfl rfl (c_X6_isReady l D cI cZ cJ a F c21) (cwV 2 X.2.2.2.2.1 gX7_send_X6_isReady rfl rfl rfl (by decide +kernel) ⟨Nat.le_of_ble_eq_true rfl, Nat.le_of_ble_eq_true rfl⟩) rfl hl rfl (Nat.le_of_ble_eq_true rfl) ⟨Nat.zero_le _, Nat.zero_le _⟩ dX7_send_89 ?_
    refine x_if_ne (tgt := 105) X dX7_send_92 rfl (fun q22 => ?_) (fun q22 => ?_)
    · have hf := (if_neg q22).symm.trans hf
      refine x_aload_n X dX7_send_105 rfl hl 1 rfl ?_
      refine x_getf X in_X7_send_X7 (cw_o0 _ _ _) rfl 1 (by decide) lk_X7_send_21 rfl rfl dX7_send_106 ?_
      refine x_getN X in_X7_send_X4 (cw_o2 _ _ _) rfl 9 (by decide) (by decide +kernel) rfl rfl dX7_send_109 ?_
      refine x_bipush X dX7_send_112 xk_bipush_80 ?_
      refine x_icmp_lt (tgt := 127) X dX7_send_114 rfl (fun q23 => ?_) (fun q23 => ?_)
      · have hf := (if_pos q23).symm.trans hf
        refine x_aload_n X dX7_send_127 rfl hl 1 rfl ?_
        refine x_getf X in_X7_send_X7 (cw_o0 _ _ _) rfl 1 (by decide) lk_X7_send_21 rfl rfl dX7_send_128 ?_
        refine x_iload_n X dX7_send_131 rfl hl 2 rfl ?_
        refine x_iload_n X dX7_send_132 rfl hl 3 rfl ?_
        refine x_iload_n X dX7_send_133 rfl hl 4 rfl ?_
        refine x_iload X dX7_send_134 hl 5 rfl ?_
        obtain ⟨v25, s24, c26, hf⟩ := x_ob_of hf
        refine x_cVi X 2 4 (cw_o2 _ _ _) rfl rfl (c_X4_add l D cI cZ cJ a F c26) (cwV 4 X.2.2.2.2.1 gX7_send_X4_add rfl rfl rfl (by decide +kernel) ⟨Nat.le_of_ble_eq_true rfl, Nat.le_of_ble_eq_true rfl⟩) rfl hl rfl (Nat.le_of_ble_eq_true rfl) ⟨Nat.zero_le _, Nat.zero_le _⟩ dX7_send_136 ?_
        refine x_istoreA (lv' := [(6, .int v25), (5, .int v13), (0, .ref (a 0)), (1, .int x1), (2, .int x2), (3, .int x3), (4, .int x4)]) X dX7_send_139 hl (by decide) rfl (fun ls hl => ?_)
        refine x_aload_n X dX7_send_141 rfl hl 2 rfl ?_
        refine x_getf X in_X7_send_X7 (cw_o0 _ _ _) rfl 2 (by decide) lk_X7_send_28 rfl rfl dX7_send_142 ?_
        refine x_iload X dX7_send_145 hl 1 rfl ?_
        refine x_iload X dX7_send_147 hl 0 rfl ?_
        obtain ⟨v28, s27, c29, hf⟩ := x_ob_of hf
        refine x_cVv X 3 0 (cw_o3 _ _ _) rfl rfl (c_X0_append l D cI cZ cJ a F c29) (cwV 2 X.2.2.2.2.1 gX7_send_X0_append rfl rfl rfl (by decide +kernel) ⟨Nat.le_of_ble_eq_true rfl, Nat.le_of_ble_eq_true rfl⟩) rfl hl rfl (Nat.le_of_ble_eq_true rfl) ⟨Nat.zero_le _, Nat.zero_le _⟩ dX7_send_149 ?_
        refine x_aload_n X dX7_send_152 rfl hl 2 rfl ?_
        refine x_getf X in_X7_send_X7 (cw_o0 _ _ _) rfl 4 (by decide) lk_X7_send_42 rfl rfl dX7_send_153 ?_
        refine x_iload_n X dX7_send_156 rfl hl 3 rfl ?_
        refine x_aload_n X dX7_send_157 rfl hl 2 rfl ?_
        refine x_getf X in_X7_send_X7 (cw_o0 _ _ _) rfl 11 (by decide) lk_X7_send_115 rfl rfl dX7_send_158 ?_
        obtain ⟨v31, s30, c32, hf⟩ := x_ob_of hf
        refine x_cVv X 5 6 (cw_o5 _ _ _) rfl rfl (c_X6_note l D cI cZ cJ a F c32) (cwV 2 X.2.2.2.2.1 gX7_send_X6_note rfl rfl rfl (by decide +kernel) ⟨Nat.le_of_ble_eq_true rfl, Nat.le_of_ble_eq_true rfl⟩) rfl hl rfl (Nat.le_of_ble_eq_true rfl) ⟨Nat.zero_le _, Nat.zero_le _⟩ dX7_send_161 ?_
        refine x_iload X dX7_send_164 hl 0 rfl ?_
        exact x_iretZ X rfl rfl hf dX7_send_166
      · have hf := (if_neg q23).symm.trans hf
        cases Option.some.inj hf
        have hcs := hcs.resolve_left (show (3 : Nat) ≠ 0 by decide)
        refine x_thrZ X (show (3 : Nat) ≠ 0 by decide) ?_
        exact x_thr X XX (show (3 : Nat) ≠ 0 by decide) rfl rfl hl (text := x_str128) (by decide +kernel) xl_X7_send_110 xi_X7_send_110 xa_X7_send_114 xc_114 x_nest_on xg_114 xf_3 xf_nm dX7_send_117 dX7_send_120 dX7_send_121 dX7_send_123 dX7_send_126 (Nat.le_of_ble_eq_true rfl) (Nat.le_of_ble_eq_true rfl) hcs.1 hcs.2
    · have hf := (if_pos q22).symm.trans hf
      cases Option.some.inj hf
      have hcs := hcs.resolve_left (show (3 : Nat) ≠ 0 by decide)
      refine x_thrZ X (show (3 : Nat) ≠ 0 by decide) ?_
      exact x_thr X XX (show (3 : Nat) ≠ 0 by decide) rfl rfl hl (text := x_str123) (by decide +kernel) xl_X7_send_110 xi_X7_send_110 xa_X7_send_114 xc_114 x_nest_on xg_114 xf_3 xf_nm dX7_send_95 dX7_send_98 dX7_send_99 dX7_send_101 dX7_send_104 (Nat.le_of_ble_eq_true rfl) (Nat.le_of_ble_eq_true rfl) hcs.1 hcs.2
  · have hf := (if_neg q18).symm.trans hf
    cases Option.some.inj hf
    have hcs := hcs.resolve_left (show (3 : Nat) ≠ 0 by decide)
    refine x_thrZ X (show (3 : Nat) ≠ 0 by decide) ?_
    exact x_thr X XX (show (3 : Nat) ≠ 0 by decide) rfl rfl hl (text := x_str112) (by decide +kernel) xl_X7_send_110 xi_X7_send_110 xa_X7_send_114 xc_114 x_nest_on xg_114 xf_3 xf_nm dX7_send_70 dX7_send_73 dX7_send_74 dX7_send_76 dX7_send_79 (Nat.le_of_ble_eq_true rfl) (Nat.le_of_ble_eq_true rfl) hcs.1 hcs.2
set_option maxHeartbeats 4000000 in
set_option maxRecDepth 100000 in
theorem c_X7_send (l : Launch) (hst : l.stackTraces = false) (D : va_G) (cI cZ cJ : ClassId) (a : Nat → Nat) (F : Nat) {s : CS} {r : XR} {x1 x2 x3 x4 : Int32} (hf : r_X7_send F x1 x2 x3 x4 s = some r) : x_Mz l yX7_send wsX7_send rm_X7_send D (x_tys cI cZ cJ) (cwld cI a) [.ref (a 0), .int x1, .int x2, .int x3, .int x4] s r := by
  refine x_enterZi (cc := cX7_send) (nL := 7) (ty := .int) (own := RX7) hst (by decide) rfl rfl (Nat.le_of_ble_eq_true rfl) ?_
  intro p e S0 m args below meth c A c9 s9 hcs X XX ls hl
  have hl : lv_has ls 7 [(0, .ref (a 0)), (1, .int x1), (2, .int x2), (3, .int x3), (4, .int x4)] := hl
  unfold r_X7_send at hf
  refine x_aload_n X dX7_send_0 rfl hl 0 rfl ?_
  refine x_iload_n X dX7_send_1 rfl hl 1 rfl ?_
  obtain ⟨q1, c2, ⟨h3, hf⟩ | ⟨h3, hf⟩⟩ := x_obx_of hf
  · refine x_zVv X XX 0 7 (cw_o0 _ _ _) rfl rfl h3 (c_X7_checkSwitch l hst D cI cZ cJ a F c2) (cwV 1 X.2.2.2.2.1 gX7_send_X7_checkSwitch rfl rfl rfl (by decide +kernel) ⟨Nat.le_of_ble_eq_true rfl, Nat.le_of_ble_eq_true rfl⟩) rfl hl rfl (Nat.le_of_ble_eq_true rfl) ⟨Nat.zero_le _, Nat.zero_le _⟩ dX7_send_2 ?_
    refine x_aload_n X dX7_send_5 rfl hl 0 rfl ?_
    refine x_iload_n X dX7_send_6 rfl hl 2 rfl ?_
    obtain ⟨q4, c5, ⟨h6, hf⟩ | ⟨h6, hf⟩⟩ := x_obx_of hf
    · refine x_zVv X XX 0 7 (cw_o0 _ _ _) rfl rfl h6 (c_X7_checkSwitch l hst D cI cZ cJ a F c5) (cwV 1 X.2.2.2.2.1 gX7_send_X7_checkSwitch rfl rfl rfl (by decide +kernel) ⟨Nat.le_of_ble_eq_true rfl, Nat.le_of_ble_eq_true rfl⟩) rfl hl rfl (Nat.le_of_ble_eq_true rfl) ⟨Nat.zero_le _, Nat.zero_le _⟩ dX7_send_7 ?_
      refine x_iload_n X dX7_send_10 rfl hl 1 rfl ?_
      refine x_iload_n X dX7_send_11 rfl hl 2 rfl ?_
      refine x_icmp_ne (tgt := 25) X dX7_send_12 rfl (fun q7 => ?_) (fun q7 => ?_)
      · have hf := (if_neg q7).symm.trans hf
        refine x_iload_n X dX7_send_25 rfl hl 3 rfl ?_
        obtain ⟨q8, c9, ⟨h10, hf⟩ | ⟨h10, hf⟩⟩ := x_obx_of hf
        · refine x_zSv X XX h10 (c_X7_checkLane l hst D cI cZ cJ a F c9) (va_cwS 1 X.2.2.2.2.1 gX7_send_X7_checkLane rfl rfl rfl (by decide +kernel) ⟨Nat.le_of_ble_eq_true rfl, Nat.le_of_ble_eq_true rfl⟩) rfl hl rfl (Nat.le_of_ble_eq_true rfl) ⟨Nat.zero_le _, Nat.zero_le _⟩ dX7_send_26 ?_
          refine x_iload X dX7_send_29 hl 4 rfl ?_
          refine x_if_eq (tgt := 50) X dX7_send_31 rfl (fun q11 => ?_) (fun q11 => ?_)
          · have hf := (if_pos q11).symm.trans hf
            exact b_X7_send_50 X F hst hcs XX x1 x2 x3 x4 q8.2.2 ls hf (lv_sub hl [0, 1, 2, 3, 4] rfl)
          · have hf := (if_neg q11).symm.trans hf
            refine x_iload X dX7_send_34 hl 4 rfl ?_
            refine x_iconst X dX7_send_36 xk_iconst_1 ?_
            refine x_icmp_eq (tgt := 50) X dX7_send_37 rfl (fun q33 => ?_) (fun q33 => ?_)
            · have hf := (if_pos q33).symm.trans hf
              exact b_X7_send_50 X F hst hcs XX x1 x2 x3 x4 q8.2.2 ls hf (lv_sub hl [0, 1, 2, 3, 4] rfl)
            · have hf := (if_neg q33).symm.trans hf
              cases Option.some.inj hf
              have hcs := hcs.resolve_left (show (2 : Nat) ≠ 0 by decide)
              refine x_thrZ X (show (2 : Nat) ≠ 0 by decide) ?_
              exact x_thr X XX (show (2 : Nat) ≠ 0 by decide) rfl rfl hl (text := x_str100) (by decide +kernel) xl_X7_send_77 xi_X7_send_77 xa_X7_send_81 xc_81 x_nest_on xg_81 xf_2 xf_nm dX7_send_40 dX7_send_43 dX7_send_44 dX7_send_46 dX7_send_49 (Nat.le_of_ble_eq_true rfl) (Nat.le_of_ble_eq_true rfl) hcs.1 hcs.2
        · have hr0 : r.1 ≠ 0 := by cases Option.some.inj hf; exact h10
          refine x_thrZ X hr0 ?_
          exact x_zxS X XX h10 hf ((c_X7_checkLane l hst D cI cZ cJ a F c9).2 h10) (va_cwS 1 X.2.2.2.2.1 gX7_send_X7_checkLane rfl rfl rfl (by decide +kernel) ⟨Nat.le_of_ble_eq_true rfl, Nat.le_of_ble_eq_true rfl⟩) rfl hl rfl (Nat.le_of_ble_eq_true rfl) (hcs.resolve_left hr0) dX7_send_26
      · have hf := (if_pos q7).symm.trans hf
        cases Option.some.inj hf
        have hcs := hcs.resolve_left (show (2 : Nat) ≠ 0 by decide)
        refine x_thrZ X (show (2 : Nat) ≠ 0 by decide) ?_
        exact x_thr X XX (show (2 : Nat) ≠ 0 by decide) rfl rfl hl (text := x_str95) (by decide +kernel) xl_X7_send_77 xi_X7_send_77 xa_X7_send_81 xc_81 x_nest_on xg_81 xf_2 xf_nm dX7_send_15 dX7_send_18 dX7_send_19 dX7_send_21 dX7_send_24 (Nat.le_of_ble_eq_true rfl) (Nat.le_of_ble_eq_true rfl) hcs.1 hcs.2
    · have hr0 : r.1 ≠ 0 := by cases Option.some.inj hf; exact h6
      refine x_thrZ X hr0 ?_
      exact x_zxV X XX 0 7 (cw_o0 _ _ _) rfl rfl h6 hf ((c_X7_checkSwitch l hst D cI cZ cJ a F c5).2 h6) (cwV 1 X.2.2.2.2.1 gX7_send_X7_checkSwitch rfl rfl rfl (by decide +kernel) ⟨Nat.le_of_ble_eq_true rfl, Nat.le_of_ble_eq_true rfl⟩) rfl hl rfl (Nat.le_of_ble_eq_true rfl) (hcs.resolve_left hr0) dX7_send_7
  · have hr0 : r.1 ≠ 0 := by cases Option.some.inj hf; exact h3
    refine x_thrZ X hr0 ?_
    exact x_zxV X XX 0 7 (cw_o0 _ _ _) rfl rfl h3 hf ((c_X7_checkSwitch l hst D cI cZ cJ a F c2).2 h3) (cwV 1 X.2.2.2.2.1 gX7_send_X7_checkSwitch rfl rfl rfl (by decide +kernel) ⟨Nat.le_of_ble_eq_true rfl, Nat.le_of_ble_eq_true rfl⟩) rfl hl rfl (Nat.le_of_ble_eq_true rfl) (hcs.resolve_left hr0) dX7_send_2
def rm_X7_run (c9 s9 : Nat) : Room := { frames := 6, cells := c9, slots := s9, locals := 117 }
theorem xl_X7_run_77 : Cond.classLink RX7 77 "java/lang/IllegalArgumentException" ∈ wsX7_run := by decide +kernel
theorem xi_X7_run_77 : Cond.initialized "java/lang/IllegalArgumentException" ∈ wsX7_run := by decide +kernel
theorem xa_X7_run_81 : ∀ w ∈ (vx_atS RX7 81 "java/lang/IllegalArgumentException" ["java/lang/RuntimeException", "java/lang/Exception"]).filter goodWord, w ∈ wsX7_run := fun _ h => List.mem_cons_of_mem _ (List.mem_append_right _ h)
theorem in_X7_run_X4 : ∀ w ∈ wsX40, w ∈ wsX7_run := by decide +kernel
theorem in_X7_run_X7 : ∀ w ∈ wsX70, w ∈ wsX7_run := by decide +kernel
theorem lk_X7_run_21 : Cond.fieldLink RX7 21 "Creditfabric" "traffic" "LCreditfabric$Packets;" ∈ wsX7_run := by decide +kernel
set_option maxHeartbeats 4000000 in
set_option maxRecDepth 100000 in
theorem b_X7_run_11 {p : Program} {l : Launch} {e : Env} {S0 : State} {m : MethodId} {args : Array Value} {below : List Frame} {meth : Method} {c : Code} {A : Nat → Prop} {D : va_G} {cI cZ cJ : ClassId} {a : Nat → Nat} (X : x_X p S0 m args meth c cX7_run 4 (some .int) RX7 wsX7_run D (x_tys cI cZ cJ) A) (F : Nat) {r : XR} {c9 s9 : Nat} (hst : l.stackTraces = false) (hcs : r.1 = 0 ∨ (1 ≤ c9 ∧ 6 ≤ s9)) (XX : x_XX l S0 c A)  : ∀ (s : CS) (ls : Array Slot), r_X7_run_b11 F s = some r → lv_has ls 4 [] → x_W p l e (rm_X7_run c9 s9) S0 m args below meth c A D (cwld cI a) 0 0 (x_Rz below args S0 A D (cwld cI a) r) s (F0 m 11 ls []) := by
  intro s ls hf hl
  unfold r_X7_run_b11 at hf
  cases Option.some.inj hf
  have hcs := hcs.resolve_left (show (2 : Nat) ≠ 0 by decide)
  refine x_thrZ X (show (2 : Nat) ≠ 0 by decide) ?_
  exact x_thr X XX (show (2 : Nat) ≠ 0 by decide) rfl rfl hl (text := x_str141) (by decide +kernel) xl_X7_run_77 xi_X7_run_77 xa_X7_run_81 xc_81 x_nest_on xg_81 xf_2 xf_nm dX7_run_11 dX7_run_14 dX7_run_15 dX7_run_17 dX7_run_20 (Nat.le_of_ble_eq_true rfl) (Nat.le_of_ble_eq_true rfl) hcs.1 hcs.2
set_option maxHeartbeats 4000000 in
set_option maxRecDepth 100000 in
theorem b_X7_run_31 {p : Program} {l : Launch} {e : Env} {S0 : State} {m : MethodId} {args : Array Value} {below : List Frame} {meth : Method} {c : Code} {A : Nat → Prop} {D : va_G} {cI cZ cJ : ClassId} {a : Nat → Nat} (X : x_X p S0 m args meth c cX7_run 4 (some .int) RX7 wsX7_run D (x_tys cI cZ cJ) A) (F : Nat) {r : XR} {c9 s9 : Nat} (hst : l.stackTraces = false) (hcs : r.1 = 0 ∨ (1 ≤ c9 ∧ 6 ≤ s9)) (XX : x_XX l S0 c A)  : ∀ (n : Nat) (x1 x2 x3 : Int32) (s : CS) (ls : Array Slot), r_X7_run_b31 F n x1 x2 x3 s = some r → lv_has ls 4 [(0, .ref (a 0)), (1, .int x1), (2, .int x2), (3, .int x3)] → x_W p l e (rm_X7_run c9 s9) S0 m args below meth c A D (cwld cI a) 0 0 (x_Rz below args S0 A D (cwld cI a) r) s (F0 m 31 ls []) := by
  intro n
  induction n with
  | zero =>
    intro x1 x2 x3 s ls hf hl
    have hf : (none : Option XR) = some r := hf
    cases hf
  | succ n ih =>
    intro x1 x2 x3 s ls hf hl
    rw [r_X7_run_b31_s] at hf
    refine x_iload_n X dX7_run_31 rfl hl 3 rfl ?_
    refine x_iload_n X dX7_run_32 rfl hl 1 rfl ?_
    refine x_icmp_ge (tgt := 46) X dX7_run_33 rfl (fun q4 => ?_) (fun q4 => ?_)
    · have hf := (if_pos q4).symm.trans hf
      refine x_aload_n X dX7_run_46 rfl hl 0 rfl ?_
      refine x_getf X in_X7_run_X7 (cw_o0 _ _ _) rfl 1 (by decide) lk_X7_run_21 rfl rfl dX7_run_47 ?_
      refine x_getN X in_X7_run_X4 (cw_o2 _ _ _) rfl 10 (by decide) (by decide +kernel) rfl rfl dX7_run_50 ?_
      refine x_iload_n X dX7_run_53 rfl hl 2 rfl ?_
      refine x_isub X dX7_run_54 ?_
      exact x_iretZ X rfl rfl hf dX7_run_55
    · have hf := (if_neg q4).symm.trans hf
      refine x_aload_n X dX7_run_36 rfl hl 0 rfl ?_
      obtain ⟨v6, s5, c7, hf⟩ := x_ob_of hf
      refine x_cVv X 0 7 (cw_o0 _ _ _) rfl rfl (c_X7_runOne l D cI cZ cJ a F c7) (cwV 0 X.2.2.2.2.1 gX7_run_X7_runOne rfl rfl rfl (by decide +kernel) ⟨Nat.le_of_ble_eq_true rfl, Nat.le_of_ble_eq_true rfl⟩) rfl hl rfl (Nat.le_of_ble_eq_true rfl) ⟨Nat.zero_le _, Nat.zero_le _⟩ dX7_run_37 ?_
      refine x_iinc (v := (x3 + (1 : Int32))) (lv' := [(3, .int (x3 + (1 : Int32))), (0, .ref (a 0)), (1, .int x1), (2, .int x2)]) X dX7_run_40 hl (j := 3) rfl rfl (by decide) rfl (fun ls hl => ?_)
      refine x_goto (tgt := 31) X dX7_run_43 rfl ?_
      exact ih x1 x2 (x3 + (1 : Int32)) s5 ls hf (lv_sub hl [1, 2, 3, 0] rfl)
set_option maxHeartbeats 4000000 in
set_option maxRecDepth 100000 in
theorem c_X7_run (l : Launch) (hst : l.stackTraces = false) (D : va_G) (cI cZ cJ : ClassId) (a : Nat → Nat) (F : Nat) {s : CS} {r : XR} {x1 : Int32} (hf : r_X7_run F x1 s = some r) : x_Mz l yX7_run wsX7_run rm_X7_run D (x_tys cI cZ cJ) (cwld cI a) [.ref (a 0), .int x1] s r := by
  refine x_enterZi (cc := cX7_run) (nL := 4) (ty := .int) (own := RX7) hst (by decide) rfl rfl (Nat.le_of_ble_eq_true rfl) ?_
  intro p e S0 m args below meth c A c9 s9 hcs X XX ls hl
  have hl : lv_has ls 4 [(0, .ref (a 0)), (1, .int x1)] := hl
  unfold r_X7_run at hf
  refine x_iload_n X dX7_run_0 rfl hl 1 rfl ?_
  refine x_iconst X dX7_run_1 xk_iconst_1 ?_
  refine x_icmp_lt (tgt := 11) X dX7_run_2 rfl (fun q1 => ?_) (fun q1 => ?_)
  · have hf := (if_pos q1).symm.trans hf
    exact b_X7_run_11 X F hst hcs XX s ls hf (lv_sub hl [] rfl)
  · have hf := (if_neg q1).symm.trans hf
    refine x_iload_n X dX7_run_5 rfl hl 1 rfl ?_
    refine x_bipush X dX7_run_6 xk_bipush_50 ?_
    refine x_icmp_le (tgt := 21) X dX7_run_8 rfl (fun q2 => ?_) (fun q2 => ?_)
    · have hf := (if_pos q2).symm.trans hf
      refine x_aload_n X dX7_run_21 rfl hl 0 rfl ?_
      refine x_getf X in_X7_run_X7 (cw_o0 _ _ _) rfl 1 (by decide) lk_X7_run_21 rfl rfl dX7_run_22 ?_
      refine x_getN X in_X7_run_X4 (cw_o2 _ _ _) rfl 10 (by decide) (by decide +kernel) rfl rfl dX7_run_25 ?_
      refine x_istore_n (lv' := [(0, .ref (a 0)), (1, .int x1)]) X dX7_run_28 rfl hl (by decide) (fun _ => rfl) (fun x2_3 ls ex2_3 hl => ?_)
      have hf := x_oi_of ex2_3 hf
      refine x_iconst X dX7_run_29 xk_iconst_0 ?_
      refine x_istoreA_n (lv' := [(3, .int (0 : Int32)), (2, .int x2_3), (0, .ref (a 0)), (1, .int x1)]) X dX7_run_30 rfl hl (by decide) rfl (fun ls hl => ?_)
      exact b_X7_run_31 X F hst hcs XX F x1 x2_3 (0 : Int32) s ls hf (lv_sub hl [2, 3, 1, 0] rfl)
    · have hf := (if_neg q2).symm.trans hf
      exact b_X7_run_11 X F hst hcs XX s ls hf (lv_sub hl [] rfl)
def rm_X7_pause (c9 s9 : Nat) : Room := { frames := 7, cells := c9, slots := s9, locals := 103 }
theorem in_X7_pause_X7 : ∀ w ∈ wsX70, w ∈ wsX7_pause := by decide +kernel
theorem lk_X7_pause_60 : Cond.fieldLink RX7 60 "Creditfabric" "paused" "LCreditfabric$Row;" ∈ wsX7_pause := by decide +kernel
set_option maxHeartbeats 4000000 in
set_option maxRecDepth 100000 in
theorem b_X7_pause_36 {p : Program} {l : Launch} {e : Env} {S0 : State} {m : MethodId} {args : Array Value} {below : List Frame} {meth : Method} {c : Code} {A : Nat → Prop} {D : va_G} {cI cZ cJ : ClassId} {a : Nat → Nat} (X : x_X p S0 m args meth c cX7_pause 4 (some .boolean) RX7 wsX7_pause D (x_tys cI cZ cJ) A) (F : Nat) {r : XR} {c9 s9 : Nat} (hst : l.stackTraces = false) (hcs : r.1 = 0 ∨ (1 ≤ c9 ∧ 6 ≤ s9)) (XX : x_XX l S0 c A)  : ∀ (x3 t0 t1 : Int32) (s : CS) (ls : Array Slot), r_X7_pause_b36 F x3 t0 t1 s = some r → lv_has ls 4 [(3, .int x3)] → x_W p l e (rm_X7_pause c9 s9) S0 m args below meth c A D (cwld cI a) 0 0 (x_Rz below args S0 A D (cwld cI a) r) s (F0 m 36 ls [.int t0, .int t1, .ref (a (7 + 0))]) := by
  intro x3 t0 t1 s ls hf hl
  unfold r_X7_pause_b36 at hf
  obtain ⟨v10, s9, c11, hf⟩ := x_ob_of hf
  refine x_cVv X (7 + 0) 5 (cw_row (by decide : 0 < 22)) rfl rfl (c_X5_put l D cI cZ cJ a (k := 0) (by decide) F c11) (cwV 2 X.2.2.2.2.1 gX7_pause_X5_put rfl rfl rfl (by decide +kernel) ⟨Nat.le_of_ble_eq_true rfl, Nat.le_of_ble_eq_true rfl⟩) rfl hl rfl (Nat.le_of_ble_eq_true rfl) ⟨Nat.zero_le _, Nat.zero_le _⟩ dX7_pause_36 ?_
  refine x_iload_n X dX7_pause_39 rfl hl 0 rfl ?_
  obtain ⟨g12, hf⟩ := x_og_of hf
  exact x_iretZ X rfl (x_bo_of g12) hf dX7_pause_40
set_option maxHeartbeats 4000000 in
set_option maxRecDepth 100000 in
theorem b_X7_pause_21 {p : Program} {l : Launch} {e : Env} {S0 : State} {m : MethodId} {args : Array Value} {below : List Frame} {meth : Method} {c : Code} {A : Nat → Prop} {D : va_G} {cI cZ cJ : ClassId} {a : Nat → Nat} (X : x_X p S0 m args meth c cX7_pause 4 (some .boolean) RX7 wsX7_pause D (x_tys cI cZ cJ) A) (F : Nat) {r : XR} {c9 s9 : Nat} (hst : l.stackTraces = false) (hcs : r.1 = 0 ∨ (1 ≤ c9 ∧ 6 ≤ s9)) (XX : x_XX l S0 c A)  : ∀ (x1 x2 t0 : Int32) (s : CS) (ls : Array Slot), r_X7_pause_b21 F x1 x2 t0 s = some r → lv_has ls 4 [(0, .ref (a 0)), (1, .int x1), (2, .int x2)] → x_W p l e (rm_X7_pause c9 s9) S0 m args below meth c A D (cwld cI a) 0 0 (x_Rz below args S0 A D (cwld cI a) r) s (F0 m 21 ls [.int t0]) := by
  intro x1 x2 t0 s ls hf hl
  unfold r_X7_pause_b21 at hf
  refine x_istoreA_n (lv' := [(3, .int t0), (0, .ref (a 0)), (1, .int x1), (2, .int x2)]) X dX7_pause_21 rfl hl (by decide) rfl (fun ls hl => ?_)
  refine x_aload_n X dX7_pause_22 rfl hl 1 rfl ?_
  refine x_getf X in_X7_pause_X7 (cw_o0 _ _ _) rfl 6 (by decide) lk_X7_pause_60 rfl rfl dX7_pause_23 ?_
  refine x_iload_n X dX7_pause_26 rfl hl 2 rfl ?_
  refine x_iload_n X dX7_pause_27 rfl hl 3 rfl ?_
  refine x_if_eq (tgt := 35) X dX7_pause_28 rfl (fun q8 => ?_) (fun q8 => ?_)
  · have hf := (if_pos q8).symm.trans hf
    refine x_iconst X dX7_pause_35 xk_iconst_0 ?_
    exact b_X7_pause_36 X F hst hcs XX t0 (0 : Int32) x1 s ls hf (lv_sub hl [0] rfl)
  · have hf := (if_neg q8).symm.trans hf
    refine x_iconst X dX7_pause_31 xk_iconst_1 ?_
    refine x_goto (tgt := 36) X dX7_pause_32 rfl ?_
    exact b_X7_pause_36 X F hst hcs XX t0 (1 : Int32) x1 s ls hf (lv_sub hl [0] rfl)
set_option maxHeartbeats 4000000 in
set_option maxRecDepth 100000 in
theorem c_X7_pause (l : Launch) (hst : l.stackTraces = false) (D : va_G) (cI cZ cJ : ClassId) (a : Nat → Nat) (F : Nat) {s : CS} {r : XR} {x1 x2 : Int32} (hf : r_X7_pause F x1 x2 s = some r) : x_Mz l yX7_pause wsX7_pause rm_X7_pause D (x_tys cI cZ cJ) (cwld cI a) [.ref (a 0), .int x1, .int x2] s r := by
  refine x_enterZi (cc := cX7_pause) (nL := 4) (ty := .boolean) (own := RX7) hst (by decide) rfl rfl (Nat.le_of_ble_eq_true rfl) ?_
  intro p e S0 m args below meth c A c9 s9 hcs X XX ls hl
  have hl : lv_has ls 4 [(0, .ref (a 0)), (1, .int x1), (2, .int x2)] := hl
  unfold r_X7_pause at hf
  refine x_aload_n X dX7_pause_0 rfl hl 0 rfl ?_
  refine x_iload_n X dX7_pause_1 rfl hl 1 rfl ?_
  obtain ⟨q1, c2, ⟨h3, hf⟩ | ⟨h3, hf⟩⟩ := x_obx_of hf
  · refine x_zVv X XX 0 7 (cw_o0 _ _ _) rfl rfl h3 (c_X7_checkSwitch l hst D cI cZ cJ a F c2) (cwV 1 X.2.2.2.2.1 gX7_pause_X7_checkSwitch rfl rfl rfl (by decide +kernel) ⟨Nat.le_of_ble_eq_true rfl, Nat.le_of_ble_eq_true rfl⟩) rfl hl rfl (Nat.le_of_ble_eq_true rfl) ⟨Nat.zero_le _, Nat.zero_le _⟩ dX7_pause_2 ?_
    refine x_aload_n X dX7_pause_5 rfl hl 0 rfl ?_
    refine x_getf X in_X7_pause_X7 (cw_o0 _ _ _) rfl 6 (by decide) lk_X7_pause_60 rfl rfl dX7_pause_6 ?_
    refine x_iload_n X dX7_pause_9 rfl hl 1 rfl ?_
    obtain ⟨v5, s4, c6, hf⟩ := x_ob_of hf
    refine x_cVi X (7 + 0) 5 (cw_row (by decide : 0 < 22)) rfl rfl (c_X5_at l D cI cZ cJ a (k := 0) (by decide) F c6) (cwV 1 X.2.2.2.2.1 gX7_pause_X5_at rfl rfl rfl (by decide +kernel) ⟨Nat.le_of_ble_eq_true rfl, Nat.le_of_ble_eq_true rfl⟩) rfl hl rfl (Nat.le_of_ble_eq_true rfl) ⟨Nat.zero_le _, Nat.zero_le _⟩ dX7_pause_10 ?_
    refine x_if_eq (tgt := 20) X dX7_pause_13 rfl (fun q7 => ?_) (fun q7 => ?_)
    · have hf := (if_pos q7).symm.trans hf
      refine x_iconst X dX7_pause_20 xk_iconst_0 ?_
      exact b_X7_pause_21 X F hst hcs XX x1 x2 (0 : Int32) s4 ls hf (lv_sub hl [0, 1, 2] rfl)
    · have hf := (if_neg q7).symm.trans hf
      refine x_iconst X dX7_pause_16 xk_iconst_1 ?_
      refine x_goto (tgt := 21) X dX7_pause_17 rfl ?_
      exact b_X7_pause_21 X F hst hcs XX x1 x2 (1 : Int32) s4 ls hf (lv_sub hl [0, 1, 2] rfl)
  · have hr0 : r.1 ≠ 0 := by cases Option.some.inj hf; exact h3
    refine x_thrZ X hr0 ?_
    exact x_zxV X XX 0 7 (cw_o0 _ _ _) rfl rfl h3 hf ((c_X7_checkSwitch l hst D cI cZ cJ a F c2).2 h3) (cwV 1 X.2.2.2.2.1 gX7_pause_X7_checkSwitch rfl rfl rfl (by decide +kernel) ⟨Nat.le_of_ble_eq_true rfl, Nat.le_of_ble_eq_true rfl⟩) rfl hl rfl (Nat.le_of_ble_eq_true rfl) (hcs.resolve_left hr0) dX7_pause_2
def rm_X7_checkLink (c9 s9 : Nat) : Room := { frames := 7, cells := c9, slots := s9, locals := 103 }
theorem xl_X7_checkLink_209 : Cond.classLink RX7 209 "java/lang/IndexOutOfBoundsException" ∈ wsX7_checkLink := by decide +kernel
theorem xi_X7_checkLink_209 : Cond.initialized "java/lang/IndexOutOfBoundsException" ∈ wsX7_checkLink := by decide +kernel
theorem xa_X7_checkLink_213 : ∀ w ∈ (vx_atS RX7 213 "java/lang/IndexOutOfBoundsException" ["java/lang/RuntimeException", "java/lang/Exception"]).filter goodWord, w ∈ wsX7_checkLink := fun _ h => List.mem_cons_of_mem _ (List.mem_append_right _ h)
theorem in_X7_checkLink_X7 : ∀ w ∈ wsX70, w ∈ wsX7_checkLink := by decide +kernel
theorem lk_X7_checkLink_12 : Cond.fieldLink RX7 12 "Creditfabric" "grid" "LCreditfabric$Grid;" ∈ wsX7_checkLink := by decide +kernel
set_option maxHeartbeats 4000000 in
set_option maxRecDepth 100000 in
theorem c_X7_checkLink (l : Launch) (hst : l.stackTraces = false) (D : va_G) (cI cZ cJ : ClassId) (a : Nat → Nat) (F : Nat) {s : CS} {r : XR} {x1 x2 : Int32} (hf : r_X7_checkLink F x1 x2 s = some r) : x_Mzv l yX7_checkLink wsX7_checkLink rm_X7_checkLink D (x_tys cI cZ cJ) (cwld cI a) [.ref (a 0), .int x1, .int x2] s r := by
  refine x_enterZv (cc := cX7_checkLink) (nL := 3) (own := RX7) hst (by decide) rfl rfl (Nat.le_of_ble_eq_true rfl) ?_
  intro p e S0 m args below meth c A c9 s9 hcs X XX ls hl
  have hl : lv_has ls 3 [(0, .ref (a 0)), (1, .int x1), (2, .int x2)] := hl
  unfold r_X7_checkLink at hf
  refine x_aload_n X dX7_checkLink_0 rfl hl 0 rfl ?_
  refine x_iload_n X dX7_checkLink_1 rfl hl 1 rfl ?_
  obtain ⟨q1, c2, ⟨h3, hf⟩ | ⟨h3, hf⟩⟩ := x_obx_of hf
  · refine x_zVv X XX 0 7 (cw_o0 _ _ _) rfl rfl h3 (c_X7_checkSwitch l hst D cI cZ cJ a F c2) (cwV 1 X.2.2.2.2.1 gX7_checkLink_X7_checkSwitch rfl rfl rfl (by decide +kernel) ⟨Nat.le_of_ble_eq_true rfl, Nat.le_of_ble_eq_true rfl⟩) rfl hl rfl (Nat.le_of_ble_eq_true rfl) ⟨Nat.zero_le _, Nat.zero_le _⟩ dX7_checkLink_2 ?_
    refine x_aload_n X dX7_checkLink_5 rfl hl 0 rfl ?_
    refine x_getf X in_X7_checkLink_X7 (cw_o0 _ _ _) rfl 0 (by decide) lk_X7_checkLink_12 rfl rfl dX7_checkLink_6 ?_
    refine x_iload_n X dX7_checkLink_9 rfl hl 1 rfl ?_
    refine x_iload_n X dX7_checkLink_10 rfl hl 2 rfl ?_
    obtain ⟨v5, s4, c6, hf⟩ := x_ob_of hf
    refine x_cVi X 1 3 (cw_o1 _ _ _) rfl rfl (c_X3_behind l D cI cZ cJ a F c6) (cwV 2 X.2.2.2.2.1 gX7_checkLink_X3_behind rfl rfl rfl (by decide +kernel) ⟨Nat.le_of_ble_eq_true rfl, Nat.le_of_ble_eq_true rfl⟩) rfl hl rfl (Nat.le_of_ble_eq_true rfl) ⟨Nat.zero_le _, Nat.zero_le _⟩ dX7_checkLink_11 ?_
    refine x_iconst X dX7_checkLink_14 xk_iconst_m1 ?_
    refine x_icmp_ne (tgt := 28) X dX7_checkLink_15 rfl (fun q7 => ?_) (fun q7 => ?_)
    · have hf := (if_neg q7).symm.trans hf
      exact x_vretZ X rfl hf dX7_checkLink_28
    · have hf := (if_pos q7).symm.trans hf
      cases Option.some.inj hf
      have hcs := hcs.resolve_left (show (1 : Nat) ≠ 0 by decide)
      refine x_thrZv X (show (1 : Nat) ≠ 0 by decide) ?_
      exact x_thr X XX (show (1 : Nat) ≠ 0 by decide) rfl rfl hl (text := x_str217) (by decide +kernel) xl_X7_checkLink_209 xi_X7_checkLink_209 xa_X7_checkLink_213 xc_213 x_nest_on xg_213 xf_1 xf_nm dX7_checkLink_18 dX7_checkLink_21 dX7_checkLink_22 dX7_checkLink_24 dX7_checkLink_27 (Nat.le_of_ble_eq_true rfl) (Nat.le_of_ble_eq_true rfl) hcs.1 hcs.2
  · have hr0 : r.1 ≠ 0 := by cases Option.some.inj hf; exact h3
    refine x_thrZv X hr0 ?_
    exact x_zxV X XX 0 7 (cw_o0 _ _ _) rfl rfl h3 hf ((c_X7_checkSwitch l hst D cI cZ cJ a F c2).2 h3) (cwV 1 X.2.2.2.2.1 gX7_checkLink_X7_checkSwitch rfl rfl rfl (by decide +kernel) ⟨Nat.le_of_ble_eq_true rfl, Nat.le_of_ble_eq_true rfl⟩) rfl hl rfl (Nat.le_of_ble_eq_true rfl) (hcs.resolve_left hr0) dX7_checkLink_2
def rm_X7_lose (c9 s9 : Nat) : Room := { frames := 8, cells := c9, slots := s9, locals := 125 }
theorem xl_X7_lose_110 : Cond.classLink RX7 110 "java/lang/IllegalStateException" ∈ wsX7_lose := by decide +kernel
theorem xi_X7_lose_110 : Cond.initialized "java/lang/IllegalStateException" ∈ wsX7_lose := by decide +kernel
theorem xa_X7_lose_114 : ∀ w ∈ (vx_atS RX7 114 "java/lang/IllegalStateException" ["java/lang/RuntimeException", "java/lang/Exception"]).filter goodWord, w ∈ wsX7_lose := fun _ h => List.mem_cons_of_mem _ (List.mem_append_left _ (List.mem_append_left _ (List.mem_append_right _ h)))
theorem in_X7_lose_X7 : ∀ w ∈ wsX70, w ∈ wsX7_lose := by decide +kernel
theorem lk_X7_lose_35 : Cond.fieldLink RX7 35 "Creditfabric" "purse" "LCreditfabric$Credits;" ∈ wsX7_lose := by decide +kernel
set_option maxHeartbeats 4000000 in
set_option maxRecDepth 100000 in
theorem c_X7_lose (l : Launch) (hst : l.stackTraces = false) (D : va_G) (cI cZ cJ : ClassId) (a : Nat → Nat) (F : Nat) {s : CS} {r : XR} {x1 x2 x3 : Int32} (hf : r_X7_lose F x1 x2 x3 s = some r) : x_Mz l yX7_lose wsX7_lose rm_X7_lose D (x_tys cI cZ cJ) (cwld cI a) [.ref (a 0), .int x1, .int x2, .int x3] s r := by
  refine x_enterZi (cc := cX7_lose) (nL := 5) (ty := .int) (own := RX7) hst (by decide) rfl rfl (Nat.le_of_ble_eq_true rfl) ?_
  intro p e S0 m args below meth c A c9 s9 hcs X XX ls hl
  have hl : lv_has ls 5 [(0, .ref (a 0)), (1, .int x1), (2, .int x2), (3, .int x3)] := hl
  unfold r_X7_lose at hf
  refine x_aload_n X dX7_lose_0 rfl hl 0 rfl ?_
  refine x_iload_n X dX7_lose_1 rfl hl 1 rfl ?_
  refine x_iload_n X dX7_lose_2 rfl hl 2 rfl ?_
  obtain ⟨q1, c2, ⟨h3, hf⟩ | ⟨h3, hf⟩⟩ := x_obx_of hf
  · refine x_zVv X XX 0 7 (cw_o0 _ _ _) rfl rfl h3 (c_X7_checkLink l hst D cI cZ cJ a F c2) (cwV 2 X.2.2.2.2.1 gX7_lose_X7_checkLink rfl rfl rfl (by decide +kernel) ⟨Nat.le_of_ble_eq_true rfl, Nat.le_of_ble_eq_true rfl⟩) rfl hl rfl (Nat.le_of_ble_eq_true rfl) ⟨Nat.zero_le _, Nat.zero_le _⟩ dX7_lose_3 ?_
    refine x_iload_n X dX7_lose_6 rfl hl 3 rfl ?_
    obtain ⟨q4, c5, ⟨h6, hf⟩ | ⟨h6, hf⟩⟩ := x_obx_of hf
    · refine x_zSv X XX h6 (c_X7_checkLane l hst D cI cZ cJ a F c5) (va_cwS 1 X.2.2.2.2.1 gX7_lose_X7_checkLane rfl rfl rfl (by decide +kernel) ⟨Nat.le_of_ble_eq_true rfl, Nat.le_of_ble_eq_true rfl⟩) rfl hl rfl (Nat.le_of_ble_eq_true rfl) ⟨Nat.zero_le _, Nat.zero_le _⟩ dX7_lose_7 ?_
      refine x_aload_n X dX7_lose_10 rfl hl 0 rfl ?_
      refine x_iload_n X dX7_lose_11 rfl hl 1 rfl ?_
      refine x_iload_n X dX7_lose_12 rfl hl 2 rfl ?_
      refine x_iload_n X dX7_lose_13 rfl hl 3 rfl ?_
      obtain ⟨v8, s7, c9, hf⟩ := x_ob_of hf
      refine x_cVi X 0 7 (cw_o0 _ _ _) rfl rfl (c_X7_bufferBehind l D cI cZ cJ a F c9) (cwV 3 X.2.2.2.2.1 gX7_lose_X7_bufferBehind rfl rfl rfl (by decide +kernel) ⟨Nat.le_of_ble_eq_true rfl, Nat.le_of_ble_eq_true rfl⟩) rfl hl rfl (Nat.le_of_ble_eq_true rfl) ⟨Nat.zero_le _, Nat.zero_le _⟩ dX7_lose_14 ?_
      refine x_istoreA (lv' := [(4, .int v8), (0, .ref (a 0)), (1, .int x1), (2, .int x2), (3, .int x3)]) X dX7_lose_17 hl (by decide) rfl (fun ls hl => ?_)
      refine x_aload_n X dX7_lose_19 rfl hl 1 rfl ?_
      refine x_getf X in_X7_lose_X7 (cw_o0 _ _ _) rfl 3 (by decide) lk_X7_lose_35 rfl rfl dX7_lose_20 ?_
      refine x_iload X dX7_lose_23 hl 0 rfl ?_
      obtain ⟨v11, s10, c12, hf⟩ := x_ob_of hf
      refine x_cVi X 4 2 (cw_o4 _ _ _) rfl rfl (c_X2_there l D cI cZ cJ a F c12) (cwV 1 X.2.2.2.2.1 gX7_lose_X2_there rfl rfl rfl (by decide +kernel) ⟨Nat.le_of_ble_eq_true rfl, Nat.le_of_ble_eq_true rfl⟩) rfl hl rfl (Nat.le_of_ble_eq_true rfl) ⟨Nat.zero_le _, Nat.zero_le _⟩ dX7_lose_25 ?_
      refine x_if_gt (tgt := 41) X dX7_lose_28 rfl (fun q13 => ?_) (fun q13 => ?_)
      · have hf := (if_pos q13).symm.trans hf
        refine x_aload_n X dX7_lose_41 rfl hl 1 rfl ?_
        refine x_getf X in_X7_lose_X7 (cw_o0 _ _ _) rfl 3 (by decide) lk_X7_lose_35 rfl rfl dX7_lose_42 ?_
        refine x_iload X dX7_lose_45 hl 0 rfl ?_
        obtain ⟨v15, s14, c16, hf⟩ := x_ob_of hf
        refine x_cVv X 4 2 (cw_o4 _ _ _) rfl rfl (c_X2_take l D cI cZ cJ a F c16) (cwV 1 X.2.2.2.2.1 gX7_lose_X2_take rfl rfl rfl (by decide +kernel) ⟨Nat.le_of_ble_eq_true rfl, Nat.le_of_ble_eq_true rfl⟩) rfl hl rfl (Nat.le_of_ble_eq_true rfl) ⟨Nat.zero_le _, Nat.zero_le _⟩ dX7_lose_47 ?_
        refine x_aload_n X dX7_lose_50 rfl hl 1 rfl ?_
        refine x_getf X in_X7_lose_X7 (cw_o0 _ _ _) rfl 3 (by decide) lk_X7_lose_35 rfl rfl dX7_lose_51 ?_
        refine x_iload X dX7_lose_54 hl 0 rfl ?_
        obtain ⟨v18, s17, c19, hf⟩ := x_ob_of hf
        refine x_cVi X 4 2 (cw_o4 _ _ _) rfl rfl (c_X2_there l D cI cZ cJ a F c19) (cwV 1 X.2.2.2.2.1 gX7_lose_X2_there rfl rfl rfl (by decide +kernel) ⟨Nat.le_of_ble_eq_true rfl, Nat.le_of_ble_eq_true rfl⟩) rfl hl rfl (Nat.le_of_ble_eq_true rfl) ⟨Nat.zero_le _, Nat.zero_le _⟩ dX7_lose_56 ?_
        exact x_iretZ X rfl rfl hf dX7_lose_59
      · have hf := (if_neg q13).symm.trans hf
        cases Option.some.inj hf
        have hcs := hcs.resolve_left (show (3 : Nat) ≠ 0 by decide)
        refine x_thrZ X (show (3 : Nat) ≠ 0 by decide) ?_
        exact x_thr X XX (show (3 : Nat) ≠ 0 by decide) rfl rfl hl (text := x_str165) (by decide +kernel) xl_X7_lose_110 xi_X7_lose_110 xa_X7_lose_114 xc_114 x_nest_on xg_114 xf_3 xf_nm dX7_lose_31 dX7_lose_34 dX7_lose_35 dX7_lose_37 dX7_lose_40 (Nat.le_of_ble_eq_true rfl) (Nat.le_of_ble_eq_true rfl) hcs.1 hcs.2
    · have hr0 : r.1 ≠ 0 := by cases Option.some.inj hf; exact h6
      refine x_thrZ X hr0 ?_
      exact x_zxS X XX h6 hf ((c_X7_checkLane l hst D cI cZ cJ a F c5).2 h6) (va_cwS 1 X.2.2.2.2.1 gX7_lose_X7_checkLane rfl rfl rfl (by decide +kernel) ⟨Nat.le_of_ble_eq_true rfl, Nat.le_of_ble_eq_true rfl⟩) rfl hl rfl (Nat.le_of_ble_eq_true rfl) (hcs.resolve_left hr0) dX7_lose_7
  · have hr0 : r.1 ≠ 0 := by cases Option.some.inj hf; exact h3
    refine x_thrZ X hr0 ?_
    exact x_zxV X XX 0 7 (cw_o0 _ _ _) rfl rfl h3 hf ((c_X7_checkLink l hst D cI cZ cJ a F c2).2 h3) (cwV 2 X.2.2.2.2.1 gX7_lose_X7_checkLink rfl rfl rfl (by decide +kernel) ⟨Nat.le_of_ble_eq_true rfl, Nat.le_of_ble_eq_true rfl⟩) rfl hl rfl (Nat.le_of_ble_eq_true rfl) (hcs.resolve_left hr0) dX7_lose_3
def rm_X7_credits (c9 s9 : Nat) : Room := { frames := 8, cells := c9, slots := s9, locals := 125 }
theorem in_X7_credits_X7 : ∀ w ∈ wsX70, w ∈ wsX7_credits := by decide +kernel
theorem lk_X7_credits_35 : Cond.fieldLink RX7 35 "Creditfabric" "purse" "LCreditfabric$Credits;" ∈ wsX7_credits := by decide +kernel
set_option maxHeartbeats 4000000 in
set_option maxRecDepth 100000 in
theorem c_X7_credits (l : Launch) (hst : l.stackTraces = false) (D : va_G) (cI cZ cJ : ClassId) (a : Nat → Nat) (F : Nat) {s : CS} {r : XR} {x1 x2 x3 : Int32} (hf : r_X7_credits F x1 x2 x3 s = some r) : x_Mz l yX7_credits wsX7_credits rm_X7_credits D (x_tys cI cZ cJ) (cwld cI a) [.ref (a 0), .int x1, .int x2, .int x3] s r := by
  refine x_enterZi (cc := cX7_credits) (nL := 4) (ty := .int) (own := RX7) hst (by decide) rfl rfl (Nat.le_of_ble_eq_true rfl) ?_
  intro p e S0 m args below meth c A c9 s9 hcs X XX ls hl
  have hl : lv_has ls 4 [(0, .ref (a 0)), (1, .int x1), (2, .int x2), (3, .int x3)] := hl
  unfold r_X7_credits at hf
  refine x_aload_n X dX7_credits_0 rfl hl 0 rfl ?_
  refine x_iload_n X dX7_credits_1 rfl hl 1 rfl ?_
  refine x_iload_n X dX7_credits_2 rfl hl 2 rfl ?_
  obtain ⟨q1, c2, ⟨h3, hf⟩ | ⟨h3, hf⟩⟩ := x_obx_of hf
  · refine x_zVv X XX 0 7 (cw_o0 _ _ _) rfl rfl h3 (c_X7_checkLink l hst D cI cZ cJ a F c2) (cwV 2 X.2.2.2.2.1 gX7_credits_X7_checkLink rfl rfl rfl (by decide +kernel) ⟨Nat.le_of_ble_eq_true rfl, Nat.le_of_ble_eq_true rfl⟩) rfl hl rfl (Nat.le_of_ble_eq_true rfl) ⟨Nat.zero_le _, Nat.zero_le _⟩ dX7_credits_3 ?_
    refine x_iload_n X dX7_credits_6 rfl hl 3 rfl ?_
    obtain ⟨q4, c5, ⟨h6, hf⟩ | ⟨h6, hf⟩⟩ := x_obx_of hf
    · refine x_zSv X XX h6 (c_X7_checkLane l hst D cI cZ cJ a F c5) (va_cwS 1 X.2.2.2.2.1 gX7_credits_X7_checkLane rfl rfl rfl (by decide +kernel) ⟨Nat.le_of_ble_eq_true rfl, Nat.le_of_ble_eq_true rfl⟩) rfl hl rfl (Nat.le_of_ble_eq_true rfl) ⟨Nat.zero_le _, Nat.zero_le _⟩ dX7_credits_7 ?_
      refine x_aload_n X dX7_credits_10 rfl hl 0 rfl ?_
      refine x_getf X in_X7_credits_X7 (cw_o0 _ _ _) rfl 3 (by decide) lk_X7_credits_35 rfl rfl dX7_credits_11 ?_
      refine x_aload_n X dX7_credits_14 rfl hl 0 rfl ?_
      refine x_iload_n X dX7_credits_15 rfl hl 1 rfl ?_
      refine x_iload_n X dX7_credits_16 rfl hl 2 rfl ?_
      refine x_iload_n X dX7_credits_17 rfl hl 3 rfl ?_
      obtain ⟨v8, s7, c9, hf⟩ := x_ob_of hf
      refine x_cVi X 0 7 (cw_o0 _ _ _) rfl rfl (c_X7_bufferBehind l D cI cZ cJ a F c9) (cwV 3 X.2.2.2.2.1 gX7_credits_X7_bufferBehind rfl rfl rfl (by decide +kernel) ⟨Nat.le_of_ble_eq_true rfl, Nat.le_of_ble_eq_true rfl⟩) rfl hl rfl (Nat.le_of_ble_eq_true rfl) ⟨Nat.zero_le _, Nat.zero_le _⟩ dX7_credits_18 ?_
      obtain ⟨v11, s10, c12, hf⟩ := x_ob_of hf
      refine x_cVi X 4 2 (cw_o4 _ _ _) rfl rfl (c_X2_there l D cI cZ cJ a F c12) (cwV 1 X.2.2.2.2.1 gX7_credits_X2_there rfl rfl rfl (by decide +kernel) ⟨Nat.le_of_ble_eq_true rfl, Nat.le_of_ble_eq_true rfl⟩) rfl hl rfl (Nat.le_of_ble_eq_true rfl) ⟨Nat.zero_le _, Nat.zero_le _⟩ dX7_credits_21 ?_
      exact x_iretZ X rfl rfl hf dX7_credits_24
    · have hr0 : r.1 ≠ 0 := by cases Option.some.inj hf; exact h6
      refine x_thrZ X hr0 ?_
      exact x_zxS X XX h6 hf ((c_X7_checkLane l hst D cI cZ cJ a F c5).2 h6) (va_cwS 1 X.2.2.2.2.1 gX7_credits_X7_checkLane rfl rfl rfl (by decide +kernel) ⟨Nat.le_of_ble_eq_true rfl, Nat.le_of_ble_eq_true rfl⟩) rfl hl rfl (Nat.le_of_ble_eq_true rfl) (hcs.resolve_left hr0) dX7_credits_7
  · have hr0 : r.1 ≠ 0 := by cases Option.some.inj hf; exact h3
    refine x_thrZ X hr0 ?_
    exact x_zxV X XX 0 7 (cw_o0 _ _ _) rfl rfl h3 hf ((c_X7_checkLink l hst D cI cZ cJ a F c2).2 h3) (cwV 2 X.2.2.2.2.1 gX7_credits_X7_checkLink rfl rfl rfl (by decide +kernel) ⟨Nat.le_of_ble_eq_true rfl, Nat.le_of_ble_eq_true rfl⟩) rfl hl rfl (Nat.le_of_ble_eq_true rfl) (hcs.resolve_left hr0) dX7_credits_3
def rm_X7_inBuffer (c9 s9 : Nat) : Room := { frames := 7, cells := c9, slots := s9, locals := 103 }
theorem xl_X7_inBuffer_77 : Cond.classLink RX7 77 "java/lang/IllegalArgumentException" ∈ wsX7_inBuffer := by decide +kernel
theorem xi_X7_inBuffer_77 : Cond.initialized "java/lang/IllegalArgumentException" ∈ wsX7_inBuffer := by decide +kernel
theorem xa_X7_inBuffer_81 : ∀ w ∈ (vx_atS RX7 81 "java/lang/IllegalArgumentException" ["java/lang/RuntimeException", "java/lang/Exception"]).filter goodWord, w ∈ wsX7_inBuffer := fun _ h => List.mem_cons_of_mem _ (List.mem_append_left _ (List.mem_append_right _ h))
theorem in_X7_inBuffer_X7 : ∀ w ∈ wsX70, w ∈ wsX7_inBuffer := by decide +kernel
theorem lk_X7_inBuffer_28 : Cond.fieldLink RX7 28 "Creditfabric" "buffers" "LCreditfabric$Buffers;" ∈ wsX7_inBuffer := by decide +kernel
set_option maxHeartbeats 4000000 in
set_option maxRecDepth 100000 in
theorem b_X7_inBuffer_14 {p : Program} {l : Launch} {e : Env} {S0 : State} {m : MethodId} {args : Array Value} {below : List Frame} {meth : Method} {c : Code} {A : Nat → Prop} {D : va_G} {cI cZ cJ : ClassId} {a : Nat → Nat} (X : x_X p S0 m args meth c cX7_inBuffer 4 (some .int) RX7 wsX7_inBuffer D (x_tys cI cZ cJ) A) (F : Nat) {r : XR} {c9 s9 : Nat} (hst : l.stackTraces = false) (hcs : r.1 = 0 ∨ (1 ≤ c9 ∧ 6 ≤ s9)) (XX : x_XX l S0 c A)  : ∀ (s : CS) (ls : Array Slot), r_X7_inBuffer_b14 F s = some r → lv_has ls 4 [] → x_W p l e (rm_X7_inBuffer c9 s9) S0 m args below meth c A D (cwld cI a) 0 0 (x_Rz below args S0 A D (cwld cI a) r) s (F0 m 14 ls []) := by
  intro s ls hf hl
  unfold r_X7_inBuffer_b14 at hf
  cases Option.some.inj hf
  have hcs := hcs.resolve_left (show (2 : Nat) ≠ 0 by decide)
  refine x_thrZ X (show (2 : Nat) ≠ 0 by decide) ?_
  exact x_thr X XX (show (2 : Nat) ≠ 0 by decide) rfl rfl hl (text := x_str177) (by decide +kernel) xl_X7_inBuffer_77 xi_X7_inBuffer_77 xa_X7_inBuffer_81 xc_81 x_nest_on xg_81 xf_2 xf_nm dX7_inBuffer_14 dX7_inBuffer_17 dX7_inBuffer_18 dX7_inBuffer_20 dX7_inBuffer_23 (Nat.le_of_ble_eq_true rfl) (Nat.le_of_ble_eq_true rfl) hcs.1 hcs.2
set_option maxHeartbeats 4000000 in
set_option maxRecDepth 100000 in
theorem c_X7_inBuffer (l : Launch) (hst : l.stackTraces = false) (D : va_G) (cI cZ cJ : ClassId) (a : Nat → Nat) (F : Nat) {s : CS} {r : XR} {x1 x2 x3 : Int32} (hf : r_X7_inBuffer F x1 x2 x3 s = some r) : x_Mz l yX7_inBuffer wsX7_inBuffer rm_X7_inBuffer D (x_tys cI cZ cJ) (cwld cI a) [.ref (a 0), .int x1, .int x2, .int x3] s r := by
  refine x_enterZi (cc := cX7_inBuffer) (nL := 4) (ty := .int) (own := RX7) hst (by decide) rfl rfl (Nat.le_of_ble_eq_true rfl) ?_
  intro p e S0 m args below meth c A c9 s9 hcs X XX ls hl
  have hl : lv_has ls 4 [(0, .ref (a 0)), (1, .int x1), (2, .int x2), (3, .int x3)] := hl
  unfold r_X7_inBuffer at hf
  refine x_aload_n X dX7_inBuffer_0 rfl hl 0 rfl ?_
  refine x_iload_n X dX7_inBuffer_1 rfl hl 1 rfl ?_
  obtain ⟨q1, c2, ⟨h3, hf⟩ | ⟨h3, hf⟩⟩ := x_obx_of hf
  · refine x_zVv X XX 0 7 (cw_o0 _ _ _) rfl rfl h3 (c_X7_checkSwitch l hst D cI cZ cJ a F c2) (cwV 1 X.2.2.2.2.1 gX7_inBuffer_X7_checkSwitch rfl rfl rfl (by decide +kernel) ⟨Nat.le_of_ble_eq_true rfl, Nat.le_of_ble_eq_true rfl⟩) rfl hl rfl (Nat.le_of_ble_eq_true rfl) ⟨Nat.zero_le _, Nat.zero_le _⟩ dX7_inBuffer_2 ?_
    refine x_iload_n X dX7_inBuffer_5 rfl hl 2 rfl ?_
    refine x_if_lt (tgt := 14) X dX7_inBuffer_6 rfl (fun q4 => ?_) (fun q4 => ?_)
    · have hf := (if_pos q4).symm.trans hf
      exact b_X7_inBuffer_14 X F hst hcs XX q1.2.2 ls hf (lv_sub hl [] rfl)
    · have hf := (if_neg q4).symm.trans hf
      refine x_iload_n X dX7_inBuffer_9 rfl hl 2 rfl ?_
      refine x_iconst X dX7_inBuffer_10 xk_iconst_4 ?_
      refine x_icmp_le (tgt := 24) X dX7_inBuffer_11 rfl (fun q5 => ?_) (fun q5 => ?_)
      · have hf := (if_pos q5).symm.trans hf
        refine x_iload_n X dX7_inBuffer_24 rfl hl 3 rfl ?_
        obtain ⟨q6, c7, ⟨h8, hf⟩ | ⟨h8, hf⟩⟩ := x_obx_of hf
        · refine x_zSv X XX h8 (c_X7_checkLane l hst D cI cZ cJ a F c7) (va_cwS 1 X.2.2.2.2.1 gX7_inBuffer_X7_checkLane rfl rfl rfl (by decide +kernel) ⟨Nat.le_of_ble_eq_true rfl, Nat.le_of_ble_eq_true rfl⟩) rfl hl rfl (Nat.le_of_ble_eq_true rfl) ⟨Nat.zero_le _, Nat.zero_le _⟩ dX7_inBuffer_25 ?_
          refine x_aload_n X dX7_inBuffer_28 rfl hl 0 rfl ?_
          refine x_getf X in_X7_inBuffer_X7 (cw_o0 _ _ _) rfl 2 (by decide) lk_X7_inBuffer_28 rfl rfl dX7_inBuffer_29 ?_
          refine x_iload_n X dX7_inBuffer_32 rfl hl 1 rfl ?_
          refine x_iload_n X dX7_inBuffer_33 rfl hl 2 rfl ?_
          refine x_iload_n X dX7_inBuffer_34 rfl hl 3 rfl ?_
          obtain ⟨v10, s9, c11, hf⟩ := x_ob_of hf
          refine x_cSi X (c_X7_bufferOf l D cI cZ cJ a F c11) (va_cwS 3 X.2.2.2.2.1 gX7_inBuffer_X7_bufferOf rfl rfl rfl (by decide +kernel) ⟨Nat.le_of_ble_eq_true rfl, Nat.le_of_ble_eq_true rfl⟩) rfl hl rfl (Nat.le_of_ble_eq_true rfl) ⟨Nat.zero_le _, Nat.zero_le _⟩ dX7_inBuffer_35 ?_
          obtain ⟨v13, s12, c14, hf⟩ := x_ob_of hf
          refine x_cVi X 3 0 (cw_o3 _ _ _) rfl rfl (c_X0_size l D cI cZ cJ a F c14) (cwV 1 X.2.2.2.2.1 gX7_inBuffer_X0_size rfl rfl rfl (by decide +kernel) ⟨Nat.le_of_ble_eq_true rfl, Nat.le_of_ble_eq_true rfl⟩) rfl hl rfl (Nat.le_of_ble_eq_true rfl) ⟨Nat.zero_le _, Nat.zero_le _⟩ dX7_inBuffer_38 ?_
          exact x_iretZ X rfl rfl hf dX7_inBuffer_41
        · have hr0 : r.1 ≠ 0 := by cases Option.some.inj hf; exact h8
          refine x_thrZ X hr0 ?_
          exact x_zxS X XX h8 hf ((c_X7_checkLane l hst D cI cZ cJ a F c7).2 h8) (va_cwS 1 X.2.2.2.2.1 gX7_inBuffer_X7_checkLane rfl rfl rfl (by decide +kernel) ⟨Nat.le_of_ble_eq_true rfl, Nat.le_of_ble_eq_true rfl⟩) rfl hl rfl (Nat.le_of_ble_eq_true rfl) (hcs.resolve_left hr0) dX7_inBuffer_25
      · have hf := (if_neg q5).symm.trans hf
        exact b_X7_inBuffer_14 X F hst hcs XX q1.2.2 ls hf (lv_sub hl [] rfl)
  · have hr0 : r.1 ≠ 0 := by cases Option.some.inj hf; exact h3
    refine x_thrZ X hr0 ?_
    exact x_zxV X XX 0 7 (cw_o0 _ _ _) rfl rfl h3 hf ((c_X7_checkSwitch l hst D cI cZ cJ a F c2).2 h3) (cwV 1 X.2.2.2.2.1 gX7_inBuffer_X7_checkSwitch rfl rfl rfl (by decide +kernel) ⟨Nat.le_of_ble_eq_true rfl, Nat.le_of_ble_eq_true rfl⟩) rfl hl rfl (Nat.le_of_ble_eq_true rfl) (hcs.resolve_left hr0) dX7_inBuffer_2
def rm_X7_gap (c9 s9 : Nat) : Room := { frames := 7, cells := c9, slots := s9, locals := 103 }
theorem in_X7_gap_X7 : ∀ w ∈ wsX70, w ∈ wsX7_gap := by decide +kernel
theorem lk_X7_gap_42 : Cond.fieldLink RX7 42 "Creditfabric" "senders" "LCreditfabric$Senders;" ∈ wsX7_gap := by decide +kernel
set_option maxHeartbeats 4000000 in
set_option maxRecDepth 100000 in
theorem c_X7_gap (l : Launch) (hst : l.stackTraces = false) (D : va_G) (cI cZ cJ : ClassId) (a : Nat → Nat) (F : Nat) {s : CS} {r : XR} {x1 : Int32} (hf : r_X7_gap F x1 s = some r) : x_Mz l yX7_gap wsX7_gap rm_X7_gap D (x_tys cI cZ cJ) (cwld cI a) [.ref (a 0), .int x1] s r := by
  refine x_enterZi (cc := cX7_gap) (nL := 2) (ty := .int) (own := RX7) hst (by decide) rfl rfl (Nat.le_of_ble_eq_true rfl) ?_
  intro p e S0 m args below meth c A c9 s9 hcs X XX ls hl
  have hl : lv_has ls 2 [(0, .ref (a 0)), (1, .int x1)] := hl
  unfold r_X7_gap at hf
  refine x_aload_n X dX7_gap_0 rfl hl 0 rfl ?_
  refine x_iload_n X dX7_gap_1 rfl hl 1 rfl ?_
  obtain ⟨q1, c2, ⟨h3, hf⟩ | ⟨h3, hf⟩⟩ := x_obx_of hf
  · refine x_zVv X XX 0 7 (cw_o0 _ _ _) rfl rfl h3 (c_X7_checkSwitch l hst D cI cZ cJ a F c2) (cwV 1 X.2.2.2.2.1 gX7_gap_X7_checkSwitch rfl rfl rfl (by decide +kernel) ⟨Nat.le_of_ble_eq_true rfl, Nat.le_of_ble_eq_true rfl⟩) rfl hl rfl (Nat.le_of_ble_eq_true rfl) ⟨Nat.zero_le _, Nat.zero_le _⟩ dX7_gap_2 ?_
    refine x_aload_n X dX7_gap_5 rfl hl 0 rfl ?_
    refine x_getf X in_X7_gap_X7 (cw_o0 _ _ _) rfl 4 (by decide) lk_X7_gap_42 rfl rfl dX7_gap_6 ?_
    refine x_iload_n X dX7_gap_9 rfl hl 1 rfl ?_
    obtain ⟨v5, s4, c6, hf⟩ := x_ob_of hf
    refine x_cVi X 5 6 (cw_o5 _ _ _) rfl rfl (c_X6_gapOf l D cI cZ cJ a F c6) (cwV 1 X.2.2.2.2.1 gX7_gap_X6_gapOf rfl rfl rfl (by decide +kernel) ⟨Nat.le_of_ble_eq_true rfl, Nat.le_of_ble_eq_true rfl⟩) rfl hl rfl (Nat.le_of_ble_eq_true rfl) ⟨Nat.zero_le _, Nat.zero_le _⟩ dX7_gap_10 ?_
    exact x_iretZ X rfl rfl hf dX7_gap_13
  · have hr0 : r.1 ≠ 0 := by cases Option.some.inj hf; exact h3
    refine x_thrZ X hr0 ?_
    exact x_zxV X XX 0 7 (cw_o0 _ _ _) rfl rfl h3 hf ((c_X7_checkSwitch l hst D cI cZ cJ a F c2).2 h3) (cwV 1 X.2.2.2.2.1 gX7_gap_X7_checkSwitch rfl rfl rfl (by decide +kernel) ⟨Nat.le_of_ble_eq_true rfl, Nat.le_of_ble_eq_true rfl⟩) rfl hl rfl (Nat.le_of_ble_eq_true rfl) (hcs.resolve_left hr0) dX7_gap_2
def rm_X7_checkPacket (c9 s9 : Nat) : Room := { frames := 6, cells := c9, slots := s9, locals := 82 }
theorem xl_X7_checkPacket_209 : Cond.classLink RX7 209 "java/lang/IndexOutOfBoundsException" ∈ wsX7_checkPacket := by decide +kernel
theorem xi_X7_checkPacket_209 : Cond.initialized "java/lang/IndexOutOfBoundsException" ∈ wsX7_checkPacket := by decide +kernel
theorem xa_X7_checkPacket_213 : ∀ w ∈ (vx_atS RX7 213 "java/lang/IndexOutOfBoundsException" ["java/lang/RuntimeException", "java/lang/Exception"]).filter goodWord, w ∈ wsX7_checkPacket := fun _ h => List.mem_cons_of_mem _ (List.mem_append_right _ h)
theorem in_X7_checkPacket_X4 : ∀ w ∈ wsX40, w ∈ wsX7_checkPacket := by decide +kernel
theorem in_X7_checkPacket_X7 : ∀ w ∈ wsX70, w ∈ wsX7_checkPacket := by decide +kernel
theorem lk_X7_checkPacket_21 : Cond.fieldLink RX7 21 "Creditfabric" "traffic" "LCreditfabric$Packets;" ∈ wsX7_checkPacket := by decide +kernel
set_option maxHeartbeats 4000000 in
set_option maxRecDepth 100000 in
theorem b_X7_checkPacket_15 {p : Program} {l : Launch} {e : Env} {S0 : State} {m : MethodId} {args : Array Value} {below : List Frame} {meth : Method} {c : Code} {A : Nat → Prop} {D : va_G} {cI cZ cJ : ClassId} {a : Nat → Nat} (X : x_X p S0 m args meth c cX7_checkPacket 2 none RX7 wsX7_checkPacket D (x_tys cI cZ cJ) A) (F : Nat) {r : XR} {c9 s9 : Nat} (hst : l.stackTraces = false) (hcs : r.1 = 0 ∨ (1 ≤ c9 ∧ 6 ≤ s9)) (XX : x_XX l S0 c A)  : ∀ (s : CS) (ls : Array Slot), r_X7_checkPacket_b15 F s = some r → lv_has ls 2 [] → x_W p l e (rm_X7_checkPacket c9 s9) S0 m args below meth c A D (cwld cI a) 0 0 (x_Rzv below args S0 A D (cwld cI a) r) s (F0 m 15 ls []) := by
  intro s ls hf hl
  unfold r_X7_checkPacket_b15 at hf
  cases Option.some.inj hf
  have hcs := hcs.resolve_left (show (1 : Nat) ≠ 0 by decide)
  refine x_thrZv X (show (1 : Nat) ≠ 0 by decide) ?_
  exact x_thr X XX (show (1 : Nat) ≠ 0 by decide) rfl rfl hl (text := x_str219) (by decide +kernel) xl_X7_checkPacket_209 xi_X7_checkPacket_209 xa_X7_checkPacket_213 xc_213 x_nest_on xg_213 xf_1 xf_nm dX7_checkPacket_15 dX7_checkPacket_18 dX7_checkPacket_19 dX7_checkPacket_21 dX7_checkPacket_24 (Nat.le_of_ble_eq_true rfl) (Nat.le_of_ble_eq_true rfl) hcs.1 hcs.2
set_option maxHeartbeats 4000000 in
set_option maxRecDepth 100000 in
theorem c_X7_checkPacket (l : Launch) (hst : l.stackTraces = false) (D : va_G) (cI cZ cJ : ClassId) (a : Nat → Nat) (F : Nat) {s : CS} {r : XR} {x1 : Int32} (hf : r_X7_checkPacket F x1 s = some r) : x_Mzv l yX7_checkPacket wsX7_checkPacket rm_X7_checkPacket D (x_tys cI cZ cJ) (cwld cI a) [.ref (a 0), .int x1] s r := by
  refine x_enterZv (cc := cX7_checkPacket) (nL := 2) (own := RX7) hst (by decide) rfl rfl (Nat.le_of_ble_eq_true rfl) ?_
  intro p e S0 m args below meth c A c9 s9 hcs X XX ls hl
  have hl : lv_has ls 2 [(0, .ref (a 0)), (1, .int x1)] := hl
  unfold r_X7_checkPacket at hf
  refine x_iload_n X dX7_checkPacket_0 rfl hl 1 rfl ?_
  refine x_if_lt (tgt := 15) X dX7_checkPacket_1 rfl (fun q1 => ?_) (fun q1 => ?_)
  · have hf := (if_pos q1).symm.trans hf
    exact b_X7_checkPacket_15 X F hst hcs XX s ls hf (lv_sub hl [] rfl)
  · have hf := (if_neg q1).symm.trans hf
    refine x_iload_n X dX7_checkPacket_4 rfl hl 1 rfl ?_
    refine x_aload_n X dX7_checkPacket_5 rfl hl 0 rfl ?_
    refine x_getf X in_X7_checkPacket_X7 (cw_o0 _ _ _) rfl 1 (by decide) lk_X7_checkPacket_21 rfl rfl dX7_checkPacket_6 ?_
    refine x_getN X in_X7_checkPacket_X4 (cw_o2 _ _ _) rfl 9 (by decide) (by decide +kernel) rfl rfl dX7_checkPacket_9 ?_
    refine x_icmp_lt (tgt := 25) X dX7_checkPacket_12 rfl (fun q2 => ?_) (fun q2 => ?_)
    · have hf := (if_pos q2).symm.trans hf
      exact x_vretZ X rfl hf dX7_checkPacket_25
    · have hf := (if_neg q2).symm.trans hf
      exact b_X7_checkPacket_15 X F hst hcs XX s ls hf (lv_sub hl [] rfl)
def rm_X7_placeOf (c9 s9 : Nat) : Room := { frames := 7, cells := c9, slots := s9, locals := 103 }
theorem in_X7_placeOf_X4 : ∀ w ∈ wsX40, w ∈ wsX7_placeOf := by decide +kernel
theorem in_X7_placeOf_X7 : ∀ w ∈ wsX70, w ∈ wsX7_placeOf := by decide +kernel
theorem lk_X7_placeOf_21 : Cond.fieldLink RX7 21 "Creditfabric" "traffic" "LCreditfabric$Packets;" ∈ wsX7_placeOf := by decide +kernel
set_option maxHeartbeats 4000000 in
set_option maxRecDepth 100000 in
theorem c_X7_placeOf (l : Launch) (hst : l.stackTraces = false) (D : va_G) (cI cZ cJ : ClassId) (a : Nat → Nat) (F : Nat) {s : CS} {r : XR} {x1 : Int32} (hf : r_X7_placeOf F x1 s = some r) : x_Mz l yX7_placeOf wsX7_placeOf rm_X7_placeOf D (x_tys cI cZ cJ) (cwld cI a) [.ref (a 0), .int x1] s r := by
  refine x_enterZi (cc := cX7_placeOf) (nL := 2) (ty := .int) (own := RX7) hst (by decide) rfl rfl (Nat.le_of_ble_eq_true rfl) ?_
  intro p e S0 m args below meth c A c9 s9 hcs X XX ls hl
  have hl : lv_has ls 2 [(0, .ref (a 0)), (1, .int x1)] := hl
  unfold r_X7_placeOf at hf
  refine x_aload_n X dX7_placeOf_0 rfl hl 0 rfl ?_
  refine x_iload_n X dX7_placeOf_1 rfl hl 1 rfl ?_
  obtain ⟨q1, c2, ⟨h3, hf⟩ | ⟨h3, hf⟩⟩ := x_obx_of hf
  · refine x_zVv X XX 0 7 (cw_o0 _ _ _) rfl rfl h3 (c_X7_checkPacket l hst D cI cZ cJ a F c2) (cwV 1 X.2.2.2.2.1 gX7_placeOf_X7_checkPacket rfl rfl rfl (by decide +kernel) ⟨Nat.le_of_ble_eq_true rfl, Nat.le_of_ble_eq_true rfl⟩) rfl hl rfl (Nat.le_of_ble_eq_true rfl) ⟨Nat.zero_le _, Nat.zero_le _⟩ dX7_placeOf_2 ?_
    refine x_aload_n X dX7_placeOf_5 rfl hl 0 rfl ?_
    refine x_getf X in_X7_placeOf_X7 (cw_o0 _ _ _) rfl 1 (by decide) lk_X7_placeOf_21 rfl rfl dX7_placeOf_6 ?_
    refine x_getN X in_X7_placeOf_X4 (cw_o2 _ _ _) rfl 5 (by decide) (by decide +kernel) rfl rfl dX7_placeOf_9 ?_
    refine x_iload_n X dX7_placeOf_12 rfl hl 1 rfl ?_
    obtain ⟨v5, s4, c6, hf⟩ := x_ob_of hf
    refine x_cVi X (7 + 10) 5 (cw_row (by decide : 10 < 22)) rfl rfl (c_X5_at l D cI cZ cJ a (k := 10) (by decide) F c6) (cwV 1 X.2.2.2.2.1 gX7_placeOf_X5_at rfl rfl rfl (by decide +kernel) ⟨Nat.le_of_ble_eq_true rfl, Nat.le_of_ble_eq_true rfl⟩) rfl hl rfl (Nat.le_of_ble_eq_true rfl) ⟨Nat.zero_le _, Nat.zero_le _⟩ dX7_placeOf_13 ?_
    exact x_iretZ X rfl rfl hf dX7_placeOf_16
  · have hr0 : r.1 ≠ 0 := by cases Option.some.inj hf; exact h3
    refine x_thrZ X hr0 ?_
    exact x_zxV X XX 0 7 (cw_o0 _ _ _) rfl rfl h3 hf ((c_X7_checkPacket l hst D cI cZ cJ a F c2).2 h3) (cwV 1 X.2.2.2.2.1 gX7_placeOf_X7_checkPacket rfl rfl rfl (by decide +kernel) ⟨Nat.le_of_ble_eq_true rfl, Nat.le_of_ble_eq_true rfl⟩) rfl hl rfl (Nat.le_of_ble_eq_true rfl) (hcs.resolve_left hr0) dX7_placeOf_2
def rm_X7_hops (c9 s9 : Nat) : Room := { frames := 7, cells := c9, slots := s9, locals := 103 }
theorem in_X7_hops_X4 : ∀ w ∈ wsX40, w ∈ wsX7_hops := by decide +kernel
theorem in_X7_hops_X7 : ∀ w ∈ wsX70, w ∈ wsX7_hops := by decide +kernel
theorem lk_X7_hops_21 : Cond.fieldLink RX7 21 "Creditfabric" "traffic" "LCreditfabric$Packets;" ∈ wsX7_hops := by decide +kernel
set_option maxHeartbeats 4000000 in
set_option maxRecDepth 100000 in
theorem c_X7_hops (l : Launch) (hst : l.stackTraces = false) (D : va_G) (cI cZ cJ : ClassId) (a : Nat → Nat) (F : Nat) {s : CS} {r : XR} {x1 : Int32} (hf : r_X7_hops F x1 s = some r) : x_Mz l yX7_hops wsX7_hops rm_X7_hops D (x_tys cI cZ cJ) (cwld cI a) [.ref (a 0), .int x1] s r := by
  refine x_enterZi (cc := cX7_hops) (nL := 2) (ty := .int) (own := RX7) hst (by decide) rfl rfl (Nat.le_of_ble_eq_true rfl) ?_
  intro p e S0 m args below meth c A c9 s9 hcs X XX ls hl
  have hl : lv_has ls 2 [(0, .ref (a 0)), (1, .int x1)] := hl
  unfold r_X7_hops at hf
  refine x_aload_n X dX7_hops_0 rfl hl 0 rfl ?_
  refine x_iload_n X dX7_hops_1 rfl hl 1 rfl ?_
  obtain ⟨q1, c2, ⟨h3, hf⟩ | ⟨h3, hf⟩⟩ := x_obx_of hf
  · refine x_zVv X XX 0 7 (cw_o0 _ _ _) rfl rfl h3 (c_X7_checkPacket l hst D cI cZ cJ a F c2) (cwV 1 X.2.2.2.2.1 gX7_hops_X7_checkPacket rfl rfl rfl (by decide +kernel) ⟨Nat.le_of_ble_eq_true rfl, Nat.le_of_ble_eq_true rfl⟩) rfl hl rfl (Nat.le_of_ble_eq_true rfl) ⟨Nat.zero_le _, Nat.zero_le _⟩ dX7_hops_2 ?_
    refine x_aload_n X dX7_hops_5 rfl hl 0 rfl ?_
    refine x_getf X in_X7_hops_X7 (cw_o0 _ _ _) rfl 1 (by decide) lk_X7_hops_21 rfl rfl dX7_hops_6 ?_
    refine x_getN X in_X7_hops_X4 (cw_o2 _ _ _) rfl 7 (by decide) (by decide +kernel) rfl rfl dX7_hops_9 ?_
    refine x_iload_n X dX7_hops_12 rfl hl 1 rfl ?_
    obtain ⟨v5, s4, c6, hf⟩ := x_ob_of hf
    refine x_cVi X (7 + 12) 5 (cw_row (by decide : 12 < 22)) rfl rfl (c_X5_at l D cI cZ cJ a (k := 12) (by decide) F c6) (cwV 1 X.2.2.2.2.1 gX7_hops_X5_at rfl rfl rfl (by decide +kernel) ⟨Nat.le_of_ble_eq_true rfl, Nat.le_of_ble_eq_true rfl⟩) rfl hl rfl (Nat.le_of_ble_eq_true rfl) ⟨Nat.zero_le _, Nat.zero_le _⟩ dX7_hops_13 ?_
    exact x_iretZ X rfl rfl hf dX7_hops_16
  · have hr0 : r.1 ≠ 0 := by cases Option.some.inj hf; exact h3
    refine x_thrZ X hr0 ?_
    exact x_zxV X XX 0 7 (cw_o0 _ _ _) rfl rfl h3 hf ((c_X7_checkPacket l hst D cI cZ cJ a F c2).2 h3) (cwV 1 X.2.2.2.2.1 gX7_hops_X7_checkPacket rfl rfl rfl (by decide +kernel) ⟨Nat.le_of_ble_eq_true rfl, Nat.le_of_ble_eq_true rfl⟩) rfl hl rfl (Nat.le_of_ble_eq_true rfl) (hcs.resolve_left hr0) dX7_hops_2
def rm_X7_isMarked (c9 s9 : Nat) : Room := { frames := 7, cells := c9, slots := s9, locals := 103 }
theorem in_X7_isMarked_X4 : ∀ w ∈ wsX40, w ∈ wsX7_isMarked := by decide +kernel
theorem in_X7_isMarked_X7 : ∀ w ∈ wsX70, w ∈ wsX7_isMarked := by decide +kernel
theorem lk_X7_isMarked_21 : Cond.fieldLink RX7 21 "Creditfabric" "traffic" "LCreditfabric$Packets;" ∈ wsX7_isMarked := by decide +kernel
set_option maxHeartbeats 4000000 in
set_option maxRecDepth 100000 in
theorem b_X7_isMarked_24 {p : Program} {l : Launch} {e : Env} {S0 : State} {m : MethodId} {args : Array Value} {below : List Frame} {meth : Method} {c : Code} {A : Nat → Prop} {D : va_G} {cI cZ cJ : ClassId} {a : Nat → Nat} (X : x_X p S0 m args meth c cX7_isMarked 2 (some .boolean) RX7 wsX7_isMarked D (x_tys cI cZ cJ) A) (F : Nat) {r : XR} {c9 s9 : Nat} (hst : l.stackTraces = false) (hcs : r.1 = 0 ∨ (1 ≤ c9 ∧ 6 ≤ s9)) (XX : x_XX l S0 c A)  : ∀ (t0 : Int32) (s : CS) (ls : Array Slot), r_X7_isMarked_b24 F t0 s = some r → lv_has ls 2 [] → x_W p l e (rm_X7_isMarked c9 s9) S0 m args below meth c A D (cwld cI a) 0 0 (x_Rz below args S0 A D (cwld cI a) r) s (F0 m 24 ls [.int t0]) := by
  intro t0 s ls hf hl
  unfold r_X7_isMarked_b24 at hf
  obtain ⟨g8, hf⟩ := x_og_of hf
  exact x_iretZ X rfl (x_bo_of g8) hf dX7_isMarked_24
set_option maxHeartbeats 4000000 in
set_option maxRecDepth 100000 in
theorem c_X7_isMarked (l : Launch) (hst : l.stackTraces = false) (D : va_G) (cI cZ cJ : ClassId) (a : Nat → Nat) (F : Nat) {s : CS} {r : XR} {x1 : Int32} (hf : r_X7_isMarked F x1 s = some r) : x_Mz l yX7_isMarked wsX7_isMarked rm_X7_isMarked D (x_tys cI cZ cJ) (cwld cI a) [.ref (a 0), .int x1] s r := by
  refine x_enterZi (cc := cX7_isMarked) (nL := 2) (ty := .boolean) (own := RX7) hst (by decide) rfl rfl (Nat.le_of_ble_eq_true rfl) ?_
  intro p e S0 m args below meth c A c9 s9 hcs X XX ls hl
  have hl : lv_has ls 2 [(0, .ref (a 0)), (1, .int x1)] := hl
  unfold r_X7_isMarked at hf
  refine x_aload_n X dX7_isMarked_0 rfl hl 0 rfl ?_
  refine x_iload_n X dX7_isMarked_1 rfl hl 1 rfl ?_
  obtain ⟨q1, c2, ⟨h3, hf⟩ | ⟨h3, hf⟩⟩ := x_obx_of hf
  · refine x_zVv X XX 0 7 (cw_o0 _ _ _) rfl rfl h3 (c_X7_checkPacket l hst D cI cZ cJ a F c2) (cwV 1 X.2.2.2.2.1 gX7_isMarked_X7_checkPacket rfl rfl rfl (by decide +kernel) ⟨Nat.le_of_ble_eq_true rfl, Nat.le_of_ble_eq_true rfl⟩) rfl hl rfl (Nat.le_of_ble_eq_true rfl) ⟨Nat.zero_le _, Nat.zero_le _⟩ dX7_isMarked_2 ?_
    refine x_aload_n X dX7_isMarked_5 rfl hl 0 rfl ?_
    refine x_getf X in_X7_isMarked_X7 (cw_o0 _ _ _) rfl 1 (by decide) lk_X7_isMarked_21 rfl rfl dX7_isMarked_6 ?_
    refine x_getN X in_X7_isMarked_X4 (cw_o2 _ _ _) rfl 8 (by decide) (by decide +kernel) rfl rfl dX7_isMarked_9 ?_
    refine x_iload_n X dX7_isMarked_12 rfl hl 1 rfl ?_
    obtain ⟨v5, s4, c6, hf⟩ := x_ob_of hf
    refine x_cVi X (7 + 13) 5 (cw_row (by decide : 13 < 22)) rfl rfl (c_X5_at l D cI cZ cJ a (k := 13) (by decide) F c6) (cwV 1 X.2.2.2.2.1 gX7_isMarked_X5_at rfl rfl rfl (by decide +kernel) ⟨Nat.le_of_ble_eq_true rfl, Nat.le_of_ble_eq_true rfl⟩) rfl hl rfl (Nat.le_of_ble_eq_true rfl) ⟨Nat.zero_le _, Nat.zero_le _⟩ dX7_isMarked_13 ?_
    refine x_if_eq (tgt := 23) X dX7_isMarked_16 rfl (fun q7 => ?_) (fun q7 => ?_)
    · have hf := (if_pos q7).symm.trans hf
      refine x_iconst X dX7_isMarked_23 xk_iconst_0 ?_
      exact b_X7_isMarked_24 X F hst hcs XX (0 : Int32) s4 ls hf (lv_sub hl [] rfl)
    · have hf := (if_neg q7).symm.trans hf
      refine x_iconst X dX7_isMarked_19 xk_iconst_1 ?_
      refine x_goto (tgt := 24) X dX7_isMarked_20 rfl ?_
      exact b_X7_isMarked_24 X F hst hcs XX (1 : Int32) s4 ls hf (lv_sub hl [] rfl)
  · have hr0 : r.1 ≠ 0 := by cases Option.some.inj hf; exact h3
    refine x_thrZ X hr0 ?_
    exact x_zxV X XX 0 7 (cw_o0 _ _ _) rfl rfl h3 hf ((c_X7_checkPacket l hst D cI cZ cJ a F c2).2 h3) (cwV 1 X.2.2.2.2.1 gX7_isMarked_X7_checkPacket rfl rfl rfl (by decide +kernel) ⟨Nat.le_of_ble_eq_true rfl, Nat.le_of_ble_eq_true rfl⟩) rfl hl rfl (Nat.le_of_ble_eq_true rfl) (hcs.resolve_left hr0) dX7_isMarked_2
def rm_X7_wants (c9 s9 : Nat) : Room := { frames := 7, cells := c9, slots := s9, locals := 103 }
theorem in_X7_wants_X7 : ∀ w ∈ wsX70, w ∈ wsX7_wants := by decide +kernel
theorem lk_X7_wants_21 : Cond.fieldLink RX7 21 "Creditfabric" "traffic" "LCreditfabric$Packets;" ∈ wsX7_wants := by decide +kernel
set_option maxHeartbeats 4000000 in
set_option maxRecDepth 100000 in
theorem c_X7_wants (l : Launch) (hst : l.stackTraces = false) (D : va_G) (cI cZ cJ : ClassId) (a : Nat → Nat) (F : Nat) {s : CS} {r : XR} {x1 : Int32} (hf : r_X7_wants F x1 s = some r) : x_Mz l yX7_wants wsX7_wants rm_X7_wants D (x_tys cI cZ cJ) (cwld cI a) [.ref (a 0), .int x1] s r := by
  refine x_enterZi (cc := cX7_wants) (nL := 2) (ty := .int) (own := RX7) hst (by decide) rfl rfl (Nat.le_of_ble_eq_true rfl) ?_
  intro p e S0 m args below meth c A c9 s9 hcs X XX ls hl
  have hl : lv_has ls 2 [(0, .ref (a 0)), (1, .int x1)] := hl
  unfold r_X7_wants at hf
  refine x_aload_n X dX7_wants_0 rfl hl 0 rfl ?_
  refine x_iload_n X dX7_wants_1 rfl hl 1 rfl ?_
  obtain ⟨q1, c2, ⟨h3, hf⟩ | ⟨h3, hf⟩⟩ := x_obx_of hf
  · refine x_zVv X XX 0 7 (cw_o0 _ _ _) rfl rfl h3 (c_X7_checkPacket l hst D cI cZ cJ a F c2) (cwV 1 X.2.2.2.2.1 gX7_wants_X7_checkPacket rfl rfl rfl (by decide +kernel) ⟨Nat.le_of_ble_eq_true rfl, Nat.le_of_ble_eq_true rfl⟩) rfl hl rfl (Nat.le_of_ble_eq_true rfl) ⟨Nat.zero_le _, Nat.zero_le _⟩ dX7_wants_2 ?_
    refine x_aload_n X dX7_wants_5 rfl hl 0 rfl ?_
    refine x_getf X in_X7_wants_X7 (cw_o0 _ _ _) rfl 1 (by decide) lk_X7_wants_21 rfl rfl dX7_wants_6 ?_
    refine x_iload_n X dX7_wants_9 rfl hl 1 rfl ?_
    obtain ⟨v5, s4, c6, hf⟩ := x_ob_of hf
    refine x_cVi X 2 4 (cw_o2 _ _ _) rfl rfl (c_X4_outputOf l D cI cZ cJ a F c6) (cwV 1 X.2.2.2.2.1 gX7_wants_X4_outputOf rfl rfl rfl (by decide +kernel) ⟨Nat.le_of_ble_eq_true rfl, Nat.le_of_ble_eq_true rfl⟩) rfl hl rfl (Nat.le_of_ble_eq_true rfl) ⟨Nat.zero_le _, Nat.zero_le _⟩ dX7_wants_10 ?_
    exact x_iretZ X rfl rfl hf dX7_wants_13
  · have hr0 : r.1 ≠ 0 := by cases Option.some.inj hf; exact h3
    refine x_thrZ X hr0 ?_
    exact x_zxV X XX 0 7 (cw_o0 _ _ _) rfl rfl h3 hf ((c_X7_checkPacket l hst D cI cZ cJ a F c2).2 h3) (cwV 1 X.2.2.2.2.1 gX7_wants_X7_checkPacket rfl rfl rfl (by decide +kernel) ⟨Nat.le_of_ble_eq_true rfl, Nat.le_of_ble_eq_true rfl⟩) rfl hl rfl (Nat.le_of_ble_eq_true rfl) (hcs.resolve_left hr0) dX7_wants_2
