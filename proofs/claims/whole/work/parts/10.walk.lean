def rm_X5_fill : Room := { frames := 0, cells := 0, slots := 0, locals := 0 }
theorem in_X5_fill_X5 : ∀ w ∈ wsX50, w ∈ wsX5_fill := by decide +kernel
theorem lk_X5_fill_7 : Cond.fieldLink RX5 7 "Creditfabric$Row" "numbers" "[I" ∈ wsX5_fill := by decide +kernel
set_option maxHeartbeats 4000000 in
set_option maxRecDepth 100000 in
theorem b_X5_fill_2 {p : Program} {l : Launch} {e : Env} {S0 : State} {m : MethodId} {args : Array Value} {below : List Frame} {meth : Method} {c : Code} {A : Nat → Prop} {D : va_G} {cI cZ cJ : ClassId} {a : Nat → Nat} (X : x_X p S0 m args meth c cX5_fill 3 none RX5 wsX5_fill D (x_tys cI cZ cJ) A) {k : Nat} (hk : k < 22) (F : Nat) {r : Int32} {s' : CS}  : ∀ (n : Nat) (x1 x2 : Int32) (s : CS) (ls : Array Slot), r_X5_fill_b2 k F n x1 x2 s = some (r, s') → lv_has ls 3 [(0, .ref (a (7 + k))), (1, .int x1), (2, .int x2)] → x_W p l e rm_X5_fill S0 m args below meth c A D (cwld cI a) 0 0 (x_Rv below args S0 A D (cwld cI a) s') s (F0 m 2 ls []) := by
  intro n
  induction n with
  | zero =>
    intro x1 x2 s ls hf hl
    have hf : (none : Option (Int32 × CS)) = some (r, s') := hf
    cases hf
  | succ n ih =>
    intro x1 x2 s ls hf hl
    rw [r_X5_fill_b2_s] at hf
    refine x_iload_n X dX5_fill_2 rfl hl 2 rfl ?_
    refine x_aload_n X dX5_fill_3 rfl hl 0 rfl ?_
    refine x_getf X in_X5_fill_X5 (cw_row hk) rfl 0 (by decide) lk_X5_fill_7 rfl rfl dX5_fill_4 ?_
    refine x_alen (v := (Int32.ofNat (rl k))) X (29 + k) 0 (cw_arr hk) rfl rfl dX5_fill_7 ?_
    refine x_icmp_ge (tgt := 24) X dX5_fill_8 rfl (fun q1 => ?_) (fun q1 => ?_)
    · have hf := (if_pos q1).symm.trans hf
      exact x_vret X rfl hf dX5_fill_24
    · have hf := (if_neg q1).symm.trans hf
      refine x_aload_n X dX5_fill_11 rfl hl 0 rfl ?_
      refine x_getf X in_X5_fill_X5 (cw_row hk) rfl 0 (by decide) lk_X5_fill_7 rfl rfl dX5_fill_12 ?_
      refine x_iload_n X dX5_fill_15 rfl hl 2 rfl ?_
      refine x_iload_n X dX5_fill_16 rfl hl 1 rfl ?_
      obtain ⟨g2, hf⟩ := x_og_of hf
      refine x_iast X (29 + k) 0 (cw_arr hk) rfl (x_in_of g2) (cw_set hk _ _ _) dX5_fill_17 (fun s3 es3 => ?_)
      have hf := x_os_of es3 hf
      refine x_iinc (v := (x2 + (1 : Int32))) (lv' := [(2, .int (x2 + (1 : Int32))), (0, .ref (a (7 + k))), (1, .int x1)]) X dX5_fill_18 hl (j := 2) rfl rfl (by decide) rfl (fun ls hl => ?_)
      refine x_goto (tgt := 2) X dX5_fill_21 rfl ?_
      exact ih x1 (x2 + (1 : Int32)) s3 ls hf (lv_sub hl [1, 2, 0] rfl)
set_option maxHeartbeats 4000000 in
set_option maxRecDepth 100000 in
theorem c_X5_fill (l : Launch) (D : va_G) (cI cZ cJ : ClassId) (a : Nat → Nat) {k : Nat} (hk : k < 22) (F : Nat) {s s' : CS} {r : Int32} {x1 : Int32} (hf : r_X5_fill k F x1 s = some (r, s')) : x_Mv l yX5_fill wsX5_fill rm_X5_fill D (x_tys cI cZ cJ) (cwld cI a) [.ref (a (7 + k)), .int x1] s s' := by
  refine x_enterv (cc := cX5_fill) (nL := 3) (own := RX5) (by decide) rfl rfl (Nat.le_of_ble_eq_true rfl) ?_
  intro p e S0 m args below meth c A X ls hl
  have hl : lv_has ls 3 [(0, .ref (a (7 + k))), (1, .int x1)] := hl
  unfold r_X5_fill at hf
  refine x_iconst X dX5_fill_0 xk_iconst_0 ?_
  refine x_istoreA_n (lv' := [(2, .int (0 : Int32)), (0, .ref (a (7 + k))), (1, .int x1)]) X dX5_fill_1 rfl hl (by decide) rfl (fun ls hl => ?_)
  exact b_X5_fill_2 X hk F F x1 (0 : Int32) s ls hf (lv_sub hl [1, 2, 0] rfl)
def rm_X0_clear : Room := { frames := 1, cells := 0, slots := 0, locals := 22 }
theorem in_X0_clear_X0 : ∀ w ∈ wsX00, w ∈ wsX0_clear := by decide +kernel
theorem lk_X0_clear_20 : Cond.fieldLink RX0 20 "Creditfabric$Buffers" "sizes" "LCreditfabric$Row;" ∈ wsX0_clear := by decide +kernel
theorem lk_X0_clear_23 : Cond.fieldLink RX0 23 "Creditfabric$Buffers" "room" "I" ∈ wsX0_clear := by decide +kernel
set_option maxHeartbeats 4000000 in
set_option maxRecDepth 100000 in
theorem c_X0_clear (l : Launch) (D : va_G) (cI cZ cJ : ClassId) (a : Nat → Nat) (F : Nat) {s s' : CS} {r : Int32} {x1 : Int32} (hf : r_X0_clear F x1 s = some (r, s')) : x_Mv l yX0_clear wsX0_clear rm_X0_clear D (x_tys cI cZ cJ) (cwld cI a) [.ref (a 3), .int x1] s s' := by
  refine x_enterv (cc := cX0_clear) (nL := 2) (own := RX0) (by decide) rfl rfl (Nat.le_of_ble_eq_true rfl) ?_
  intro p e S0 m args below meth c A X ls hl
  have hl : lv_has ls 2 [(0, .ref (a 3)), (1, .int x1)] := hl
  unfold r_X0_clear at hf
  refine x_aload_n X dX0_clear_0 rfl hl 0 rfl ?_
  refine x_iload_n X dX0_clear_1 rfl hl 1 rfl ?_
  refine x_puti X in_X0_clear_X0 (cw_o3 _ _ _) rfl 2 (by decide) tyX0 tyX0_ok nmX0 lk_X0_clear_23 rfl rfl (by decide +kernel) (Nat.le_of_ble_eq_true rfl) (cw_s6 _ _ _ _) dX0_clear_2 (fun s1 es1 => ?_)
  have hf := x_os_of es1 hf
  refine x_aload_n X dX0_clear_5 rfl hl 0 rfl ?_
  refine x_getf X in_X0_clear_X0 (cw_o3 _ _ _) rfl 1 (by decide) lk_X0_clear_20 rfl rfl dX0_clear_6 ?_
  refine x_iconst X dX0_clear_9 xk_iconst_0 ?_
  obtain ⟨v3, s2, c4, hf⟩ := x_ob_of hf
  refine x_cVv X (7 + 15) 5 (cw_row (by decide : 15 < 22)) rfl rfl (c_X5_fill l D cI cZ cJ a (k := 15) (by decide) F c4) (cwV 1 X.2.2.2.2.1 gX0_clear_X5_fill rfl rfl rfl (by decide +kernel) ⟨Nat.le_of_ble_eq_true rfl, Nat.le_of_ble_eq_true rfl⟩) rfl hl rfl (Nat.le_of_ble_eq_true rfl) ⟨Nat.zero_le _, Nat.zero_le _⟩ dX0_clear_10 ?_
  exact x_vret X rfl hf dX0_clear_13
def rm_X5_at : Room := { frames := 0, cells := 0, slots := 0, locals := 0 }
theorem in_X5_at_X5 : ∀ w ∈ wsX50, w ∈ wsX5_at := by decide +kernel
theorem lk_X5_at_7 : Cond.fieldLink RX5 7 "Creditfabric$Row" "numbers" "[I" ∈ wsX5_at := by decide +kernel
set_option maxHeartbeats 4000000 in
set_option maxRecDepth 100000 in
theorem b_X5_at_23 {p : Program} {l : Launch} {e : Env} {S0 : State} {m : MethodId} {args : Array Value} {below : List Frame} {meth : Method} {c : Code} {A : Nat → Prop} {D : va_G} {cI cZ cJ : ClassId} {a : Nat → Nat} (X : x_X p S0 m args meth c cX5_at 2 (some .int) RX5 wsX5_at D (x_tys cI cZ cJ) A) {k : Nat} (hk : k < 22) (F : Nat) {r : Int32} {s' : CS}  : ∀ (t0 : Int32) (s : CS) (ls : Array Slot), r_X5_at_b23 k F t0 s = some (r, s') → lv_has ls 2 [] → x_W p l e rm_X5_at S0 m args below meth c A D (cwld cI a) 0 0 (x_Ri below args S0 A D (cwld cI a) r s') s (F0 m 23 ls [.int t0]) := by
  intro t0 s ls hf hl
  unfold r_X5_at_b23 at hf
  exact x_iret X rfl rfl hf dX5_at_23
set_option maxHeartbeats 4000000 in
set_option maxRecDepth 100000 in
theorem b_X5_at_22 {p : Program} {l : Launch} {e : Env} {S0 : State} {m : MethodId} {args : Array Value} {below : List Frame} {meth : Method} {c : Code} {A : Nat → Prop} {D : va_G} {cI cZ cJ : ClassId} {a : Nat → Nat} (X : x_X p S0 m args meth c cX5_at 2 (some .int) RX5 wsX5_at D (x_tys cI cZ cJ) A) {k : Nat} (hk : k < 22) (F : Nat) {r : Int32} {s' : CS}  : ∀ (s : CS) (ls : Array Slot), r_X5_at_b22 k F s = some (r, s') → lv_has ls 2 [] → x_W p l e rm_X5_at S0 m args below meth c A D (cwld cI a) 0 0 (x_Ri below args S0 A D (cwld cI a) r s') s (F0 m 22 ls []) := by
  intro s ls hf hl
  unfold r_X5_at_b22 at hf
  refine x_iconst X dX5_at_22 xk_iconst_0 ?_
  exact b_X5_at_23 X hk F (0 : Int32) s ls hf (lv_sub hl [] rfl)
set_option maxHeartbeats 4000000 in
set_option maxRecDepth 100000 in
theorem c_X5_at (l : Launch) (D : va_G) (cI cZ cJ : ClassId) (a : Nat → Nat) {k : Nat} (hk : k < 22) (F : Nat) {s s' : CS} {r : Int32} {x1 : Int32} (hf : r_X5_at k F x1 s = some (r, s')) : x_Mi l yX5_at wsX5_at rm_X5_at D (x_tys cI cZ cJ) (cwld cI a) [.ref (a (7 + k)), .int x1] s r s' := by
  refine x_enteri (cc := cX5_at) (nL := 2) (ty := .int) (own := RX5) (by decide) rfl rfl (Nat.le_of_ble_eq_true rfl) ?_
  intro p e S0 m args below meth c A X ls hl
  have hl : lv_has ls 2 [(0, .ref (a (7 + k))), (1, .int x1)] := hl
  unfold r_X5_at at hf
  refine x_iload_n X dX5_at_0 rfl hl 1 rfl ?_
  refine x_if_lt (tgt := 22) X dX5_at_1 rfl (fun q1 => ?_) (fun q1 => ?_)
  · have hf := (if_pos q1).symm.trans hf
    exact b_X5_at_22 X hk F s ls hf (lv_sub hl [] rfl)
  · have hf := (if_neg q1).symm.trans hf
    refine x_iload_n X dX5_at_4 rfl hl 1 rfl ?_
    refine x_aload_n X dX5_at_5 rfl hl 0 rfl ?_
    refine x_getf X in_X5_at_X5 (cw_row hk) rfl 0 (by decide) lk_X5_at_7 rfl rfl dX5_at_6 ?_
    refine x_alen (v := (Int32.ofNat (rl k))) X (29 + k) 0 (cw_arr hk) rfl rfl dX5_at_9 ?_
    refine x_icmp_ge (tgt := 22) X dX5_at_10 rfl (fun q2 => ?_) (fun q2 => ?_)
    · have hf := (if_pos q2).symm.trans hf
      exact b_X5_at_22 X hk F s ls hf (lv_sub hl [] rfl)
    · have hf := (if_neg q2).symm.trans hf
      refine x_aload_n X dX5_at_13 rfl hl 0 rfl ?_
      refine x_getf X in_X5_at_X5 (cw_row hk) rfl 0 (by decide) lk_X5_at_7 rfl rfl dX5_at_14 ?_
      refine x_iload_n X dX5_at_17 rfl hl 1 rfl ?_
      obtain ⟨g3, hf⟩ := x_og_of hf
      refine x_iald X (29 + k) 0 (cw_arr hk) rfl (x_in_of g3) dX5_at_18 ?_
      refine x_goto (tgt := 23) X dX5_at_19 rfl ?_
      exact b_X5_at_23 X hk F (x_at s k x1) s ls hf (lv_sub hl [] rfl)
def rm_X0_size : Room := { frames := 1, cells := 0, slots := 0, locals := 21 }
theorem in_X0_size_X0 : ∀ w ∈ wsX00, w ∈ wsX0_size := by decide +kernel
theorem lk_X0_size_20 : Cond.fieldLink RX0 20 "Creditfabric$Buffers" "sizes" "LCreditfabric$Row;" ∈ wsX0_size := by decide +kernel
set_option maxHeartbeats 4000000 in
set_option maxRecDepth 100000 in
theorem c_X0_size (l : Launch) (D : va_G) (cI cZ cJ : ClassId) (a : Nat → Nat) (F : Nat) {s s' : CS} {r : Int32} {x1 : Int32} (hf : r_X0_size F x1 s = some (r, s')) : x_Mi l yX0_size wsX0_size rm_X0_size D (x_tys cI cZ cJ) (cwld cI a) [.ref (a 3), .int x1] s r s' := by
  refine x_enteri (cc := cX0_size) (nL := 2) (ty := .int) (own := RX0) (by decide) rfl rfl (Nat.le_of_ble_eq_true rfl) ?_
  intro p e S0 m args below meth c A X ls hl
  have hl : lv_has ls 2 [(0, .ref (a 3)), (1, .int x1)] := hl
  unfold r_X0_size at hf
  refine x_aload_n X dX0_size_0 rfl hl 0 rfl ?_
  refine x_getf X in_X0_size_X0 (cw_o3 _ _ _) rfl 1 (by decide) lk_X0_size_20 rfl rfl dX0_size_1 ?_
  refine x_iload_n X dX0_size_4 rfl hl 1 rfl ?_
  obtain ⟨v2, s1, c3, hf⟩ := x_ob_of hf
  refine x_cVi X (7 + 15) 5 (cw_row (by decide : 15 < 22)) rfl rfl (c_X5_at l D cI cZ cJ a (k := 15) (by decide) F c3) (cwV 1 X.2.2.2.2.1 gX0_size_X5_at rfl rfl rfl (by decide +kernel) ⟨Nat.le_of_ble_eq_true rfl, Nat.le_of_ble_eq_true rfl⟩) rfl hl rfl (Nat.le_of_ble_eq_true rfl) ⟨Nat.zero_le _, Nat.zero_le _⟩ dX0_size_5 ?_
  exact x_iret X rfl rfl hf dX0_size_8
def rm_X0_free : Room := { frames := 1, cells := 0, slots := 0, locals := 21 }
theorem in_X0_free_X0 : ∀ w ∈ wsX00, w ∈ wsX0_free := by decide +kernel
theorem lk_X0_free_20 : Cond.fieldLink RX0 20 "Creditfabric$Buffers" "sizes" "LCreditfabric$Row;" ∈ wsX0_free := by decide +kernel
theorem lk_X0_free_23 : Cond.fieldLink RX0 23 "Creditfabric$Buffers" "room" "I" ∈ wsX0_free := by decide +kernel
set_option maxHeartbeats 4000000 in
set_option maxRecDepth 100000 in
theorem c_X0_free (l : Launch) (D : va_G) (cI cZ cJ : ClassId) (a : Nat → Nat) (F : Nat) {s s' : CS} {r : Int32} {x1 : Int32} (hf : r_X0_free F x1 s = some (r, s')) : x_Mi l yX0_free wsX0_free rm_X0_free D (x_tys cI cZ cJ) (cwld cI a) [.ref (a 3), .int x1] s r s' := by
  refine x_enteri (cc := cX0_free) (nL := 2) (ty := .int) (own := RX0) (by decide) rfl rfl (Nat.le_of_ble_eq_true rfl) ?_
  intro p e S0 m args below meth c A X ls hl
  have hl : lv_has ls 2 [(0, .ref (a 3)), (1, .int x1)] := hl
  unfold r_X0_free at hf
  refine x_aload_n X dX0_free_0 rfl hl 0 rfl ?_
  refine x_getf X in_X0_free_X0 (cw_o3 _ _ _) rfl 2 (by decide) lk_X0_free_23 rfl rfl dX0_free_1 ?_
  refine x_aload_n X dX0_free_4 rfl hl 0 rfl ?_
  refine x_getf X in_X0_free_X0 (cw_o3 _ _ _) rfl 1 (by decide) lk_X0_free_20 rfl rfl dX0_free_5 ?_
  refine x_iload_n X dX0_free_8 rfl hl 1 rfl ?_
  obtain ⟨v2, s1, c3, hf⟩ := x_ob_of hf
  refine x_cVi X (7 + 15) 5 (cw_row (by decide : 15 < 22)) rfl rfl (c_X5_at l D cI cZ cJ a (k := 15) (by decide) F c3) (cwV 1 X.2.2.2.2.1 gX0_free_X5_at rfl rfl rfl (by decide +kernel) ⟨Nat.le_of_ble_eq_true rfl, Nat.le_of_ble_eq_true rfl⟩) rfl hl rfl (Nat.le_of_ble_eq_true rfl) ⟨Nat.zero_le _, Nat.zero_le _⟩ dX0_free_9 ?_
  refine x_isub X dX0_free_12 ?_
  exact x_iret X rfl rfl hf dX0_free_13
def rm_X0_isFull : Room := { frames := 1, cells := 0, slots := 0, locals := 21 }
theorem in_X0_isFull_X0 : ∀ w ∈ wsX00, w ∈ wsX0_isFull := by decide +kernel
theorem lk_X0_isFull_20 : Cond.fieldLink RX0 20 "Creditfabric$Buffers" "sizes" "LCreditfabric$Row;" ∈ wsX0_isFull := by decide +kernel
theorem lk_X0_isFull_23 : Cond.fieldLink RX0 23 "Creditfabric$Buffers" "room" "I" ∈ wsX0_isFull := by decide +kernel
set_option maxHeartbeats 4000000 in
set_option maxRecDepth 100000 in
theorem b_X0_isFull_20 {p : Program} {l : Launch} {e : Env} {S0 : State} {m : MethodId} {args : Array Value} {below : List Frame} {meth : Method} {c : Code} {A : Nat → Prop} {D : va_G} {cI cZ cJ : ClassId} {a : Nat → Nat} (X : x_X p S0 m args meth c cX0_isFull 2 (some .boolean) RX0 wsX0_isFull D (x_tys cI cZ cJ) A) (F : Nat) {r : Int32} {s' : CS}  : ∀ (t0 : Int32) (s : CS) (ls : Array Slot), r_X0_isFull_b20 F t0 s = some (r, s') → lv_has ls 2 [] → x_W p l e rm_X0_isFull S0 m args below meth c A D (cwld cI a) 0 0 (x_Ri below args S0 A D (cwld cI a) r s') s (F0 m 20 ls [.int t0]) := by
  intro t0 s ls hf hl
  unfold r_X0_isFull_b20 at hf
  obtain ⟨g5, hf⟩ := x_og_of hf
  exact x_iret X rfl (x_bo_of g5) hf dX0_isFull_20
set_option maxHeartbeats 4000000 in
set_option maxRecDepth 100000 in
theorem c_X0_isFull (l : Launch) (D : va_G) (cI cZ cJ : ClassId) (a : Nat → Nat) (F : Nat) {s s' : CS} {r : Int32} {x1 : Int32} (hf : r_X0_isFull F x1 s = some (r, s')) : x_Mi l yX0_isFull wsX0_isFull rm_X0_isFull D (x_tys cI cZ cJ) (cwld cI a) [.ref (a 3), .int x1] s r s' := by
  refine x_enteri (cc := cX0_isFull) (nL := 2) (ty := .boolean) (own := RX0) (by decide) rfl rfl (Nat.le_of_ble_eq_true rfl) ?_
  intro p e S0 m args below meth c A X ls hl
  have hl : lv_has ls 2 [(0, .ref (a 3)), (1, .int x1)] := hl
  unfold r_X0_isFull at hf
  refine x_aload_n X dX0_isFull_0 rfl hl 0 rfl ?_
  refine x_getf X in_X0_isFull_X0 (cw_o3 _ _ _) rfl 1 (by decide) lk_X0_isFull_20 rfl rfl dX0_isFull_1 ?_
  refine x_iload_n X dX0_isFull_4 rfl hl 1 rfl ?_
  obtain ⟨v2, s1, c3, hf⟩ := x_ob_of hf
  refine x_cVi X (7 + 15) 5 (cw_row (by decide : 15 < 22)) rfl rfl (c_X5_at l D cI cZ cJ a (k := 15) (by decide) F c3) (cwV 1 X.2.2.2.2.1 gX0_isFull_X5_at rfl rfl rfl (by decide +kernel) ⟨Nat.le_of_ble_eq_true rfl, Nat.le_of_ble_eq_true rfl⟩) rfl hl rfl (Nat.le_of_ble_eq_true rfl) ⟨Nat.zero_le _, Nat.zero_le _⟩ dX0_isFull_5 ?_
  refine x_aload_n X dX0_isFull_8 rfl hl 0 rfl ?_
  refine x_getf X in_X0_isFull_X0 (cw_o3 _ _ _) rfl 2 (by decide) lk_X0_isFull_23 rfl rfl dX0_isFull_9 ?_
  refine x_icmp_lt (tgt := 19) X dX0_isFull_12 rfl (fun q4 => ?_) (fun q4 => ?_)
  · have hf := (if_pos q4).symm.trans hf
    refine x_iconst X dX0_isFull_19 xk_iconst_0 ?_
    exact b_X0_isFull_20 X F (0 : Int32) s1 ls hf (lv_sub hl [] rfl)
  · have hf := (if_neg q4).symm.trans hf
    refine x_iconst X dX0_isFull_15 xk_iconst_1 ?_
    refine x_goto (tgt := 20) X dX0_isFull_16 rfl ?_
    exact b_X0_isFull_20 X F (1 : Int32) s1 ls hf (lv_sub hl [] rfl)
def rm_X0_first : Room := { frames := 1, cells := 0, slots := 0, locals := 21 }
theorem in_X0_first_X0 : ∀ w ∈ wsX00, w ∈ wsX0_first := by decide +kernel
theorem lk_X0_first_14 : Cond.fieldLink RX0 14 "Creditfabric$Buffers" "slots" "LCreditfabric$Row;" ∈ wsX0_first := by decide +kernel
theorem lk_X0_first_20 : Cond.fieldLink RX0 20 "Creditfabric$Buffers" "sizes" "LCreditfabric$Row;" ∈ wsX0_first := by decide +kernel
set_option maxHeartbeats 4000000 in
set_option maxRecDepth 100000 in
theorem b_X0_first_25 {p : Program} {l : Launch} {e : Env} {S0 : State} {m : MethodId} {args : Array Value} {below : List Frame} {meth : Method} {c : Code} {A : Nat → Prop} {D : va_G} {cI cZ cJ : ClassId} {a : Nat → Nat} (X : x_X p S0 m args meth c cX0_first 2 (some .int) RX0 wsX0_first D (x_tys cI cZ cJ) A) (F : Nat) {r : Int32} {s' : CS}  : ∀ (t0 : Int32) (s : CS) (ls : Array Slot), r_X0_first_b25 F t0 s = some (r, s') → lv_has ls 2 [] → x_W p l e rm_X0_first S0 m args below meth c A D (cwld cI a) 0 0 (x_Ri below args S0 A D (cwld cI a) r s') s (F0 m 25 ls [.int t0]) := by
  intro t0 s ls hf hl
  unfold r_X0_first_b25 at hf
  exact x_iret X rfl rfl hf dX0_first_25
set_option maxHeartbeats 4000000 in
set_option maxRecDepth 100000 in
theorem c_X0_first (l : Launch) (D : va_G) (cI cZ cJ : ClassId) (a : Nat → Nat) (F : Nat) {s s' : CS} {r : Int32} {x1 : Int32} (hf : r_X0_first F x1 s = some (r, s')) : x_Mi l yX0_first wsX0_first rm_X0_first D (x_tys cI cZ cJ) (cwld cI a) [.ref (a 3), .int x1] s r s' := by
  refine x_enteri (cc := cX0_first) (nL := 2) (ty := .int) (own := RX0) (by decide) rfl rfl (Nat.le_of_ble_eq_true rfl) ?_
  intro p e S0 m args below meth c A X ls hl
  have hl : lv_has ls 2 [(0, .ref (a 3)), (1, .int x1)] := hl
  unfold r_X0_first at hf
  refine x_aload_n X dX0_first_0 rfl hl 0 rfl ?_
  refine x_getf X in_X0_first_X0 (cw_o3 _ _ _) rfl 1 (by decide) lk_X0_first_20 rfl rfl dX0_first_1 ?_
  refine x_iload_n X dX0_first_4 rfl hl 1 rfl ?_
  obtain ⟨v2, s1, c3, hf⟩ := x_ob_of hf
  refine x_cVi X (7 + 15) 5 (cw_row (by decide : 15 < 22)) rfl rfl (c_X5_at l D cI cZ cJ a (k := 15) (by decide) F c3) (cwV 1 X.2.2.2.2.1 gX0_first_X5_at rfl rfl rfl (by decide +kernel) ⟨Nat.le_of_ble_eq_true rfl, Nat.le_of_ble_eq_true rfl⟩) rfl hl rfl (Nat.le_of_ble_eq_true rfl) ⟨Nat.zero_le _, Nat.zero_le _⟩ dX0_first_5 ?_
  refine x_if_le (tgt := 24) X dX0_first_8 rfl (fun q4 => ?_) (fun q4 => ?_)
  · have hf := (if_pos q4).symm.trans hf
    refine x_iconst X dX0_first_24 xk_iconst_m1 ?_
    exact b_X0_first_25 X F (-1 : Int32) s1 ls hf (lv_sub hl [] rfl)
  · have hf := (if_neg q4).symm.trans hf
    refine x_aload_n X dX0_first_11 rfl hl 0 rfl ?_
    refine x_getf X in_X0_first_X0 (cw_o3 _ _ _) rfl 0 (by decide) lk_X0_first_14 rfl rfl dX0_first_12 ?_
    refine x_iload_n X dX0_first_15 rfl hl 1 rfl ?_
    refine x_iconst X dX0_first_16 xk_iconst_3 ?_
    refine x_imul X dX0_first_17 ?_
    obtain ⟨v6, s5, c7, hf⟩ := x_ob_of hf
    refine x_cVi X (7 + 14) 5 (cw_row (by decide : 14 < 22)) rfl rfl (c_X5_at l D cI cZ cJ a (k := 14) (by decide) F c7) (cwV 1 X.2.2.2.2.1 gX0_first_X5_at rfl rfl rfl (by decide +kernel) ⟨Nat.le_of_ble_eq_true rfl, Nat.le_of_ble_eq_true rfl⟩) rfl hl rfl (Nat.le_of_ble_eq_true rfl) ⟨Nat.zero_le _, Nat.zero_le _⟩ dX0_first_18 ?_
    refine x_goto (tgt := 25) X dX0_first_21 rfl ?_
    exact b_X0_first_25 X F v6 s5 ls hf (lv_sub hl [] rfl)
def rm_X5_put : Room := { frames := 0, cells := 0, slots := 0, locals := 0 }
theorem in_X5_put_X5 : ∀ w ∈ wsX50, w ∈ wsX5_put := by decide +kernel
theorem lk_X5_put_7 : Cond.fieldLink RX5 7 "Creditfabric$Row" "numbers" "[I" ∈ wsX5_put := by decide +kernel
set_option maxHeartbeats 4000000 in
set_option maxRecDepth 100000 in
theorem b_X5_put_20 {p : Program} {l : Launch} {e : Env} {S0 : State} {m : MethodId} {args : Array Value} {below : List Frame} {meth : Method} {c : Code} {A : Nat → Prop} {D : va_G} {cI cZ cJ : ClassId} {a : Nat → Nat} (X : x_X p S0 m args meth c cX5_put 3 none RX5 wsX5_put D (x_tys cI cZ cJ) A) {k : Nat} (hk : k < 22) (F : Nat) {r : Int32} {s' : CS}  : ∀ (s : CS) (ls : Array Slot), r_X5_put_b20 k F s = some (r, s') → lv_has ls 3 [] → x_W p l e rm_X5_put S0 m args below meth c A D (cwld cI a) 0 0 (x_Rv below args S0 A D (cwld cI a) s') s (F0 m 20 ls []) := by
  intro s ls hf hl
  unfold r_X5_put_b20 at hf
  exact x_vret X rfl hf dX5_put_20
set_option maxHeartbeats 4000000 in
set_option maxRecDepth 100000 in
theorem c_X5_put (l : Launch) (D : va_G) (cI cZ cJ : ClassId) (a : Nat → Nat) {k : Nat} (hk : k < 22) (F : Nat) {s s' : CS} {r : Int32} {x1 x2 : Int32} (hf : r_X5_put k F x1 x2 s = some (r, s')) : x_Mv l yX5_put wsX5_put rm_X5_put D (x_tys cI cZ cJ) (cwld cI a) [.ref (a (7 + k)), .int x1, .int x2] s s' := by
  refine x_enterv (cc := cX5_put) (nL := 3) (own := RX5) (by decide) rfl rfl (Nat.le_of_ble_eq_true rfl) ?_
  intro p e S0 m args below meth c A X ls hl
  have hl : lv_has ls 3 [(0, .ref (a (7 + k))), (1, .int x1), (2, .int x2)] := hl
  unfold r_X5_put at hf
  refine x_iload_n X dX5_put_0 rfl hl 1 rfl ?_
  refine x_if_lt (tgt := 20) X dX5_put_1 rfl (fun q1 => ?_) (fun q1 => ?_)
  · have hf := (if_pos q1).symm.trans hf
    exact b_X5_put_20 X hk F s ls hf (lv_sub hl [] rfl)
  · have hf := (if_neg q1).symm.trans hf
    refine x_iload_n X dX5_put_4 rfl hl 1 rfl ?_
    refine x_aload_n X dX5_put_5 rfl hl 0 rfl ?_
    refine x_getf X in_X5_put_X5 (cw_row hk) rfl 0 (by decide) lk_X5_put_7 rfl rfl dX5_put_6 ?_
    refine x_alen (v := (Int32.ofNat (rl k))) X (29 + k) 0 (cw_arr hk) rfl rfl dX5_put_9 ?_
    refine x_icmp_ge (tgt := 20) X dX5_put_10 rfl (fun q2 => ?_) (fun q2 => ?_)
    · have hf := (if_pos q2).symm.trans hf
      exact b_X5_put_20 X hk F s ls hf (lv_sub hl [] rfl)
    · have hf := (if_neg q2).symm.trans hf
      refine x_aload_n X dX5_put_13 rfl hl 0 rfl ?_
      refine x_getf X in_X5_put_X5 (cw_row hk) rfl 0 (by decide) lk_X5_put_7 rfl rfl dX5_put_14 ?_
      refine x_iload_n X dX5_put_17 rfl hl 1 rfl ?_
      refine x_iload_n X dX5_put_18 rfl hl 2 rfl ?_
      obtain ⟨g3, hf⟩ := x_og_of hf
      refine x_iast X (29 + k) 0 (cw_arr hk) rfl (x_in_of g3) (cw_set hk _ _ _) dX5_put_19 (fun s4 es4 => ?_)
      have hf := x_os_of es4 hf
      exact b_X5_put_20 X hk F s4 ls hf (lv_sub hl [] rfl)
def rm_X5_add : Room := { frames := 1, cells := 0, slots := 0, locals := 22 }
set_option maxHeartbeats 4000000 in
set_option maxRecDepth 100000 in
theorem c_X5_add (l : Launch) (D : va_G) (cI cZ cJ : ClassId) (a : Nat → Nat) {k : Nat} (hk : k < 22) (F : Nat) {s s' : CS} {r : Int32} {x1 x2 : Int32} (hf : r_X5_add k F x1 x2 s = some (r, s')) : x_Mv l yX5_add wsX5_add rm_X5_add D (x_tys cI cZ cJ) (cwld cI a) [.ref (a (7 + k)), .int x1, .int x2] s s' := by
  refine x_enterv (cc := cX5_add) (nL := 3) (own := RX5) (by decide) rfl rfl (Nat.le_of_ble_eq_true rfl) ?_
  intro p e S0 m args below meth c A X ls hl
  have hl : lv_has ls 3 [(0, .ref (a (7 + k))), (1, .int x1), (2, .int x2)] := hl
  unfold r_X5_add at hf
  refine x_aload_n X dX5_add_0 rfl hl 0 rfl ?_
  refine x_iload_n X dX5_add_1 rfl hl 1 rfl ?_
  refine x_aload_n X dX5_add_2 rfl hl 0 rfl ?_
  refine x_iload_n X dX5_add_3 rfl hl 1 rfl ?_
  obtain ⟨v2, s1, c3, hf⟩ := x_ob_of hf
  refine x_cVi X (7 + k) 5 (cw_row hk) rfl rfl (c_X5_at l D cI cZ cJ a (k := k) hk F c3) (cwV 1 X.2.2.2.2.1 gX5_add_X5_at rfl rfl rfl (by decide +kernel) ⟨Nat.le_of_ble_eq_true rfl, Nat.le_of_ble_eq_true rfl⟩) rfl hl rfl (Nat.le_of_ble_eq_true rfl) ⟨Nat.zero_le _, Nat.zero_le _⟩ dX5_add_4 ?_
  refine x_iload_n X dX5_add_7 rfl hl 2 rfl ?_
  refine x_iadd X dX5_add_8 ?_
  obtain ⟨v5, s4, c6, hf⟩ := x_ob_of hf
  refine x_cVv X (7 + k) 5 (cw_row hk) rfl rfl (c_X5_put l D cI cZ cJ a (k := k) hk F c6) (cwV 2 X.2.2.2.2.1 gX5_add_X5_put rfl rfl rfl (by decide +kernel) ⟨Nat.le_of_ble_eq_true rfl, Nat.le_of_ble_eq_true rfl⟩) rfl hl rfl (Nat.le_of_ble_eq_true rfl) ⟨Nat.zero_le _, Nat.zero_le _⟩ dX5_add_9 ?_
  exact x_vret X rfl hf dX5_add_12
def rm_X0_append : Room := { frames := 2, cells := 0, slots := 0, locals := 44 }
theorem in_X0_append_X0 : ∀ w ∈ wsX00, w ∈ wsX0_append := by decide +kernel
theorem lk_X0_append_14 : Cond.fieldLink RX0 14 "Creditfabric$Buffers" "slots" "LCreditfabric$Row;" ∈ wsX0_append := by decide +kernel
theorem lk_X0_append_20 : Cond.fieldLink RX0 20 "Creditfabric$Buffers" "sizes" "LCreditfabric$Row;" ∈ wsX0_append := by decide +kernel
set_option maxHeartbeats 4000000 in
set_option maxRecDepth 100000 in
theorem b_X0_append_37 {p : Program} {l : Launch} {e : Env} {S0 : State} {m : MethodId} {args : Array Value} {below : List Frame} {meth : Method} {c : Code} {A : Nat → Prop} {D : va_G} {cI cZ cJ : ClassId} {a : Nat → Nat} (X : x_X p S0 m args meth c cX0_append 3 none RX0 wsX0_append D (x_tys cI cZ cJ) A) (F : Nat) {r : Int32} {s' : CS}  : ∀ (s : CS) (ls : Array Slot), r_X0_append_b37 F s = some (r, s') → lv_has ls 3 [] → x_W p l e rm_X0_append S0 m args below meth c A D (cwld cI a) 0 0 (x_Rv below args S0 A D (cwld cI a) s') s (F0 m 37 ls []) := by
  intro s ls hf hl
  unfold r_X0_append_b37 at hf
  exact x_vret X rfl hf dX0_append_37
set_option maxHeartbeats 4000000 in
set_option maxRecDepth 100000 in
theorem c_X0_append (l : Launch) (D : va_G) (cI cZ cJ : ClassId) (a : Nat → Nat) (F : Nat) {s s' : CS} {r : Int32} {x1 x2 : Int32} (hf : r_X0_append F x1 x2 s = some (r, s')) : x_Mv l yX0_append wsX0_append rm_X0_append D (x_tys cI cZ cJ) (cwld cI a) [.ref (a 3), .int x1, .int x2] s s' := by
  refine x_enterv (cc := cX0_append) (nL := 3) (own := RX0) (by decide) rfl rfl (Nat.le_of_ble_eq_true rfl) ?_
  intro p e S0 m args below meth c A X ls hl
  have hl : lv_has ls 3 [(0, .ref (a 3)), (1, .int x1), (2, .int x2)] := hl
  unfold r_X0_append at hf
  refine x_aload_n X dX0_append_0 rfl hl 0 rfl ?_
  refine x_iload_n X dX0_append_1 rfl hl 1 rfl ?_
  obtain ⟨v2, s1, c3, hf⟩ := x_ob_of hf
  refine x_cVi X 3 0 (cw_o3 _ _ _) rfl rfl (c_X0_isFull l D cI cZ cJ a F c3) (cwV 1 X.2.2.2.2.1 gX0_append_X0_isFull rfl rfl rfl (by decide +kernel) ⟨Nat.le_of_ble_eq_true rfl, Nat.le_of_ble_eq_true rfl⟩) rfl hl rfl (Nat.le_of_ble_eq_true rfl) ⟨Nat.zero_le _, Nat.zero_le _⟩ dX0_append_2 ?_
  refine x_if_ne (tgt := 37) X dX0_append_5 rfl (fun q4 => ?_) (fun q4 => ?_)
  · have hf := (if_neg q4).symm.trans hf
    exact b_X0_append_37 X F s1 ls hf (lv_sub hl [] rfl)
  · have hf := (if_pos q4).symm.trans hf
    refine x_aload_n X dX0_append_8 rfl hl 0 rfl ?_
    refine x_getf X in_X0_append_X0 (cw_o3 _ _ _) rfl 0 (by decide) lk_X0_append_14 rfl rfl dX0_append_9 ?_
    refine x_iload_n X dX0_append_12 rfl hl 1 rfl ?_
    refine x_iconst X dX0_append_13 xk_iconst_3 ?_
    refine x_imul X dX0_append_14 ?_
    refine x_aload_n X dX0_append_15 rfl hl 0 rfl ?_
    refine x_getf X in_X0_append_X0 (cw_o3 _ _ _) rfl 1 (by decide) lk_X0_append_20 rfl rfl dX0_append_16 ?_
    refine x_iload_n X dX0_append_19 rfl hl 1 rfl ?_
    obtain ⟨v6, s5, c7, hf⟩ := x_ob_of hf
    refine x_cVi X (7 + 15) 5 (cw_row (by decide : 15 < 22)) rfl rfl (c_X5_at l D cI cZ cJ a (k := 15) (by decide) F c7) (cwV 1 X.2.2.2.2.1 gX0_append_X5_at rfl rfl rfl (by decide +kernel) ⟨Nat.le_of_ble_eq_true rfl, Nat.le_of_ble_eq_true rfl⟩) rfl hl rfl (Nat.le_of_ble_eq_true rfl) ⟨Nat.zero_le _, Nat.zero_le _⟩ dX0_append_20 ?_
    refine x_iadd X dX0_append_23 ?_
    refine x_iload_n X dX0_append_24 rfl hl 2 rfl ?_
    obtain ⟨v9, s8, c10, hf⟩ := x_ob_of hf
    refine x_cVv X (7 + 14) 5 (cw_row (by decide : 14 < 22)) rfl rfl (c_X5_put l D cI cZ cJ a (k := 14) (by decide) F c10) (cwV 2 X.2.2.2.2.1 gX0_append_X5_put rfl rfl rfl (by decide +kernel) ⟨Nat.le_of_ble_eq_true rfl, Nat.le_of_ble_eq_true rfl⟩) rfl hl rfl (Nat.le_of_ble_eq_true rfl) ⟨Nat.zero_le _, Nat.zero_le _⟩ dX0_append_25 ?_
    refine x_aload_n X dX0_append_28 rfl hl 0 rfl ?_
    refine x_getf X in_X0_append_X0 (cw_o3 _ _ _) rfl 1 (by decide) lk_X0_append_20 rfl rfl dX0_append_29 ?_
    refine x_iload_n X dX0_append_32 rfl hl 1 rfl ?_
    refine x_iconst X dX0_append_33 xk_iconst_1 ?_
    obtain ⟨v12, s11, c13, hf⟩ := x_ob_of hf
    refine x_cVv X (7 + 15) 5 (cw_row (by decide : 15 < 22)) rfl rfl (c_X5_add l D cI cZ cJ a (k := 15) (by decide) F c13) (cwV 2 X.2.2.2.2.1 gX0_append_X5_add rfl rfl rfl (by decide +kernel) ⟨Nat.le_of_ble_eq_true rfl, Nat.le_of_ble_eq_true rfl⟩) rfl hl rfl (Nat.le_of_ble_eq_true rfl) ⟨Nat.zero_le _, Nat.zero_le _⟩ dX0_append_34 ?_
    exact b_X0_append_37 X F s11 ls hf (lv_sub hl [] rfl)
def rm_X0_removeFirst : Room := { frames := 2, cells := 0, slots := 0, locals := 44 }
theorem in_X0_removeFirst_X0 : ∀ w ∈ wsX00, w ∈ wsX0_removeFirst := by decide +kernel
theorem lk_X0_removeFirst_14 : Cond.fieldLink RX0 14 "Creditfabric$Buffers" "slots" "LCreditfabric$Row;" ∈ wsX0_removeFirst := by decide +kernel
theorem lk_X0_removeFirst_20 : Cond.fieldLink RX0 20 "Creditfabric$Buffers" "sizes" "LCreditfabric$Row;" ∈ wsX0_removeFirst := by decide +kernel
set_option maxHeartbeats 4000000 in
set_option maxRecDepth 100000 in
theorem b_X0_removeFirst_66 {p : Program} {l : Launch} {e : Env} {S0 : State} {m : MethodId} {args : Array Value} {below : List Frame} {meth : Method} {c : Code} {A : Nat → Prop} {D : va_G} {cI cZ cJ : ClassId} {a : Nat → Nat} (X : x_X p S0 m args meth c cX0_removeFirst 4 none RX0 wsX0_removeFirst D (x_tys cI cZ cJ) A) (F : Nat) {r : Int32} {s' : CS}  : ∀ (s : CS) (ls : Array Slot), r_X0_removeFirst_b66 F s = some (r, s') → lv_has ls 4 [] → x_W p l e rm_X0_removeFirst S0 m args below meth c A D (cwld cI a) 0 0 (x_Rv below args S0 A D (cwld cI a) s') s (F0 m 66 ls []) := by
  intro s ls hf hl
  unfold r_X0_removeFirst_b66 at hf
  exact x_vret X rfl hf dX0_removeFirst_66
set_option maxHeartbeats 4000000 in
set_option maxRecDepth 100000 in
theorem b_X0_removeFirst_19 {p : Program} {l : Launch} {e : Env} {S0 : State} {m : MethodId} {args : Array Value} {below : List Frame} {meth : Method} {c : Code} {A : Nat → Prop} {D : va_G} {cI cZ cJ : ClassId} {a : Nat → Nat} (X : x_X p S0 m args meth c cX0_removeFirst 4 none RX0 wsX0_removeFirst D (x_tys cI cZ cJ) A) (F : Nat) {r : Int32} {s' : CS}  : ∀ (n : Nat) (x1 x2 x3 : Int32) (s : CS) (ls : Array Slot), r_X0_removeFirst_b19 F n x1 x2 x3 s = some (r, s') → lv_has ls 4 [(0, .ref (a 3)), (1, .int x1), (2, .int x2), (3, .int x3)] → x_W p l e rm_X0_removeFirst S0 m args below meth c A D (cwld cI a) 0 0 (x_Rv below args S0 A D (cwld cI a) s') s (F0 m 19 ls []) := by
  intro n
  induction n with
  | zero =>
    intro x1 x2 x3 s ls hf hl
    have hf : (none : Option (Int32 × CS)) = some (r, s') := hf
    cases hf
  | succ n ih =>
    intro x1 x2 x3 s ls hf hl
    rw [r_X0_removeFirst_b19_s] at hf
    refine x_iload_n X dX0_removeFirst_19 rfl hl 3 rfl ?_
    refine x_iload_n X dX0_removeFirst_20 rfl hl 2 rfl ?_
    refine x_aload_n X dX0_removeFirst_21 rfl hl 0 rfl ?_
    refine x_getf X in_X0_removeFirst_X0 (cw_o3 _ _ _) rfl 1 (by decide) lk_X0_removeFirst_20 rfl rfl dX0_removeFirst_22 ?_
    refine x_iload_n X dX0_removeFirst_25 rfl hl 1 rfl ?_
    obtain ⟨v8, s7, c9, hf⟩ := x_ob_of hf
    refine x_cVi X (7 + 15) 5 (cw_row (by decide : 15 < 22)) rfl rfl (c_X5_at l D cI cZ cJ a (k := 15) (by decide) F c9) (cwV 1 X.2.2.2.2.1 gX0_removeFirst_X5_at rfl rfl rfl (by decide +kernel) ⟨Nat.le_of_ble_eq_true rfl, Nat.le_of_ble_eq_true rfl⟩) rfl hl rfl (Nat.le_of_ble_eq_true rfl) ⟨Nat.zero_le _, Nat.zero_le _⟩ dX0_removeFirst_26 ?_
    refine x_iadd X dX0_removeFirst_29 ?_
    refine x_icmp_ge (tgt := 57) X dX0_removeFirst_30 rfl (fun q10 => ?_) (fun q10 => ?_)
    · have hf := (if_pos q10).symm.trans hf
      refine x_aload_n X dX0_removeFirst_57 rfl hl 0 rfl ?_
      refine x_getf X in_X0_removeFirst_X0 (cw_o3 _ _ _) rfl 1 (by decide) lk_X0_removeFirst_20 rfl rfl dX0_removeFirst_58 ?_
      refine x_iload_n X dX0_removeFirst_61 rfl hl 1 rfl ?_
      refine x_iconst X dX0_removeFirst_62 xk_iconst_m1 ?_
      obtain ⟨v12, s11, c13, hf⟩ := x_ob_of hf
      refine x_cVv X (7 + 15) 5 (cw_row (by decide : 15 < 22)) rfl rfl (c_X5_add l D cI cZ cJ a (k := 15) (by decide) F c13) (cwV 2 X.2.2.2.2.1 gX0_removeFirst_X5_add rfl rfl rfl (by decide +kernel) ⟨Nat.le_of_ble_eq_true rfl, Nat.le_of_ble_eq_true rfl⟩) rfl hl rfl (Nat.le_of_ble_eq_true rfl) ⟨Nat.zero_le _, Nat.zero_le _⟩ dX0_removeFirst_63 ?_
      exact b_X0_removeFirst_66 X F s11 ls hf (lv_sub hl [] rfl)
    · have hf := (if_neg q10).symm.trans hf
      refine x_aload_n X dX0_removeFirst_33 rfl hl 0 rfl ?_
      refine x_getf X in_X0_removeFirst_X0 (cw_o3 _ _ _) rfl 0 (by decide) lk_X0_removeFirst_14 rfl rfl dX0_removeFirst_34 ?_
      refine x_iload_n X dX0_removeFirst_37 rfl hl 3 rfl ?_
      refine x_iconst X dX0_removeFirst_38 xk_iconst_1 ?_
      refine x_isub X dX0_removeFirst_39 ?_
      refine x_aload_n X dX0_removeFirst_40 rfl hl 0 rfl ?_
      refine x_getf X in_X0_removeFirst_X0 (cw_o3 _ _ _) rfl 0 (by decide) lk_X0_removeFirst_14 rfl rfl dX0_removeFirst_41 ?_
      refine x_iload_n X dX0_removeFirst_44 rfl hl 3 rfl ?_
      obtain ⟨v15, s14, c16, hf⟩ := x_ob_of hf
      refine x_cVi X (7 + 14) 5 (cw_row (by decide : 14 < 22)) rfl rfl (c_X5_at l D cI cZ cJ a (k := 14) (by decide) F c16) (cwV 1 X.2.2.2.2.1 gX0_removeFirst_X5_at rfl rfl rfl (by decide +kernel) ⟨Nat.le_of_ble_eq_true rfl, Nat.le_of_ble_eq_true rfl⟩) rfl hl rfl (Nat.le_of_ble_eq_true rfl) ⟨Nat.zero_le _, Nat.zero_le _⟩ dX0_removeFirst_45 ?_
      obtain ⟨v18, s17, c19, hf⟩ := x_ob_of hf
      refine x_cVv X (7 + 14) 5 (cw_row (by decide : 14 < 22)) rfl rfl (c_X5_put l D cI cZ cJ a (k := 14) (by decide) F c19) (cwV 2 X.2.2.2.2.1 gX0_removeFirst_X5_put rfl rfl rfl (by decide +kernel) ⟨Nat.le_of_ble_eq_true rfl, Nat.le_of_ble_eq_true rfl⟩) rfl hl rfl (Nat.le_of_ble_eq_true rfl) ⟨Nat.zero_le _, Nat.zero_le _⟩ dX0_removeFirst_48 ?_
      refine x_iinc (v := (x3 + (1 : Int32))) (lv' := [(3, .int (x3 + (1 : Int32))), (0, .ref (a 3)), (1, .int x1), (2, .int x2)]) X dX0_removeFirst_51 hl (j := 3) rfl rfl (by decide) rfl (fun ls hl => ?_)
      refine x_goto (tgt := 19) X dX0_removeFirst_54 rfl ?_
      exact ih x1 x2 (x3 + (1 : Int32)) s17 ls hf (lv_sub hl [1, 2, 3, 0] rfl)
set_option maxHeartbeats 4000000 in
set_option maxRecDepth 100000 in
theorem c_X0_removeFirst (l : Launch) (D : va_G) (cI cZ cJ : ClassId) (a : Nat → Nat) (F : Nat) {s s' : CS} {r : Int32} {x1 : Int32} (hf : r_X0_removeFirst F x1 s = some (r, s')) : x_Mv l yX0_removeFirst wsX0_removeFirst rm_X0_removeFirst D (x_tys cI cZ cJ) (cwld cI a) [.ref (a 3), .int x1] s s' := by
  refine x_enterv (cc := cX0_removeFirst) (nL := 4) (own := RX0) (by decide) rfl rfl (Nat.le_of_ble_eq_true rfl) ?_
  intro p e S0 m args below meth c A X ls hl
  have hl : lv_has ls 4 [(0, .ref (a 3)), (1, .int x1)] := hl
  unfold r_X0_removeFirst at hf
  refine x_aload_n X dX0_removeFirst_0 rfl hl 0 rfl ?_
  refine x_getf X in_X0_removeFirst_X0 (cw_o3 _ _ _) rfl 1 (by decide) lk_X0_removeFirst_20 rfl rfl dX0_removeFirst_1 ?_
  refine x_iload_n X dX0_removeFirst_4 rfl hl 1 rfl ?_
  obtain ⟨v2, s1, c3, hf⟩ := x_ob_of hf
  refine x_cVi X (7 + 15) 5 (cw_row (by decide : 15 < 22)) rfl rfl (c_X5_at l D cI cZ cJ a (k := 15) (by decide) F c3) (cwV 1 X.2.2.2.2.1 gX0_removeFirst_X5_at rfl rfl rfl (by decide +kernel) ⟨Nat.le_of_ble_eq_true rfl, Nat.le_of_ble_eq_true rfl⟩) rfl hl rfl (Nat.le_of_ble_eq_true rfl) ⟨Nat.zero_le _, Nat.zero_le _⟩ dX0_removeFirst_5 ?_
  refine x_if_le (tgt := 66) X dX0_removeFirst_8 rfl (fun q4 => ?_) (fun q4 => ?_)
  · have hf := (if_pos q4).symm.trans hf
    exact b_X0_removeFirst_66 X F s1 ls hf (lv_sub hl [] rfl)
  · have hf := (if_neg q4).symm.trans hf
    refine x_iload_n X dX0_removeFirst_11 rfl hl 1 rfl ?_
    refine x_iconst X dX0_removeFirst_12 xk_iconst_3 ?_
    refine x_imul X dX0_removeFirst_13 ?_
    refine x_istore_n (lv' := [(0, .ref (a 3)), (1, .int x1)]) X dX0_removeFirst_14 rfl hl (by decide) (fun _ => rfl) (fun x2_5 ls ex2_5 hl => ?_)
    have hf := x_oi_of ex2_5 hf
    refine x_iload_n X dX0_removeFirst_15 rfl hl 0 rfl ?_
    refine x_iconst X dX0_removeFirst_16 xk_iconst_1 ?_
    refine x_iadd X dX0_removeFirst_17 ?_
    refine x_istore_n (lv' := [(2, .int x2_5), (0, .ref (a 3)), (1, .int x1)]) X dX0_removeFirst_18 rfl hl (by decide) (fun _ => rfl) (fun x3_6 ls ex3_6 hl => ?_)
    have hf := x_oi_of ex3_6 hf
    exact b_X0_removeFirst_19 X F F x1 x2_5 x3_6 s1 ls hf (lv_sub hl [2, 3, 1, 0] rfl)
def rm_X0_load : Room := { frames := 1, cells := 0, slots := 0, locals := 21 }
theorem in_X0_load_X0 : ∀ w ∈ wsX00, w ∈ wsX0_load := by decide +kernel
theorem lk_X0_load_20 : Cond.fieldLink RX0 20 "Creditfabric$Buffers" "sizes" "LCreditfabric$Row;" ∈ wsX0_load := by decide +kernel
set_option maxHeartbeats 4000000 in
set_option maxRecDepth 100000 in
theorem b_X0_load_4 {p : Program} {l : Launch} {e : Env} {S0 : State} {m : MethodId} {args : Array Value} {below : List Frame} {meth : Method} {c : Code} {A : Nat → Prop} {D : va_G} {cI cZ cJ : ClassId} {a : Nat → Nat} (X : x_X p S0 m args meth c cX0_load 4 (some .int) RX0 wsX0_load D (x_tys cI cZ cJ) A) (F : Nat) {r : Int32} {s' : CS}  : ∀ (n : Nat) (x1 x2 x3 : Int32) (s : CS) (ls : Array Slot), r_X0_load_b4 F n x1 x2 x3 s = some (r, s') → lv_has ls 4 [(0, .ref (a 3)), (1, .int x1), (2, .int x2), (3, .int x3)] → x_W p l e rm_X0_load S0 m args below meth c A D (cwld cI a) 0 0 (x_Ri below args S0 A D (cwld cI a) r s') s (F0 m 4 ls []) := by
  intro n
  induction n with
  | zero =>
    intro x1 x2 x3 s ls hf hl
    have hf : (none : Option (Int32 × CS)) = some (r, s') := hf
    cases hf
  | succ n ih =>
    intro x1 x2 x3 s ls hf hl
    rw [r_X0_load_b4_s] at hf
    refine x_iload_n X dX0_load_4 rfl hl 3 rfl ?_
    refine x_bipush X dX0_load_5 xk_bipush_10 ?_
    refine x_icmp_ge (tgt := 32) X dX0_load_7 rfl (fun q1 => ?_) (fun q1 => ?_)
    · have hf := (if_pos q1).symm.trans hf
      refine x_iload_n X dX0_load_32 rfl hl 2 rfl ?_
      exact x_iret X rfl rfl hf dX0_load_33
    · have hf := (if_neg q1).symm.trans hf
      refine x_iload_n X dX0_load_10 rfl hl 2 rfl ?_
      refine x_aload_n X dX0_load_11 rfl hl 0 rfl ?_
      refine x_getf X in_X0_load_X0 (cw_o3 _ _ _) rfl 1 (by decide) lk_X0_load_20 rfl rfl dX0_load_12 ?_
      refine x_iload_n X dX0_load_15 rfl hl 1 rfl ?_
      refine x_bipush X dX0_load_16 xk_bipush_10 ?_
      refine x_imul X dX0_load_18 ?_
      refine x_iload_n X dX0_load_19 rfl hl 3 rfl ?_
      refine x_iadd X dX0_load_20 ?_
      obtain ⟨v3, s2, c4, hf⟩ := x_ob_of hf
      refine x_cVi X (7 + 15) 5 (cw_row (by decide : 15 < 22)) rfl rfl (c_X5_at l D cI cZ cJ a (k := 15) (by decide) F c4) (cwV 1 X.2.2.2.2.1 gX0_load_X5_at rfl rfl rfl (by decide +kernel) ⟨Nat.le_of_ble_eq_true rfl, Nat.le_of_ble_eq_true rfl⟩) rfl hl rfl (Nat.le_of_ble_eq_true rfl) ⟨Nat.zero_le _, Nat.zero_le _⟩ dX0_load_21 ?_
      refine x_iadd X dX0_load_24 ?_
      refine x_istore_n (lv' := [(0, .ref (a 3)), (1, .int x1), (3, .int x3)]) X dX0_load_25 rfl hl (by decide) (fun _ => rfl) (fun x2_5 ls ex2_5 hl => ?_)
      have hf := x_oi_of ex2_5 hf
      refine x_iinc (v := (x3 + (1 : Int32))) (lv' := [(3, .int (x3 + (1 : Int32))), (2, .int x2_5), (0, .ref (a 3)), (1, .int x1)]) X dX0_load_26 hl (j := 3) rfl rfl (by decide) rfl (fun ls hl => ?_)
      refine x_goto (tgt := 4) X dX0_load_29 rfl ?_
      exact ih x1 x2_5 (x3 + (1 : Int32)) s2 ls hf (lv_sub hl [2, 3, 1, 0] rfl)
set_option maxHeartbeats 4000000 in
set_option maxRecDepth 100000 in
theorem c_X0_load (l : Launch) (D : va_G) (cI cZ cJ : ClassId) (a : Nat → Nat) (F : Nat) {s s' : CS} {r : Int32} {x1 : Int32} (hf : r_X0_load F x1 s = some (r, s')) : x_Mi l yX0_load wsX0_load rm_X0_load D (x_tys cI cZ cJ) (cwld cI a) [.ref (a 3), .int x1] s r s' := by
  refine x_enteri (cc := cX0_load) (nL := 4) (ty := .int) (own := RX0) (by decide) rfl rfl (Nat.le_of_ble_eq_true rfl) ?_
  intro p e S0 m args below meth c A X ls hl
  have hl : lv_has ls 4 [(0, .ref (a 3)), (1, .int x1)] := hl
  unfold r_X0_load at hf
  refine x_iconst X dX0_load_0 xk_iconst_0 ?_
  refine x_istoreA_n (lv' := [(2, .int (0 : Int32)), (0, .ref (a 3)), (1, .int x1)]) X dX0_load_1 rfl hl (by decide) rfl (fun ls hl => ?_)
  refine x_iconst X dX0_load_2 xk_iconst_0 ?_
  refine x_istoreA_n (lv' := [(3, .int (0 : Int32)), (2, .int (0 : Int32)), (0, .ref (a 3)), (1, .int x1)]) X dX0_load_3 rfl hl (by decide) rfl (fun ls hl => ?_)
  exact b_X0_load_4 X F F x1 (0 : Int32) (0 : Int32) s ls hf (lv_sub hl [2, 3, 1, 0] rfl)
def rm_X3_size : Room := { frames := 0, cells := 0, slots := 0, locals := 0 }
theorem in_X3_size_X3 : ∀ w ∈ wsX30, w ∈ wsX3_size := by decide +kernel
theorem lk_X3_size_23 : Cond.fieldLink RX3 23 "Creditfabric$Grid" "columns" "I" ∈ wsX3_size := by decide +kernel
theorem lk_X3_size_27 : Cond.fieldLink RX3 27 "Creditfabric$Grid" "rows" "I" ∈ wsX3_size := by decide +kernel
set_option maxHeartbeats 4000000 in
set_option maxRecDepth 100000 in
theorem c_X3_size (l : Launch) (D : va_G) (cI cZ cJ : ClassId) (a : Nat → Nat) (F : Nat) {s s' : CS} {r : Int32} (hf : r_X3_size F s = some (r, s')) : x_Mi l yX3_size wsX3_size rm_X3_size D (x_tys cI cZ cJ) (cwld cI a) [.ref (a 1)] s r s' := by
  refine x_enteri (cc := cX3_size) (nL := 1) (ty := .int) (own := RX3) (by decide) rfl rfl (Nat.le_of_ble_eq_true rfl) ?_
  intro p e S0 m args below meth c A X ls hl
  have hl : lv_has ls 1 [(0, .ref (a 1))] := hl
  unfold r_X3_size at hf
  refine x_aload_n X dX3_size_0 rfl hl 0 rfl ?_
  refine x_getf X in_X3_size_X3 (cw_o1 _ _ _) rfl 2 (by decide) lk_X3_size_23 rfl rfl dX3_size_1 ?_
  refine x_aload_n X dX3_size_4 rfl hl 0 rfl ?_
  refine x_getf X in_X3_size_X3 (cw_o1 _ _ _) rfl 3 (by decide) lk_X3_size_27 rfl rfl dX3_size_5 ?_
  refine x_imul X dX3_size_8 ?_
  exact x_iret X rfl rfl hf dX3_size_9
def rm_X3_stepTowards : Room := { frames := 0, cells := 0, slots := 0, locals := 0 }
set_option maxHeartbeats 4000000 in
set_option maxRecDepth 100000 in
theorem b_X3_stepTowards_17 {p : Program} {l : Launch} {e : Env} {S0 : State} {m : MethodId} {args : Array Value} {below : List Frame} {meth : Method} {c : Code} {A : Nat → Prop} {D : va_G} {cI cZ cJ : ClassId} {a : Nat → Nat} (X : x_X p S0 m args meth c cX3_stepTowards 4 (some .int) RX3 wsX3_stepTowards D (x_tys cI cZ cJ) A) (F : Nat) {r : Int32} {s' : CS}  : ∀ (t0 : Int32) (s : CS) (ls : Array Slot), r_X3_stepTowards_b17 F t0 s = some (r, s') → lv_has ls 4 [] → x_W p l e rm_X3_stepTowards S0 m args below meth c A D (cwld cI a) 0 0 (x_Ri below args S0 A D (cwld cI a) r s') s (F0 m 17 ls [.int t0]) := by
  intro t0 s ls hf hl
  unfold r_X3_stepTowards_b17 at hf
  exact x_iret X rfl rfl hf dX3_stepTowards_17
set_option maxHeartbeats 4000000 in
set_option maxRecDepth 100000 in
theorem c_X3_stepTowards (l : Launch) (D : va_G) (cI cZ cJ : ClassId) (a : Nat → Nat) (F : Nat) {s s' : CS} {r : Int32} {x0 x1 x2 x3 : Int32} (hf : r_X3_stepTowards F x0 x1 x2 x3 s = some (r, s')) : x_Mi l yX3_stepTowards wsX3_stepTowards rm_X3_stepTowards D (x_tys cI cZ cJ) (cwld cI a) [.int x0, .int x1, .int x2, .int x3] s r s' := by
  refine x_enteri (cc := cX3_stepTowards) (nL := 4) (ty := .int) (own := RX3) (by decide) rfl rfl (Nat.le_of_ble_eq_true rfl) ?_
  intro p e S0 m args below meth c A X ls hl
  have hl : lv_has ls 4 [(0, .int x0), (1, .int x1), (2, .int x2), (3, .int x3)] := hl
  unfold r_X3_stepTowards at hf
  refine x_iload_n X dX3_stepTowards_0 rfl hl 0 rfl ?_
  refine x_iload_n X dX3_stepTowards_1 rfl hl 1 rfl ?_
  refine x_icmp_ne (tgt := 7) X dX3_stepTowards_2 rfl (fun q1 => ?_) (fun q1 => ?_)
  · have hf := (if_neg q1).symm.trans hf
    refine x_iload_n X dX3_stepTowards_7 rfl hl 0 rfl ?_
    refine x_iload_n X dX3_stepTowards_8 rfl hl 1 rfl ?_
    refine x_icmp_ge (tgt := 16) X dX3_stepTowards_9 rfl (fun q2 => ?_) (fun q2 => ?_)
    · have hf := (if_pos q2).symm.trans hf
      refine x_iload_n X dX3_stepTowards_16 rfl hl 3 rfl ?_
      exact b_X3_stepTowards_17 X F x3 s ls hf (lv_sub hl [] rfl)
    · have hf := (if_neg q2).symm.trans hf
      refine x_iload_n X dX3_stepTowards_12 rfl hl 2 rfl ?_
      refine x_goto (tgt := 17) X dX3_stepTowards_13 rfl ?_
      exact b_X3_stepTowards_17 X F x2 s ls hf (lv_sub hl [] rfl)
  · have hf := (if_pos q1).symm.trans hf
    refine x_iconst X dX3_stepTowards_5 xk_iconst_4 ?_
    exact x_iret X rfl rfl hf dX3_stepTowards_6
def rm_X3_outputTowards : Room := { frames := 1, cells := 0, slots := 0, locals := 23 }
theorem in_X3_outputTowards_X3 : ∀ w ∈ wsX30, w ∈ wsX3_outputTowards := by decide +kernel
theorem lk_X3_outputTowards_14 : Cond.fieldLink RX3 14 "Creditfabric$Grid" "columnOf" "LCreditfabric$Row;" ∈ wsX3_outputTowards := by decide +kernel
theorem lk_X3_outputTowards_20 : Cond.fieldLink RX3 20 "Creditfabric$Grid" "rowOf" "LCreditfabric$Row;" ∈ wsX3_outputTowards := by decide +kernel
set_option maxHeartbeats 4000000 in
set_option maxRecDepth 100000 in
theorem b_X3_outputTowards_77 {p : Program} {l : Launch} {e : Env} {S0 : State} {m : MethodId} {args : Array Value} {below : List Frame} {meth : Method} {c : Code} {A : Nat → Prop} {D : va_G} {cI cZ cJ : ClassId} {a : Nat → Nat} (X : x_X p S0 m args meth c cX3_outputTowards 6 (some .int) RX3 wsX3_outputTowards D (x_tys cI cZ cJ) A) (F : Nat) {r : Int32} {s' : CS}  : ∀ (t0 : Int32) (s : CS) (ls : Array Slot), r_X3_outputTowards_b77 F t0 s = some (r, s') → lv_has ls 6 [] → x_W p l e rm_X3_outputTowards S0 m args below meth c A D (cwld cI a) 0 0 (x_Ri below args S0 A D (cwld cI a) r s') s (F0 m 77 ls [.int t0]) := by
  intro t0 s ls hf hl
  unfold r_X3_outputTowards_b77 at hf
  exact x_iret X rfl rfl hf dX3_outputTowards_77
set_option maxHeartbeats 4000000 in
set_option maxRecDepth 100000 in
theorem b_X3_outputTowards_63 {p : Program} {l : Launch} {e : Env} {S0 : State} {m : MethodId} {args : Array Value} {below : List Frame} {meth : Method} {c : Code} {A : Nat → Prop} {D : va_G} {cI cZ cJ : ClassId} {a : Nat → Nat} (X : x_X p S0 m args meth c cX3_outputTowards 6 (some .int) RX3 wsX3_outputTowards D (x_tys cI cZ cJ) A) (F : Nat) {r : Int32} {s' : CS}  : ∀ (t0 : Int32) (s : CS) (ls : Array Slot), r_X3_outputTowards_b63 F t0 s = some (r, s') → lv_has ls 6 [] → x_W p l e rm_X3_outputTowards S0 m args below meth c A D (cwld cI a) 0 0 (x_Ri below args S0 A D (cwld cI a) r s') s (F0 m 63 ls [.int t0]) := by
  intro t0 s ls hf hl
  unfold r_X3_outputTowards_b63 at hf
  exact x_iret X rfl rfl hf dX3_outputTowards_63
set_option maxHeartbeats 4000000 in
set_option maxRecDepth 100000 in
theorem c_X3_outputTowards (l : Launch) (D : va_G) (cI cZ cJ : ClassId) (a : Nat → Nat) (F : Nat) {s s' : CS} {r : Int32} {x1 x2 x3 : Int32} (hf : r_X3_outputTowards F x1 x2 x3 s = some (r, s')) : x_Mi l yX3_outputTowards wsX3_outputTowards rm_X3_outputTowards D (x_tys cI cZ cJ) (cwld cI a) [.ref (a 1), .int x1, .int x2, .int x3] s r s' := by
  refine x_enteri (cc := cX3_outputTowards) (nL := 6) (ty := .int) (own := RX3) (by decide) rfl rfl (Nat.le_of_ble_eq_true rfl) ?_
  intro p e S0 m args below meth c A X ls hl
  have hl : lv_has ls 6 [(0, .ref (a 1)), (1, .int x1), (2, .int x2), (3, .int x3)] := hl
  unfold r_X3_outputTowards at hf
  refine x_aload_n X dX3_outputTowards_0 rfl hl 0 rfl ?_
  refine x_getf X in_X3_outputTowards_X3 (cw_o1 _ _ _) rfl 0 (by decide) lk_X3_outputTowards_14 rfl rfl dX3_outputTowards_1 ?_
  refine x_iload_n X dX3_outputTowards_4 rfl hl 1 rfl ?_
  obtain ⟨v2, s1, c3, hf⟩ := x_ob_of hf
  refine x_cVi X (7 + 4) 5 (cw_row (by decide : 4 < 22)) rfl rfl (c_X5_at l D cI cZ cJ a (k := 4) (by decide) F c3) (cwV 1 X.2.2.2.2.1 gX3_outputTowards_X5_at rfl rfl rfl (by decide +kernel) ⟨Nat.le_of_ble_eq_true rfl, Nat.le_of_ble_eq_true rfl⟩) rfl hl rfl (Nat.le_of_ble_eq_true rfl) ⟨Nat.zero_le _, Nat.zero_le _⟩ dX3_outputTowards_5 ?_
  refine x_aload_n X dX3_outputTowards_8 rfl hl 0 rfl ?_
  refine x_getf X in_X3_outputTowards_X3 (cw_o1 _ _ _) rfl 0 (by decide) lk_X3_outputTowards_14 rfl rfl dX3_outputTowards_9 ?_
  refine x_iload_n X dX3_outputTowards_12 rfl hl 2 rfl ?_
  obtain ⟨v5, s4, c6, hf⟩ := x_ob_of hf
  refine x_cVi X (7 + 4) 5 (cw_row (by decide : 4 < 22)) rfl rfl (c_X5_at l D cI cZ cJ a (k := 4) (by decide) F c6) (cwV 1 X.2.2.2.2.1 gX3_outputTowards_X5_at rfl rfl rfl (by decide +kernel) ⟨Nat.le_of_ble_eq_true rfl, Nat.le_of_ble_eq_true rfl⟩) rfl hl rfl (Nat.le_of_ble_eq_true rfl) ⟨Nat.zero_le _, Nat.zero_le _⟩ dX3_outputTowards_13 ?_
  refine x_iconst X dX3_outputTowards_16 xk_iconst_0 ?_
  refine x_iconst X dX3_outputTowards_17 xk_iconst_2 ?_
  obtain ⟨v8, s7, c9, hf⟩ := x_ob_of hf
  refine x_cSi X (c_X3_stepTowards l D cI cZ cJ a F c9) (va_cwS 4 X.2.2.2.2.1 gX3_outputTowards_X3_stepTowards rfl rfl rfl (by decide +kernel) ⟨Nat.le_of_ble_eq_true rfl, Nat.le_of_ble_eq_true rfl⟩) rfl hl rfl (Nat.le_of_ble_eq_true rfl) ⟨Nat.zero_le _, Nat.zero_le _⟩ dX3_outputTowards_18 ?_
  refine x_istoreA (lv' := [(4, .int v8), (0, .ref (a 1)), (1, .int x1), (2, .int x2), (3, .int x3)]) X dX3_outputTowards_21 hl (by decide) rfl (fun ls hl => ?_)
  refine x_aload_n X dX3_outputTowards_23 rfl hl 1 rfl ?_
  refine x_getf X in_X3_outputTowards_X3 (cw_o1 _ _ _) rfl 1 (by decide) lk_X3_outputTowards_20 rfl rfl dX3_outputTowards_24 ?_
  refine x_iload_n X dX3_outputTowards_27 rfl hl 2 rfl ?_
  obtain ⟨v11, s10, c12, hf⟩ := x_ob_of hf
  refine x_cVi X (7 + 5) 5 (cw_row (by decide : 5 < 22)) rfl rfl (c_X5_at l D cI cZ cJ a (k := 5) (by decide) F c12) (cwV 1 X.2.2.2.2.1 gX3_outputTowards_X5_at rfl rfl rfl (by decide +kernel) ⟨Nat.le_of_ble_eq_true rfl, Nat.le_of_ble_eq_true rfl⟩) rfl hl rfl (Nat.le_of_ble_eq_true rfl) ⟨Nat.zero_le _, Nat.zero_le _⟩ dX3_outputTowards_28 ?_
  refine x_aload_n X dX3_outputTowards_31 rfl hl 1 rfl ?_
  refine x_getf X in_X3_outputTowards_X3 (cw_o1 _ _ _) rfl 1 (by decide) lk_X3_outputTowards_20 rfl rfl dX3_outputTowards_32 ?_
  refine x_iload_n X dX3_outputTowards_35 rfl hl 3 rfl ?_
  obtain ⟨v14, s13, c15, hf⟩ := x_ob_of hf
  refine x_cVi X (7 + 5) 5 (cw_row (by decide : 5 < 22)) rfl rfl (c_X5_at l D cI cZ cJ a (k := 5) (by decide) F c15) (cwV 1 X.2.2.2.2.1 gX3_outputTowards_X5_at rfl rfl rfl (by decide +kernel) ⟨Nat.le_of_ble_eq_true rfl, Nat.le_of_ble_eq_true rfl⟩) rfl hl rfl (Nat.le_of_ble_eq_true rfl) ⟨Nat.zero_le _, Nat.zero_le _⟩ dX3_outputTowards_36 ?_
  refine x_iconst X dX3_outputTowards_39 xk_iconst_1 ?_
  refine x_iconst X dX3_outputTowards_40 xk_iconst_3 ?_
  obtain ⟨v17, s16, c18, hf⟩ := x_ob_of hf
  refine x_cSi X (c_X3_stepTowards l D cI cZ cJ a F c18) (va_cwS 4 X.2.2.2.2.1 gX3_outputTowards_X3_stepTowards rfl rfl rfl (by decide +kernel) ⟨Nat.le_of_ble_eq_true rfl, Nat.le_of_ble_eq_true rfl⟩) rfl hl rfl (Nat.le_of_ble_eq_true rfl) ⟨Nat.zero_le _, Nat.zero_le _⟩ dX3_outputTowards_41 ?_
  refine x_istoreA (lv' := [(5, .int v17), (4, .int v8), (0, .ref (a 1)), (1, .int x1), (2, .int x2), (3, .int x3)]) X dX3_outputTowards_44 hl (by decide) rfl (fun ls hl => ?_)
  refine x_iload_n X dX3_outputTowards_46 rfl hl 5 rfl ?_
  refine x_if_ne (tgt := 64) X dX3_outputTowards_47 rfl (fun q19 => ?_) (fun q19 => ?_)
  · have hf := (if_neg q19).symm.trans hf
    refine x_iload X dX3_outputTowards_64 hl 0 rfl ?_
    refine x_iconst X dX3_outputTowards_66 xk_iconst_4 ?_
    refine x_icmp_eq (tgt := 75) X dX3_outputTowards_67 rfl (fun q20 => ?_) (fun q20 => ?_)
    · have hf := (if_pos q20).symm.trans hf
      refine x_iload X dX3_outputTowards_75 hl 1 rfl ?_
      exact b_X3_outputTowards_77 X F v8 s16 ls hf (lv_sub hl [] rfl)
    · have hf := (if_neg q20).symm.trans hf
      refine x_iload X dX3_outputTowards_70 hl 0 rfl ?_
      refine x_goto (tgt := 77) X dX3_outputTowards_72 rfl ?_
      exact b_X3_outputTowards_77 X F v17 s16 ls hf (lv_sub hl [] rfl)
  · have hf := (if_pos q19).symm.trans hf
    refine x_iload X dX3_outputTowards_50 hl 1 rfl ?_
    refine x_iconst X dX3_outputTowards_52 xk_iconst_4 ?_
    refine x_icmp_eq (tgt := 61) X dX3_outputTowards_53 rfl (fun q21 => ?_) (fun q21 => ?_)
    · have hf := (if_pos q21).symm.trans hf
      refine x_iload X dX3_outputTowards_61 hl 0 rfl ?_
      exact b_X3_outputTowards_63 X F v17 s16 ls hf (lv_sub hl [] rfl)
    · have hf := (if_neg q21).symm.trans hf
      refine x_iload X dX3_outputTowards_56 hl 1 rfl ?_
      refine x_goto (tgt := 63) X dX3_outputTowards_58 rfl ?_
      exact b_X3_outputTowards_63 X F v8 s16 ls hf (lv_sub hl [] rfl)
def rm_X4_outputOf : Room := { frames := 2, cells := 0, slots := 0, locals := 48 }
theorem in_X4_outputOf_X4 : ∀ w ∈ wsX40, w ∈ wsX4_outputOf := by decide +kernel
theorem lk_X4_outputOf_20 : Cond.fieldLink RX4 20 "Creditfabric$Packets" "goals" "LCreditfabric$Row;" ∈ wsX4_outputOf := by decide +kernel
theorem lk_X4_outputOf_26 : Cond.fieldLink RX4 26 "Creditfabric$Packets" "modes" "LCreditfabric$Row;" ∈ wsX4_outputOf := by decide +kernel
theorem lk_X4_outputOf_29 : Cond.fieldLink RX4 29 "Creditfabric$Packets" "places" "LCreditfabric$Row;" ∈ wsX4_outputOf := by decide +kernel
theorem lk_X4_outputOf_41 : Cond.fieldLink RX4 41 "Creditfabric$Packets" "grid" "LCreditfabric$Grid;" ∈ wsX4_outputOf := by decide +kernel
set_option maxHeartbeats 4000000 in
set_option maxRecDepth 100000 in
theorem b_X4_outputOf_42 {p : Program} {l : Launch} {e : Env} {S0 : State} {m : MethodId} {args : Array Value} {below : List Frame} {meth : Method} {c : Code} {A : Nat → Prop} {D : va_G} {cI cZ cJ : ClassId} {a : Nat → Nat} (X : x_X p S0 m args meth c cX4_outputOf 3 (some .int) RX4 wsX4_outputOf D (x_tys cI cZ cJ) A) (F : Nat) {r : Int32} {s' : CS}  : ∀ (t0 : Int32) (s : CS) (ls : Array Slot), r_X4_outputOf_b42 F t0 s = some (r, s') → lv_has ls 3 [] → x_W p l e rm_X4_outputOf S0 m args below meth c A D (cwld cI a) 0 0 (x_Ri below args S0 A D (cwld cI a) r s') s (F0 m 42 ls [.int t0]) := by
  intro t0 s ls hf hl
  unfold r_X4_outputOf_b42 at hf
  exact x_iret X rfl rfl hf dX4_outputOf_42
set_option maxHeartbeats 4000000 in
set_option maxRecDepth 100000 in
theorem c_X4_outputOf (l : Launch) (D : va_G) (cI cZ cJ : ClassId) (a : Nat → Nat) (F : Nat) {s s' : CS} {r : Int32} {x1 : Int32} (hf : r_X4_outputOf F x1 s = some (r, s')) : x_Mi l yX4_outputOf wsX4_outputOf rm_X4_outputOf D (x_tys cI cZ cJ) (cwld cI a) [.ref (a 2), .int x1] s r s' := by
  refine x_enteri (cc := cX4_outputOf) (nL := 3) (ty := .int) (own := RX4) (by decide) rfl rfl (Nat.le_of_ble_eq_true rfl) ?_
  intro p e S0 m args below meth c A X ls hl
  have hl : lv_has ls 3 [(0, .ref (a 2)), (1, .int x1)] := hl
  unfold r_X4_outputOf at hf
  refine x_aload_n X dX4_outputOf_0 rfl hl 0 rfl ?_
  refine x_getf X in_X4_outputOf_X4 (cw_o2 _ _ _) rfl 5 (by decide) lk_X4_outputOf_29 rfl rfl dX4_outputOf_1 ?_
  refine x_iload_n X dX4_outputOf_4 rfl hl 1 rfl ?_
  obtain ⟨v2, s1, c3, hf⟩ := x_ob_of hf
  refine x_cVi X (7 + 10) 5 (cw_row (by decide : 10 < 22)) rfl rfl (c_X5_at l D cI cZ cJ a (k := 10) (by decide) F c3) (cwV 1 X.2.2.2.2.1 gX4_outputOf_X5_at rfl rfl rfl (by decide +kernel) ⟨Nat.le_of_ble_eq_true rfl, Nat.le_of_ble_eq_true rfl⟩) rfl hl rfl (Nat.le_of_ble_eq_true rfl) ⟨Nat.zero_le _, Nat.zero_le _⟩ dX4_outputOf_5 ?_
  refine x_istoreA_n (lv' := [(2, .int v2), (0, .ref (a 2)), (1, .int x1)]) X dX4_outputOf_8 rfl hl (by decide) rfl (fun ls hl => ?_)
  refine x_iload_n X dX4_outputOf_9 rfl hl 0 rfl ?_
  refine x_iconst X dX4_outputOf_10 xk_iconst_m1 ?_
  refine x_icmp_ne (tgt := 18) X dX4_outputOf_11 rfl (fun q4 => ?_) (fun q4 => ?_)
  · have hf := (if_neg q4).symm.trans hf
    refine x_aload_n X dX4_outputOf_18 rfl hl 1 rfl ?_
    refine x_getf X in_X4_outputOf_X4 (cw_o2 _ _ _) rfl 0 (by decide) lk_X4_outputOf_41 rfl rfl dX4_outputOf_19 ?_
    refine x_iload_n X dX4_outputOf_22 rfl hl 0 rfl ?_
    refine x_aload_n X dX4_outputOf_23 rfl hl 1 rfl ?_
    refine x_getf X in_X4_outputOf_X4 (cw_o2 _ _ _) rfl 2 (by decide) lk_X4_outputOf_20 rfl rfl dX4_outputOf_24 ?_
    refine x_iload_n X dX4_outputOf_27 rfl hl 2 rfl ?_
    obtain ⟨v6, s5, c7, hf⟩ := x_ob_of hf
    refine x_cVi X (7 + 7) 5 (cw_row (by decide : 7 < 22)) rfl rfl (c_X5_at l D cI cZ cJ a (k := 7) (by decide) F c7) (cwV 1 X.2.2.2.2.1 gX4_outputOf_X5_at rfl rfl rfl (by decide +kernel) ⟨Nat.le_of_ble_eq_true rfl, Nat.le_of_ble_eq_true rfl⟩) rfl hl rfl (Nat.le_of_ble_eq_true rfl) ⟨Nat.zero_le _, Nat.zero_le _⟩ dX4_outputOf_28 ?_
    refine x_aload_n X dX4_outputOf_31 rfl hl 1 rfl ?_
    refine x_getf X in_X4_outputOf_X4 (cw_o2 _ _ _) rfl 4 (by decide) lk_X4_outputOf_26 rfl rfl dX4_outputOf_32 ?_
    refine x_iload_n X dX4_outputOf_35 rfl hl 2 rfl ?_
    obtain ⟨v9, s8, c10, hf⟩ := x_ob_of hf
    refine x_cVi X (7 + 9) 5 (cw_row (by decide : 9 < 22)) rfl rfl (c_X5_at l D cI cZ cJ a (k := 9) (by decide) F c10) (cwV 1 X.2.2.2.2.1 gX4_outputOf_X5_at rfl rfl rfl (by decide +kernel) ⟨Nat.le_of_ble_eq_true rfl, Nat.le_of_ble_eq_true rfl⟩) rfl hl rfl (Nat.le_of_ble_eq_true rfl) ⟨Nat.zero_le _, Nat.zero_le _⟩ dX4_outputOf_36 ?_
    obtain ⟨v12, s11, c13, hf⟩ := x_ob_of hf
    refine x_cVi X 1 3 (cw_o1 _ _ _) rfl rfl (c_X3_outputTowards l D cI cZ cJ a F c13) (cwV 3 X.2.2.2.2.1 gX4_outputOf_X3_outputTowards rfl rfl rfl (by decide +kernel) ⟨Nat.le_of_ble_eq_true rfl, Nat.le_of_ble_eq_true rfl⟩) rfl hl rfl (Nat.le_of_ble_eq_true rfl) ⟨Nat.zero_le _, Nat.zero_le _⟩ dX4_outputOf_39 ?_
    exact b_X4_outputOf_42 X F v12 s11 ls hf (lv_sub hl [] rfl)
  · have hf := (if_pos q4).symm.trans hf
    refine x_iconst X dX4_outputOf_14 xk_iconst_m1 ?_
    refine x_goto (tgt := 42) X dX4_outputOf_15 rfl ?_
    exact b_X4_outputOf_42 X F (-1 : Int32) s1 ls hf (lv_sub hl [] rfl)
def rm_X3_behind : Room := { frames := 1, cells := 0, slots := 0, locals := 21 }
theorem in_X3_behind_X3 : ∀ w ∈ wsX30, w ∈ wsX3_behind := by decide +kernel
theorem lk_X3_behind_14 : Cond.fieldLink RX3 14 "Creditfabric$Grid" "columnOf" "LCreditfabric$Row;" ∈ wsX3_behind := by decide +kernel
theorem lk_X3_behind_20 : Cond.fieldLink RX3 20 "Creditfabric$Grid" "rowOf" "LCreditfabric$Row;" ∈ wsX3_behind := by decide +kernel
theorem lk_X3_behind_23 : Cond.fieldLink RX3 23 "Creditfabric$Grid" "columns" "I" ∈ wsX3_behind := by decide +kernel
theorem lk_X3_behind_27 : Cond.fieldLink RX3 27 "Creditfabric$Grid" "rows" "I" ∈ wsX3_behind := by decide +kernel
set_option maxHeartbeats 4000000 in
set_option maxRecDepth 100000 in
theorem b_X3_behind_56 {p : Program} {l : Launch} {e : Env} {S0 : State} {m : MethodId} {args : Array Value} {below : List Frame} {meth : Method} {c : Code} {A : Nat → Prop} {D : va_G} {cI cZ cJ : ClassId} {a : Nat → Nat} (X : x_X p S0 m args meth c cX3_behind 3 (some .int) RX3 wsX3_behind D (x_tys cI cZ cJ) A) (F : Nat) {r : Int32} {s' : CS}  : ∀ (t0 : Int32) (s : CS) (ls : Array Slot), r_X3_behind_b56 F t0 s = some (r, s') → lv_has ls 3 [] → x_W p l e rm_X3_behind S0 m args below meth c A D (cwld cI a) 0 0 (x_Ri below args S0 A D (cwld cI a) r s') s (F0 m 56 ls [.int t0]) := by
  intro t0 s ls hf hl
  unfold r_X3_behind_b56 at hf
  exact x_iret X rfl rfl hf dX3_behind_56
set_option maxHeartbeats 4000000 in
set_option maxRecDepth 100000 in
theorem b_X3_behind_84 {p : Program} {l : Launch} {e : Env} {S0 : State} {m : MethodId} {args : Array Value} {below : List Frame} {meth : Method} {c : Code} {A : Nat → Prop} {D : va_G} {cI cZ cJ : ClassId} {a : Nat → Nat} (X : x_X p S0 m args meth c cX3_behind 3 (some .int) RX3 wsX3_behind D (x_tys cI cZ cJ) A) (F : Nat) {r : Int32} {s' : CS}  : ∀ (t0 : Int32) (s : CS) (ls : Array Slot), r_X3_behind_b84 F t0 s = some (r, s') → lv_has ls 3 [] → x_W p l e rm_X3_behind S0 m args below meth c A D (cwld cI a) 0 0 (x_Ri below args S0 A D (cwld cI a) r s') s (F0 m 84 ls [.int t0]) := by
  intro t0 s ls hf hl
  unfold r_X3_behind_b84 at hf
  exact x_iret X rfl rfl hf dX3_behind_84
set_option maxHeartbeats 4000000 in
set_option maxRecDepth 100000 in
theorem b_X3_behind_103 {p : Program} {l : Launch} {e : Env} {S0 : State} {m : MethodId} {args : Array Value} {below : List Frame} {meth : Method} {c : Code} {A : Nat → Prop} {D : va_G} {cI cZ cJ : ClassId} {a : Nat → Nat} (X : x_X p S0 m args meth c cX3_behind 3 (some .int) RX3 wsX3_behind D (x_tys cI cZ cJ) A) (F : Nat) {r : Int32} {s' : CS}  : ∀ (t0 : Int32) (s : CS) (ls : Array Slot), r_X3_behind_b103 F t0 s = some (r, s') → lv_has ls 3 [] → x_W p l e rm_X3_behind S0 m args below meth c A D (cwld cI a) 0 0 (x_Ri below args S0 A D (cwld cI a) r s') s (F0 m 103 ls [.int t0]) := by
  intro t0 s ls hf hl
  unfold r_X3_behind_b103 at hf
  exact x_iret X rfl rfl hf dX3_behind_103
set_option maxHeartbeats 4000000 in
set_option maxRecDepth 100000 in
theorem b_X3_behind_125 {p : Program} {l : Launch} {e : Env} {S0 : State} {m : MethodId} {args : Array Value} {below : List Frame} {meth : Method} {c : Code} {A : Nat → Prop} {D : va_G} {cI cZ cJ : ClassId} {a : Nat → Nat} (X : x_X p S0 m args meth c cX3_behind 3 (some .int) RX3 wsX3_behind D (x_tys cI cZ cJ) A) (F : Nat) {r : Int32} {s' : CS}  : ∀ (t0 : Int32) (s : CS) (ls : Array Slot), r_X3_behind_b125 F t0 s = some (r, s') → lv_has ls 3 [] → x_W p l e rm_X3_behind S0 m args below meth c A D (cwld cI a) 0 0 (x_Ri below args S0 A D (cwld cI a) r s') s (F0 m 125 ls [.int t0]) := by
  intro t0 s ls hf hl
  unfold r_X3_behind_b125 at hf
  exact x_iret X rfl rfl hf dX3_behind_125
set_option maxHeartbeats 4000000 in
set_option maxRecDepth 100000 in
theorem c_X3_behind (l : Launch) (D : va_G) (cI cZ cJ : ClassId) (a : Nat → Nat) (F : Nat) {s s' : CS} {r : Int32} {x1 x2 : Int32} (hf : r_X3_behind F x1 x2 s = some (r, s')) : x_Mi l yX3_behind wsX3_behind rm_X3_behind D (x_tys cI cZ cJ) (cwld cI a) [.ref (a 1), .int x1, .int x2] s r s' := by
  refine x_enteri (cc := cX3_behind) (nL := 3) (ty := .int) (own := RX3) (by decide) rfl rfl (Nat.le_of_ble_eq_true rfl) ?_
  intro p e S0 m args below meth c A X ls hl
  have hl : lv_has ls 3 [(0, .ref (a 1)), (1, .int x1), (2, .int x2)] := hl
  unfold r_X3_behind at hf
  refine x_iload_n X dX3_behind_0 rfl hl 2 rfl ?_
  by_cases q1 : x2 = (0 : Int32)
  · have hf := (if_pos q1).symm.trans hf
    refine x_tabIn (tgt := 32) X q1 dX3_behind_1 (by decide) (by decide) rfl rfl ?_
    refine x_aload_n X dX3_behind_32 rfl hl 0 rfl ?_
    refine x_getf X in_X3_behind_X3 (cw_o1 _ _ _) rfl 0 (by decide) lk_X3_behind_14 rfl rfl dX3_behind_33 ?_
    refine x_iload_n X dX3_behind_36 rfl hl 1 rfl ?_
    obtain ⟨v3, s2, c4, hf⟩ := x_ob_of hf
    refine x_cVi X (7 + 4) 5 (cw_row (by decide : 4 < 22)) rfl rfl (c_X5_at l D cI cZ cJ a (k := 4) (by decide) F c4) (cwV 1 X.2.2.2.2.1 gX3_behind_X5_at rfl rfl rfl (by decide +kernel) ⟨Nat.le_of_ble_eq_true rfl, Nat.le_of_ble_eq_true rfl⟩) rfl hl rfl (Nat.le_of_ble_eq_true rfl) ⟨Nat.zero_le _, Nat.zero_le _⟩ dX3_behind_37 ?_
    refine x_iconst X dX3_behind_40 xk_iconst_1 ?_
    refine x_iadd X dX3_behind_41 ?_
    refine x_aload_n X dX3_behind_42 rfl hl 0 rfl ?_
    refine x_getf X in_X3_behind_X3 (cw_o1 _ _ _) rfl 2 (by decide) lk_X3_behind_23 rfl rfl dX3_behind_43 ?_
    refine x_icmp_ge (tgt := 55) X dX3_behind_46 rfl (fun q5 => ?_) (fun q5 => ?_)
    · have hf := (if_pos q5).symm.trans hf
      refine x_iconst X dX3_behind_55 xk_iconst_m1 ?_
      exact b_X3_behind_56 X F (-1 : Int32) s2 ls hf (lv_sub hl [] rfl)
    · have hf := (if_neg q5).symm.trans hf
      refine x_iload_n X dX3_behind_49 rfl hl 1 rfl ?_
      refine x_iconst X dX3_behind_50 xk_iconst_1 ?_
      refine x_iadd X dX3_behind_51 ?_
      refine x_goto (tgt := 56) X dX3_behind_52 rfl ?_
      exact b_X3_behind_56 X F (x1 + (1 : Int32)) s2 ls hf (lv_sub hl [] rfl)
  · have hf := (if_neg q1).symm.trans hf
    by_cases q6 : x2 = (1 : Int32)
    · have hf := (if_pos q6).symm.trans hf
      refine x_tabIn (tgt := 57) X q6 dX3_behind_1 (by decide) (by decide) rfl rfl ?_
      refine x_aload_n X dX3_behind_57 rfl hl 0 rfl ?_
      refine x_getf X in_X3_behind_X3 (cw_o1 _ _ _) rfl 1 (by decide) lk_X3_behind_20 rfl rfl dX3_behind_58 ?_
      refine x_iload_n X dX3_behind_61 rfl hl 1 rfl ?_
      obtain ⟨v8, s7, c9, hf⟩ := x_ob_of hf
      refine x_cVi X (7 + 5) 5 (cw_row (by decide : 5 < 22)) rfl rfl (c_X5_at l D cI cZ cJ a (k := 5) (by decide) F c9) (cwV 1 X.2.2.2.2.1 gX3_behind_X5_at rfl rfl rfl (by decide +kernel) ⟨Nat.le_of_ble_eq_true rfl, Nat.le_of_ble_eq_true rfl⟩) rfl hl rfl (Nat.le_of_ble_eq_true rfl) ⟨Nat.zero_le _, Nat.zero_le _⟩ dX3_behind_62 ?_
      refine x_iconst X dX3_behind_65 xk_iconst_1 ?_
      refine x_iadd X dX3_behind_66 ?_
      refine x_aload_n X dX3_behind_67 rfl hl 0 rfl ?_
      refine x_getf X in_X3_behind_X3 (cw_o1 _ _ _) rfl 3 (by decide) lk_X3_behind_27 rfl rfl dX3_behind_68 ?_
      refine x_icmp_ge (tgt := 83) X dX3_behind_71 rfl (fun q10 => ?_) (fun q10 => ?_)
      · have hf := (if_pos q10).symm.trans hf
        refine x_iconst X dX3_behind_83 xk_iconst_m1 ?_
        exact b_X3_behind_84 X F (-1 : Int32) s7 ls hf (lv_sub hl [] rfl)
      · have hf := (if_neg q10).symm.trans hf
        refine x_iload_n X dX3_behind_74 rfl hl 1 rfl ?_
        refine x_aload_n X dX3_behind_75 rfl hl 0 rfl ?_
        refine x_getf X in_X3_behind_X3 (cw_o1 _ _ _) rfl 2 (by decide) lk_X3_behind_23 rfl rfl dX3_behind_76 ?_
        refine x_iadd X dX3_behind_79 ?_
        refine x_goto (tgt := 84) X dX3_behind_80 rfl ?_
        exact b_X3_behind_84 X F (x1 + (s7 22 2)) s7 ls hf (lv_sub hl [] rfl)
    · have hf := (if_neg q6).symm.trans hf
      by_cases q11 : x2 = (2 : Int32)
      · have hf := (if_pos q11).symm.trans hf
        refine x_tabIn (tgt := 85) X q11 dX3_behind_1 (by decide) (by decide) rfl rfl ?_
        refine x_aload_n X dX3_behind_85 rfl hl 0 rfl ?_
        refine x_getf X in_X3_behind_X3 (cw_o1 _ _ _) rfl 0 (by decide) lk_X3_behind_14 rfl rfl dX3_behind_86 ?_
        refine x_iload_n X dX3_behind_89 rfl hl 1 rfl ?_
        obtain ⟨v13, s12, c14, hf⟩ := x_ob_of hf
        refine x_cVi X (7 + 4) 5 (cw_row (by decide : 4 < 22)) rfl rfl (c_X5_at l D cI cZ cJ a (k := 4) (by decide) F c14) (cwV 1 X.2.2.2.2.1 gX3_behind_X5_at rfl rfl rfl (by decide +kernel) ⟨Nat.le_of_ble_eq_true rfl, Nat.le_of_ble_eq_true rfl⟩) rfl hl rfl (Nat.le_of_ble_eq_true rfl) ⟨Nat.zero_le _, Nat.zero_le _⟩ dX3_behind_90 ?_
        refine x_if_le (tgt := 102) X dX3_behind_93 rfl (fun q15 => ?_) (fun q15 => ?_)
        · have hf := (if_pos q15).symm.trans hf
          refine x_iconst X dX3_behind_102 xk_iconst_m1 ?_
          exact b_X3_behind_103 X F (-1 : Int32) s12 ls hf (lv_sub hl [] rfl)
        · have hf := (if_neg q15).symm.trans hf
          refine x_iload_n X dX3_behind_96 rfl hl 1 rfl ?_
          refine x_iconst X dX3_behind_97 xk_iconst_1 ?_
          refine x_isub X dX3_behind_98 ?_
          refine x_goto (tgt := 103) X dX3_behind_99 rfl ?_
          exact b_X3_behind_103 X F (x1 - (1 : Int32)) s12 ls hf (lv_sub hl [] rfl)
      · have hf := (if_neg q11).symm.trans hf
        by_cases q16 : x2 = (3 : Int32)
        · have hf := (if_pos q16).symm.trans hf
          refine x_tabIn (tgt := 104) X q16 dX3_behind_1 (by decide) (by decide) rfl rfl ?_
          refine x_aload_n X dX3_behind_104 rfl hl 0 rfl ?_
          refine x_getf X in_X3_behind_X3 (cw_o1 _ _ _) rfl 1 (by decide) lk_X3_behind_20 rfl rfl dX3_behind_105 ?_
          refine x_iload_n X dX3_behind_108 rfl hl 1 rfl ?_
          obtain ⟨v18, s17, c19, hf⟩ := x_ob_of hf
          refine x_cVi X (7 + 5) 5 (cw_row (by decide : 5 < 22)) rfl rfl (c_X5_at l D cI cZ cJ a (k := 5) (by decide) F c19) (cwV 1 X.2.2.2.2.1 gX3_behind_X5_at rfl rfl rfl (by decide +kernel) ⟨Nat.le_of_ble_eq_true rfl, Nat.le_of_ble_eq_true rfl⟩) rfl hl rfl (Nat.le_of_ble_eq_true rfl) ⟨Nat.zero_le _, Nat.zero_le _⟩ dX3_behind_109 ?_
          refine x_if_le (tgt := 124) X dX3_behind_112 rfl (fun q20 => ?_) (fun q20 => ?_)
          · have hf := (if_pos q20).symm.trans hf
            refine x_iconst X dX3_behind_124 xk_iconst_m1 ?_
            exact b_X3_behind_125 X F (-1 : Int32) s17 ls hf (lv_sub hl [] rfl)
          · have hf := (if_neg q20).symm.trans hf
            refine x_iload_n X dX3_behind_115 rfl hl 1 rfl ?_
            refine x_aload_n X dX3_behind_116 rfl hl 0 rfl ?_
            refine x_getf X in_X3_behind_X3 (cw_o1 _ _ _) rfl 2 (by decide) lk_X3_behind_23 rfl rfl dX3_behind_117 ?_
            refine x_isub X dX3_behind_120 ?_
            refine x_goto (tgt := 125) X dX3_behind_121 rfl ?_
            exact b_X3_behind_125 X F (x1 - (s17 22 2)) s17 ls hf (lv_sub hl [] rfl)
        · have hf := (if_neg q16).symm.trans hf
          refine x_tabOut (tgt := 126) X (x_out4 q1 q6 q11 q16) dX3_behind_1 rfl ?_
          refine x_iconst X dX3_behind_126 xk_iconst_m1 ?_
          exact x_iret X rfl rfl hf dX3_behind_127
def rm_X7_bufferOf : Room := { frames := 0, cells := 0, slots := 0, locals := 0 }
set_option maxHeartbeats 4000000 in
set_option maxRecDepth 100000 in
theorem c_X7_bufferOf (l : Launch) (D : va_G) (cI cZ cJ : ClassId) (a : Nat → Nat) (F : Nat) {s s' : CS} {r : Int32} {x0 x1 x2 : Int32} (hf : r_X7_bufferOf F x0 x1 x2 s = some (r, s')) : x_Mi l yX7_bufferOf wsX7_bufferOf rm_X7_bufferOf D (x_tys cI cZ cJ) (cwld cI a) [.int x0, .int x1, .int x2] s r s' := by
  refine x_enteri (cc := cX7_bufferOf) (nL := 3) (ty := .int) (own := RX7) (by decide) rfl rfl (Nat.le_of_ble_eq_true rfl) ?_
  intro p e S0 m args below meth c A X ls hl
  have hl : lv_has ls 3 [(0, .int x0), (1, .int x1), (2, .int x2)] := hl
  unfold r_X7_bufferOf at hf
  refine x_iload_n X dX7_bufferOf_0 rfl hl 0 rfl ?_
  refine x_bipush X dX7_bufferOf_1 xk_bipush_10 ?_
  refine x_imul X dX7_bufferOf_3 ?_
  refine x_iconst X dX7_bufferOf_4 xk_iconst_2 ?_
  refine x_iload_n X dX7_bufferOf_5 rfl hl 1 rfl ?_
  refine x_imul X dX7_bufferOf_6 ?_
  refine x_iadd X dX7_bufferOf_7 ?_
  refine x_iload_n X dX7_bufferOf_8 rfl hl 2 rfl ?_
  refine x_iadd X dX7_bufferOf_9 ?_
  exact x_iret X rfl rfl hf dX7_bufferOf_10
def rm_X1_nextBuffer : Room := { frames := 2, cells := 0, slots := 0, locals := 43 }
theorem in_X1_nextBuffer_X1 : ∀ w ∈ wsX10, w ∈ wsX1_nextBuffer := by decide +kernel
theorem lk_X1_nextBuffer_23 : Cond.fieldLink RX1 23 "Creditfabric$Circles" "grid" "LCreditfabric$Grid;" ∈ wsX1_nextBuffer := by decide +kernel
set_option maxHeartbeats 4000000 in
set_option maxRecDepth 100000 in
theorem b_X1_nextBuffer_28 {p : Program} {l : Launch} {e : Env} {S0 : State} {m : MethodId} {args : Array Value} {below : List Frame} {meth : Method} {c : Code} {A : Nat → Prop} {D : va_G} {cI cZ cJ : ClassId} {a : Nat → Nat} (X : x_X p S0 m args meth c cX1_nextBuffer 5 (some .int) RX1 wsX1_nextBuffer D (x_tys cI cZ cJ) A) (F : Nat) {r : Int32} {s' : CS}  : ∀ (t0 : Int32) (s : CS) (ls : Array Slot), r_X1_nextBuffer_b28 F t0 s = some (r, s') → lv_has ls 5 [] → x_W p l e rm_X1_nextBuffer S0 m args below meth c A D (cwld cI a) 0 0 (x_Ri below args S0 A D (cwld cI a) r s') s (F0 m 28 ls [.int t0]) := by
  intro t0 s ls hf hl
  unfold r_X1_nextBuffer_b28 at hf
  exact x_iret X rfl rfl hf dX1_nextBuffer_28
set_option maxHeartbeats 4000000 in
set_option maxRecDepth 100000 in
theorem c_X1_nextBuffer (l : Launch) (D : va_G) (cI cZ cJ : ClassId) (a : Nat → Nat) (F : Nat) {s s' : CS} {r : Int32} {x1 x2 x3 : Int32} (hf : r_X1_nextBuffer F x1 x2 x3 s = some (r, s')) : x_Mi l yX1_nextBuffer wsX1_nextBuffer rm_X1_nextBuffer D (x_tys cI cZ cJ) (cwld cI a) [.ref (a 6), .int x1, .int x2, .int x3] s r s' := by
  refine x_enteri (cc := cX1_nextBuffer) (nL := 5) (ty := .int) (own := RX1) (by decide) rfl rfl (Nat.le_of_ble_eq_true rfl) ?_
  intro p e S0 m args below meth c A X ls hl
  have hl : lv_has ls 5 [(0, .ref (a 6)), (1, .int x1), (2, .int x2), (3, .int x3)] := hl
  unfold r_X1_nextBuffer at hf
  refine x_aload_n X dX1_nextBuffer_0 rfl hl 0 rfl ?_
  refine x_getf X in_X1_nextBuffer_X1 (cw_o6 _ _ _) rfl 0 (by decide) lk_X1_nextBuffer_23 rfl rfl dX1_nextBuffer_1 ?_
  refine x_iload_n X dX1_nextBuffer_4 rfl hl 1 rfl ?_
  refine x_iload_n X dX1_nextBuffer_5 rfl hl 2 rfl ?_
  obtain ⟨v2, s1, c3, hf⟩ := x_ob_of hf
  refine x_cVi X 1 3 (cw_o1 _ _ _) rfl rfl (c_X3_behind l D cI cZ cJ a F c3) (cwV 2 X.2.2.2.2.1 gX1_nextBuffer_X3_behind rfl rfl rfl (by decide +kernel) ⟨Nat.le_of_ble_eq_true rfl, Nat.le_of_ble_eq_true rfl⟩) rfl hl rfl (Nat.le_of_ble_eq_true rfl) ⟨Nat.zero_le _, Nat.zero_le _⟩ dX1_nextBuffer_6 ?_
  refine x_istoreA (lv' := [(4, .int v2), (0, .ref (a 6)), (1, .int x1), (2, .int x2), (3, .int x3)]) X dX1_nextBuffer_9 hl (by decide) rfl (fun ls hl => ?_)
  refine x_iload X dX1_nextBuffer_11 hl 0 rfl ?_
  refine x_iconst X dX1_nextBuffer_13 xk_iconst_m1 ?_
  refine x_icmp_ne (tgt := 21) X dX1_nextBuffer_14 rfl (fun q4 => ?_) (fun q4 => ?_)
  · have hf := (if_neg q4).symm.trans hf
    refine x_iload X dX1_nextBuffer_21 hl 0 rfl ?_
    refine x_iload_n X dX1_nextBuffer_23 rfl hl 3 rfl ?_
    refine x_iload_n X dX1_nextBuffer_24 rfl hl 4 rfl ?_
    obtain ⟨v6, s5, c7, hf⟩ := x_ob_of hf
    refine x_cSNi X (c_X7_bufferOf l D cI cZ cJ a F c7) ⟨va_cnB 3 X.2.2.2.2.1 gX1_nextBuffer_X7_bufferOf_n96 rfl rfl rfl (X.2.2.2.2.2.1.2 _ (by decide +kernel)) (X.2.2.2.2.1 _ (by decide +kernel)) (by decide +kernel) ⟨Nat.le_of_ble_eq_true rfl, Nat.le_of_ble_eq_true rfl⟩, X.2.2.2.2.1 _ (by decide +kernel), trivial⟩ rfl hl rfl (Nat.le_of_ble_eq_true rfl) ⟨Nat.zero_le _, Nat.zero_le _⟩ dX1_nextBuffer_25 ?_
    exact b_X1_nextBuffer_28 X F v6 s5 ls hf (lv_sub hl [] rfl)
  · have hf := (if_pos q4).symm.trans hf
    refine x_iconst X dX1_nextBuffer_17 xk_iconst_m1 ?_
    refine x_goto (tgt := 28) X dX1_nextBuffer_18 rfl ?_
    exact b_X1_nextBuffer_28 X F (-1 : Int32) s1 ls hf (lv_sub hl [] rfl)
def rm_X1_awaitedBy : Room := { frames := 3, cells := 0, slots := 0, locals := 70 }
theorem in_X1_awaitedBy_X1 : ∀ w ∈ wsX10, w ∈ wsX1_awaitedBy := by decide +kernel
theorem in_X1_awaitedBy_X4 : ∀ w ∈ wsX40, w ∈ wsX1_awaitedBy := by decide +kernel
theorem lk_X1_awaitedBy_27 : Cond.fieldLink RX1 27 "Creditfabric$Circles" "traffic" "LCreditfabric$Packets;" ∈ wsX1_awaitedBy := by decide +kernel
theorem lk_X1_awaitedBy_31 : Cond.fieldLink RX1 31 "Creditfabric$Circles" "buffers" "LCreditfabric$Buffers;" ∈ wsX1_awaitedBy := by decide +kernel
set_option maxHeartbeats 4000000 in
set_option maxRecDepth 100000 in
theorem b_X1_awaitedBy_72 {p : Program} {l : Launch} {e : Env} {S0 : State} {m : MethodId} {args : Array Value} {below : List Frame} {meth : Method} {c : Code} {A : Nat → Prop} {D : va_G} {cI cZ cJ : ClassId} {a : Nat → Nat} (X : x_X p S0 m args meth c cX1_awaitedBy 4 (some .int) RX1 wsX1_awaitedBy D (x_tys cI cZ cJ) A) (F : Nat) {r : Int32} {s' : CS}  : ∀ (t0 : Int32) (s : CS) (ls : Array Slot), r_X1_awaitedBy_b72 F t0 s = some (r, s') → lv_has ls 4 [] → x_W p l e rm_X1_awaitedBy S0 m args below meth c A D (cwld cI a) 0 0 (x_Ri below args S0 A D (cwld cI a) r s') s (F0 m 72 ls [.int t0]) := by
  intro t0 s ls hf hl
  unfold r_X1_awaitedBy_b72 at hf
  exact x_iret X rfl rfl hf dX1_awaitedBy_72
set_option maxHeartbeats 4000000 in
set_option maxRecDepth 100000 in
theorem b_X1_awaitedBy_71 {p : Program} {l : Launch} {e : Env} {S0 : State} {m : MethodId} {args : Array Value} {below : List Frame} {meth : Method} {c : Code} {A : Nat → Prop} {D : va_G} {cI cZ cJ : ClassId} {a : Nat → Nat} (X : x_X p S0 m args meth c cX1_awaitedBy 4 (some .int) RX1 wsX1_awaitedBy D (x_tys cI cZ cJ) A) (F : Nat) {r : Int32} {s' : CS}  : ∀ (s : CS) (ls : Array Slot), r_X1_awaitedBy_b71 F s = some (r, s') → lv_has ls 4 [] → x_W p l e rm_X1_awaitedBy S0 m args below meth c A D (cwld cI a) 0 0 (x_Ri below args S0 A D (cwld cI a) r s') s (F0 m 71 ls []) := by
  intro s ls hf hl
  unfold r_X1_awaitedBy_b71 at hf
  refine x_iconst X dX1_awaitedBy_71 xk_iconst_m1 ?_
  exact b_X1_awaitedBy_72 X F (-1 : Int32) s ls hf (lv_sub hl [] rfl)
set_option maxHeartbeats 4000000 in
set_option maxRecDepth 100000 in
theorem c_X1_awaitedBy (l : Launch) (D : va_G) (cI cZ cJ : ClassId) (a : Nat → Nat) (F : Nat) {s s' : CS} {r : Int32} {x1 : Int32} (hf : r_X1_awaitedBy F x1 s = some (r, s')) : x_Mi l yX1_awaitedBy wsX1_awaitedBy rm_X1_awaitedBy D (x_tys cI cZ cJ) (cwld cI a) [.ref (a 6), .int x1] s r s' := by
  refine x_enteri (cc := cX1_awaitedBy) (nL := 4) (ty := .int) (own := RX1) (by decide) rfl rfl (Nat.le_of_ble_eq_true rfl) ?_
  intro p e S0 m args below meth c A X ls hl
  have hl : lv_has ls 4 [(0, .ref (a 6)), (1, .int x1)] := hl
  unfold r_X1_awaitedBy at hf
  refine x_aload_n X dX1_awaitedBy_0 rfl hl 0 rfl ?_
  refine x_getf X in_X1_awaitedBy_X1 (cw_o6 _ _ _) rfl 2 (by decide) lk_X1_awaitedBy_31 rfl rfl dX1_awaitedBy_1 ?_
  refine x_iload_n X dX1_awaitedBy_4 rfl hl 1 rfl ?_
  obtain ⟨v2, s1, c3, hf⟩ := x_ob_of hf
  refine x_cVi X 3 0 (cw_o3 _ _ _) rfl rfl (c_X0_first l D cI cZ cJ a F c3) (cwV 1 X.2.2.2.2.1 gX1_awaitedBy_X0_first rfl rfl rfl (by decide +kernel) ⟨Nat.le_of_ble_eq_true rfl, Nat.le_of_ble_eq_true rfl⟩) rfl hl rfl (Nat.le_of_ble_eq_true rfl) ⟨Nat.zero_le _, Nat.zero_le _⟩ dX1_awaitedBy_5 ?_
  refine x_istoreA_n (lv' := [(2, .int v2), (0, .ref (a 6)), (1, .int x1)]) X dX1_awaitedBy_8 rfl hl (by decide) rfl (fun ls hl => ?_)
  refine x_iload_n X dX1_awaitedBy_9 rfl hl 0 rfl ?_
  refine x_iconst X dX1_awaitedBy_10 xk_iconst_m1 ?_
  refine x_icmp_ne (tgt := 16) X dX1_awaitedBy_11 rfl (fun q4 => ?_) (fun q4 => ?_)
  · have hf := (if_neg q4).symm.trans hf
    refine x_aload_n X dX1_awaitedBy_16 rfl hl 1 rfl ?_
    refine x_aload_n X dX1_awaitedBy_17 rfl hl 1 rfl ?_
    refine x_getf X in_X1_awaitedBy_X1 (cw_o6 _ _ _) rfl 1 (by decide) lk_X1_awaitedBy_27 rfl rfl dX1_awaitedBy_18 ?_
    refine x_getN X in_X1_awaitedBy_X4 (cw_o2 _ _ _) rfl 5 (by decide) (by decide +kernel) rfl rfl dX1_awaitedBy_21 ?_
    refine x_iload_n X dX1_awaitedBy_24 rfl hl 0 rfl ?_
    obtain ⟨v6, s5, c7, hf⟩ := x_ob_of hf
    refine x_cVi X (7 + 10) 5 (cw_row (by decide : 10 < 22)) rfl rfl (c_X5_at l D cI cZ cJ a (k := 10) (by decide) F c7) (cwV 1 X.2.2.2.2.1 gX1_awaitedBy_X5_at rfl rfl rfl (by decide +kernel) ⟨Nat.le_of_ble_eq_true rfl, Nat.le_of_ble_eq_true rfl⟩) rfl hl rfl (Nat.le_of_ble_eq_true rfl) ⟨Nat.zero_le _, Nat.zero_le _⟩ dX1_awaitedBy_25 ?_
    refine x_aload_n X dX1_awaitedBy_28 rfl hl 1 rfl ?_
    refine x_getf X in_X1_awaitedBy_X1 (cw_o6 _ _ _) rfl 1 (by decide) lk_X1_awaitedBy_27 rfl rfl dX1_awaitedBy_29 ?_
    refine x_iload_n X dX1_awaitedBy_32 rfl hl 0 rfl ?_
    obtain ⟨v9, s8, c10, hf⟩ := x_ob_of hf
    refine x_cVi X 2 4 (cw_o2 _ _ _) rfl rfl (c_X4_outputOf l D cI cZ cJ a F c10) (cwV 1 X.2.2.2.2.1 gX1_awaitedBy_X4_outputOf rfl rfl rfl (by decide +kernel) ⟨Nat.le_of_ble_eq_true rfl, Nat.le_of_ble_eq_true rfl⟩) rfl hl rfl (Nat.le_of_ble_eq_true rfl) ⟨Nat.zero_le _, Nat.zero_le _⟩ dX1_awaitedBy_33 ?_
    refine x_aload_n X dX1_awaitedBy_36 rfl hl 1 rfl ?_
    refine x_getf X in_X1_awaitedBy_X1 (cw_o6 _ _ _) rfl 1 (by decide) lk_X1_awaitedBy_27 rfl rfl dX1_awaitedBy_37 ?_
    refine x_getN X in_X1_awaitedBy_X4 (cw_o2 _ _ _) rfl 3 (by decide) (by decide +kernel) rfl rfl dX1_awaitedBy_40 ?_
    refine x_iload_n X dX1_awaitedBy_43 rfl hl 0 rfl ?_
    obtain ⟨v12, s11, c13, hf⟩ := x_ob_of hf
    refine x_cVi X (7 + 8) 5 (cw_row (by decide : 8 < 22)) rfl rfl (c_X5_at l D cI cZ cJ a (k := 8) (by decide) F c13) (cwV 1 X.2.2.2.2.1 gX1_awaitedBy_X5_at rfl rfl rfl (by decide +kernel) ⟨Nat.le_of_ble_eq_true rfl, Nat.le_of_ble_eq_true rfl⟩) rfl hl rfl (Nat.le_of_ble_eq_true rfl) ⟨Nat.zero_le _, Nat.zero_le _⟩ dX1_awaitedBy_44 ?_
    obtain ⟨v15, s14, c16, hf⟩ := x_ob_of hf
    refine x_cVi X 6 1 (cw_o6 _ _ _) rfl rfl (c_X1_nextBuffer l D cI cZ cJ a F c16) (cwV 3 X.2.2.2.2.1 gX1_awaitedBy_X1_nextBuffer rfl rfl rfl (by decide +kernel) ⟨Nat.le_of_ble_eq_true rfl, Nat.le_of_ble_eq_true rfl⟩) rfl hl rfl (Nat.le_of_ble_eq_true rfl) ⟨Nat.zero_le _, Nat.zero_le _⟩ dX1_awaitedBy_47 ?_
    refine x_istoreA_n (lv' := [(3, .int v15), (2, .int v2), (0, .ref (a 6)), (1, .int x1)]) X dX1_awaitedBy_50 rfl hl (by decide) rfl (fun ls hl => ?_)
    refine x_iload_n X dX1_awaitedBy_51 rfl hl 0 rfl ?_
    refine x_iconst X dX1_awaitedBy_52 xk_iconst_m1 ?_
    refine x_icmp_eq (tgt := 71) X dX1_awaitedBy_53 rfl (fun q17 => ?_) (fun q17 => ?_)
    · have hf := (if_pos q17).symm.trans hf
      exact b_X1_awaitedBy_71 X F s14 ls hf (lv_sub hl [] rfl)
    · have hf := (if_neg q17).symm.trans hf
      refine x_aload_n X dX1_awaitedBy_56 rfl hl 2 rfl ?_
      refine x_getf X in_X1_awaitedBy_X1 (cw_o6 _ _ _) rfl 2 (by decide) lk_X1_awaitedBy_31 rfl rfl dX1_awaitedBy_57 ?_
      refine x_iload_n X dX1_awaitedBy_60 rfl hl 0 rfl ?_
      obtain ⟨v19, s18, c20, hf⟩ := x_ob_of hf
      refine x_cVi X 3 0 (cw_o3 _ _ _) rfl rfl (c_X0_isFull l D cI cZ cJ a F c20) (cwV 1 X.2.2.2.2.1 gX1_awaitedBy_X0_isFull rfl rfl rfl (by decide +kernel) ⟨Nat.le_of_ble_eq_true rfl, Nat.le_of_ble_eq_true rfl⟩) rfl hl rfl (Nat.le_of_ble_eq_true rfl) ⟨Nat.zero_le _, Nat.zero_le _⟩ dX1_awaitedBy_61 ?_
      refine x_if_eq (tgt := 71) X dX1_awaitedBy_64 rfl (fun q21 => ?_) (fun q21 => ?_)
      · have hf := (if_pos q21).symm.trans hf
        exact b_X1_awaitedBy_71 X F s18 ls hf (lv_sub hl [] rfl)
      · have hf := (if_neg q21).symm.trans hf
        refine x_iload_n X dX1_awaitedBy_67 rfl hl 0 rfl ?_
        refine x_goto (tgt := 72) X dX1_awaitedBy_68 rfl ?_
        exact b_X1_awaitedBy_72 X F v15 s18 ls hf (lv_sub hl [] rfl)
  · have hf := (if_pos q4).symm.trans hf
    refine x_iconst X dX1_awaitedBy_14 xk_iconst_m1 ?_
    exact x_iret X rfl rfl hf dX1_awaitedBy_15
def rm_X1_comesBack : Room := { frames := 1, cells := 0, slots := 0, locals := 21 }
theorem in_X1_comesBack_X1 : ∀ w ∈ wsX10, w ∈ wsX1_comesBack := by decide +kernel
theorem lk_X1_comesBack_14 : Cond.fieldLink RX1 14 "Creditfabric$Circles" "awaited" "LCreditfabric$Row;" ∈ wsX1_comesBack := by decide +kernel
set_option maxHeartbeats 4000000 in
set_option maxRecDepth 100000 in
theorem b_X1_comesBack_45 {p : Program} {l : Launch} {e : Env} {S0 : State} {m : MethodId} {args : Array Value} {below : List Frame} {meth : Method} {c : Code} {A : Nat → Prop} {D : va_G} {cI cZ cJ : ClassId} {a : Nat → Nat} (X : x_X p S0 m args meth c cX1_comesBack 4 (some .boolean) RX1 wsX1_comesBack D (x_tys cI cZ cJ) A) (F : Nat) {r : Int32} {s' : CS}  : ∀ (s : CS) (ls : Array Slot), r_X1_comesBack_b45 F s = some (r, s') → lv_has ls 4 [] → x_W p l e rm_X1_comesBack S0 m args below meth c A D (cwld cI a) 0 0 (x_Ri below args S0 A D (cwld cI a) r s') s (F0 m 45 ls []) := by
  intro s ls hf hl
  unfold r_X1_comesBack_b45 at hf
  refine x_iconst X dX1_comesBack_45 xk_iconst_0 ?_
  exact x_iret X rfl rfl hf dX1_comesBack_46
set_option maxHeartbeats 4000000 in
set_option maxRecDepth 100000 in
theorem b_X1_comesBack_11 {p : Program} {l : Launch} {e : Env} {S0 : State} {m : MethodId} {args : Array Value} {below : List Frame} {meth : Method} {c : Code} {A : Nat → Prop} {D : va_G} {cI cZ cJ : ClassId} {a : Nat → Nat} (X : x_X p S0 m args meth c cX1_comesBack 4 (some .boolean) RX1 wsX1_comesBack D (x_tys cI cZ cJ) A) (F : Nat) {r : Int32} {s' : CS}  : ∀ (n : Nat) (x1 x2 x3 : Int32) (s : CS) (ls : Array Slot), r_X1_comesBack_b11 F n x1 x2 x3 s = some (r, s') → lv_has ls 4 [(0, .ref (a 6)), (1, .int x1), (2, .int x2), (3, .int x3)] → x_W p l e rm_X1_comesBack S0 m args below meth c A D (cwld cI a) 0 0 (x_Ri below args S0 A D (cwld cI a) r s') s (F0 m 11 ls []) := by
  intro n
  induction n with
  | zero =>
    intro x1 x2 x3 s ls hf hl
    have hf : (none : Option (Int32 × CS)) = some (r, s') := hf
    cases hf
  | succ n ih =>
    intro x1 x2 x3 s ls hf hl
    rw [r_X1_comesBack_b11_s] at hf
    refine x_iload_n X dX1_comesBack_11 rfl hl 3 rfl ?_
    refine x_sipush X dX1_comesBack_12 xk_sipush_160 ?_
    refine x_icmp_ge (tgt := 45) X dX1_comesBack_15 rfl (fun q4 => ?_) (fun q4 => ?_)
    · have hf := (if_pos q4).symm.trans hf
      exact b_X1_comesBack_45 X F s ls hf (lv_sub hl [] rfl)
    · have hf := (if_neg q4).symm.trans hf
      refine x_iload_n X dX1_comesBack_18 rfl hl 2 rfl ?_
      refine x_iconst X dX1_comesBack_19 xk_iconst_m1 ?_
      refine x_icmp_eq (tgt := 45) X dX1_comesBack_20 rfl (fun q5 => ?_) (fun q5 => ?_)
      · have hf := (if_pos q5).symm.trans hf
        exact b_X1_comesBack_45 X F s ls hf (lv_sub hl [] rfl)
      · have hf := (if_neg q5).symm.trans hf
        refine x_iload_n X dX1_comesBack_23 rfl hl 2 rfl ?_
        refine x_iload_n X dX1_comesBack_24 rfl hl 1 rfl ?_
        refine x_icmp_ne (tgt := 30) X dX1_comesBack_25 rfl (fun q6 => ?_) (fun q6 => ?_)
        · have hf := (if_neg q6).symm.trans hf
          refine x_aload_n X dX1_comesBack_30 rfl hl 0 rfl ?_
          refine x_getf X in_X1_comesBack_X1 (cw_o6 _ _ _) rfl 3 (by decide) lk_X1_comesBack_14 rfl rfl dX1_comesBack_31 ?_
          refine x_iload_n X dX1_comesBack_34 rfl hl 2 rfl ?_
          obtain ⟨v8, s7, c9, hf⟩ := x_ob_of hf
          refine x_cVi X (7 + 20) 5 (cw_row (by decide : 20 < 22)) rfl rfl (c_X5_at l D cI cZ cJ a (k := 20) (by decide) F c9) (cwV 1 X.2.2.2.2.1 gX1_comesBack_X5_at rfl rfl rfl (by decide +kernel) ⟨Nat.le_of_ble_eq_true rfl, Nat.le_of_ble_eq_true rfl⟩) rfl hl rfl (Nat.le_of_ble_eq_true rfl) ⟨Nat.zero_le _, Nat.zero_le _⟩ dX1_comesBack_35 ?_
          refine x_istoreA_n (lv' := [(2, .int v8), (0, .ref (a 6)), (1, .int x1), (3, .int x3)]) X dX1_comesBack_38 rfl hl (by decide) rfl (fun ls hl => ?_)
          refine x_iinc (v := (x3 + (1 : Int32))) (lv' := [(3, .int (x3 + (1 : Int32))), (2, .int v8), (0, .ref (a 6)), (1, .int x1)]) X dX1_comesBack_39 hl (j := 3) rfl rfl (by decide) rfl (fun ls hl => ?_)
          refine x_goto (tgt := 11) X dX1_comesBack_42 rfl ?_
          exact ih x1 v8 (x3 + (1 : Int32)) s7 ls hf (lv_sub hl [2, 3, 1, 0] rfl)
        · have hf := (if_pos q6).symm.trans hf
          refine x_iconst X dX1_comesBack_28 xk_iconst_1 ?_
          exact x_iret X rfl rfl hf dX1_comesBack_29
set_option maxHeartbeats 4000000 in
set_option maxRecDepth 100000 in
theorem c_X1_comesBack (l : Launch) (D : va_G) (cI cZ cJ : ClassId) (a : Nat → Nat) (F : Nat) {s s' : CS} {r : Int32} {x1 : Int32} (hf : r_X1_comesBack F x1 s = some (r, s')) : x_Mi l yX1_comesBack wsX1_comesBack rm_X1_comesBack D (x_tys cI cZ cJ) (cwld cI a) [.ref (a 6), .int x1] s r s' := by
  refine x_enteri (cc := cX1_comesBack) (nL := 4) (ty := .boolean) (own := RX1) (by decide) rfl rfl (Nat.le_of_ble_eq_true rfl) ?_
  intro p e S0 m args below meth c A X ls hl
  have hl : lv_has ls 4 [(0, .ref (a 6)), (1, .int x1)] := hl
  unfold r_X1_comesBack at hf
  refine x_aload_n X dX1_comesBack_0 rfl hl 0 rfl ?_
  refine x_getf X in_X1_comesBack_X1 (cw_o6 _ _ _) rfl 3 (by decide) lk_X1_comesBack_14 rfl rfl dX1_comesBack_1 ?_
  refine x_iload_n X dX1_comesBack_4 rfl hl 1 rfl ?_
  obtain ⟨v2, s1, c3, hf⟩ := x_ob_of hf
  refine x_cVi X (7 + 20) 5 (cw_row (by decide : 20 < 22)) rfl rfl (c_X5_at l D cI cZ cJ a (k := 20) (by decide) F c3) (cwV 1 X.2.2.2.2.1 gX1_comesBack_X5_at rfl rfl rfl (by decide +kernel) ⟨Nat.le_of_ble_eq_true rfl, Nat.le_of_ble_eq_true rfl⟩) rfl hl rfl (Nat.le_of_ble_eq_true rfl) ⟨Nat.zero_le _, Nat.zero_le _⟩ dX1_comesBack_5 ?_
  refine x_istoreA_n (lv' := [(2, .int v2), (0, .ref (a 6)), (1, .int x1)]) X dX1_comesBack_8 rfl hl (by decide) rfl (fun ls hl => ?_)
  refine x_iconst X dX1_comesBack_9 xk_iconst_0 ?_
  refine x_istoreA_n (lv' := [(3, .int (0 : Int32)), (2, .int v2), (0, .ref (a 6)), (1, .int x1)]) X dX1_comesBack_10 rfl hl (by decide) rfl (fun ls hl => ?_)
  exact b_X1_comesBack_11 X F F x1 v2 (0 : Int32) s1 ls hf (lv_sub hl [2, 3, 1, 0] rfl)
def rm_X1_countWaiting : Room := { frames := 4, cells := 0, slots := 0, locals := 93 }
theorem in_X1_countWaiting_X1 : ∀ w ∈ wsX10, w ∈ wsX1_countWaiting := by decide +kernel
theorem lk_X1_countWaiting_14 : Cond.fieldLink RX1 14 "Creditfabric$Circles" "awaited" "LCreditfabric$Row;" ∈ wsX1_countWaiting := by decide +kernel
theorem lk_X1_countWaiting_23 : Cond.fieldLink RX1 23 "Creditfabric$Circles" "grid" "LCreditfabric$Grid;" ∈ wsX1_countWaiting := by decide +kernel
set_option maxHeartbeats 4000000 in
set_option maxRecDepth 100000 in
theorem b_X1_countWaiting_57 {p : Program} {l : Launch} {e : Env} {S0 : State} {m : MethodId} {args : Array Value} {below : List Frame} {meth : Method} {c : Code} {A : Nat → Prop} {D : va_G} {cI cZ cJ : ClassId} {a : Nat → Nat} (X : x_X p S0 m args meth c cX1_countWaiting 4 (some .int) RX1 wsX1_countWaiting D (x_tys cI cZ cJ) A) (F : Nat) {r : Int32} {s' : CS} (K41 : Int32 → Int32 → Int32 → CS → Option (Int32 × CS)) (hK41 : ∀ (x1 x2 x3 : Int32) (s : CS) (ls : Array Slot), K41 x1 x2 x3 s = some (r, s') → lv_has ls 4 [(0, .ref (a 6)), (1, .int x1), (2, .int x2), (3, .int x3)] → x_W p l e rm_X1_countWaiting S0 m args below meth c A D (cwld cI a) 0 0 (x_Ri below args S0 A D (cwld cI a) r s') s (F0 m 41 ls [])) : ∀ (x1 x2 x3 : Int32) (s : CS) (ls : Array Slot), r_X1_countWaiting_b57 K41 F x1 x2 x3 s = some (r, s') → lv_has ls 4 [(0, .ref (a 6)), (1, .int x1), (2, .int x2), (3, .int x3)] → x_W p l e rm_X1_countWaiting S0 m args below meth c A D (cwld cI a) 0 0 (x_Ri below args S0 A D (cwld cI a) r s') s (F0 m 57 ls []) := by
  intro x1 x2 x3 s ls hf hl
  unfold r_X1_countWaiting_b57 at hf
  refine x_iinc (v := (x3 + (1 : Int32))) (lv' := [(3, .int (x3 + (1 : Int32))), (0, .ref (a 6)), (1, .int x1), (2, .int x2)]) X dX1_countWaiting_57 hl (j := 3) rfl rfl (by decide) rfl (fun ls hl => ?_)
  refine x_goto (tgt := 41) X dX1_countWaiting_60 rfl ?_
  exact hK41 x1 x2 (x3 + (1 : Int32)) s ls hf (lv_sub hl [1, 2, 3, 0] rfl)
set_option maxHeartbeats 4000000 in
set_option maxRecDepth 100000 in
theorem b_X1_countWaiting_41 {p : Program} {l : Launch} {e : Env} {S0 : State} {m : MethodId} {args : Array Value} {below : List Frame} {meth : Method} {c : Code} {A : Nat → Prop} {D : va_G} {cI cZ cJ : ClassId} {a : Nat → Nat} (X : x_X p S0 m args meth c cX1_countWaiting 4 (some .int) RX1 wsX1_countWaiting D (x_tys cI cZ cJ) A) (F : Nat) {r : Int32} {s' : CS}  : ∀ (n : Nat) (x1 x2 x3 : Int32) (s : CS) (ls : Array Slot), r_X1_countWaiting_b41 F n x1 x2 x3 s = some (r, s') → lv_has ls 4 [(0, .ref (a 6)), (1, .int x1), (2, .int x2), (3, .int x3)] → x_W p l e rm_X1_countWaiting S0 m args below meth c A D (cwld cI a) 0 0 (x_Ri below args S0 A D (cwld cI a) r s') s (F0 m 41 ls []) := by
  intro n
  induction n with
  | zero =>
    intro x1 x2 x3 s ls hf hl
    have hf : (none : Option (Int32 × CS)) = some (r, s') := hf
    cases hf
  | succ n ih =>
    intro x1 x2 x3 s ls hf hl
    rw [r_X1_countWaiting_b41_s] at hf
    refine x_iload_n X dX1_countWaiting_41 rfl hl 3 rfl ?_
    refine x_iload_n X dX1_countWaiting_42 rfl hl 1 rfl ?_
    refine x_icmp_ge (tgt := 63) X dX1_countWaiting_43 rfl (fun q6 => ?_) (fun q6 => ?_)
    · have hf := (if_pos q6).symm.trans hf
      refine x_iload_n X dX1_countWaiting_63 rfl hl 2 rfl ?_
      exact x_iret X rfl rfl hf dX1_countWaiting_64
    · have hf := (if_neg q6).symm.trans hf
      refine x_aload_n X dX1_countWaiting_46 rfl hl 0 rfl ?_
      refine x_iload_n X dX1_countWaiting_47 rfl hl 3 rfl ?_
      obtain ⟨v8, s7, c9, hf⟩ := x_ob_of hf
      refine x_cVi X 6 1 (cw_o6 _ _ _) rfl rfl (c_X1_comesBack l D cI cZ cJ a F c9) (cwV 1 X.2.2.2.2.1 gX1_countWaiting_X1_comesBack rfl rfl rfl (by decide +kernel) ⟨Nat.le_of_ble_eq_true rfl, Nat.le_of_ble_eq_true rfl⟩) rfl hl rfl (Nat.le_of_ble_eq_true rfl) ⟨Nat.zero_le _, Nat.zero_le _⟩ dX1_countWaiting_48 ?_
      refine x_if_eq (tgt := 57) X dX1_countWaiting_51 rfl (fun q10 => ?_) (fun q10 => ?_)
      · have hf := (if_pos q10).symm.trans hf
        exact b_X1_countWaiting_57 X F _ ih x1 x2 x3 s7 ls hf (lv_sub hl [0, 1, 2, 3] rfl)
      · have hf := (if_neg q10).symm.trans hf
        refine x_iinc (v := (x2 + (1 : Int32))) (lv' := [(2, .int (x2 + (1 : Int32))), (0, .ref (a 6)), (1, .int x1), (3, .int x3)]) X dX1_countWaiting_54 hl (j := 2) rfl rfl (by decide) rfl (fun ls hl => ?_)
        exact b_X1_countWaiting_57 X F _ ih x1 (x2 + (1 : Int32)) x3 s7 ls hf (lv_sub hl [1, 2, 0, 3] rfl)
set_option maxHeartbeats 4000000 in
set_option maxRecDepth 100000 in
theorem b_X1_countWaiting_13 {p : Program} {l : Launch} {e : Env} {S0 : State} {m : MethodId} {args : Array Value} {below : List Frame} {meth : Method} {c : Code} {A : Nat → Prop} {D : va_G} {cI cZ cJ : ClassId} {a : Nat → Nat} (X : x_X p S0 m args meth c cX1_countWaiting 4 (some .int) RX1 wsX1_countWaiting D (x_tys cI cZ cJ) A) (F : Nat) {r : Int32} {s' : CS}  : ∀ (n : Nat) (x1 x2 : Int32) (s : CS) (ls : Array Slot), r_X1_countWaiting_b13 F n x1 x2 s = some (r, s') → lv_has ls 4 [(0, .ref (a 6)), (1, .int x1), (2, .int x2)] → x_W p l e rm_X1_countWaiting S0 m args below meth c A D (cwld cI a) 0 0 (x_Ri below args S0 A D (cwld cI a) r s') s (F0 m 13 ls []) := by
  intro n
  induction n with
  | zero =>
    intro x1 x2 s ls hf hl
    have hf : (none : Option (Int32 × CS)) = some (r, s') := hf
    cases hf
  | succ n ih =>
    intro x1 x2 s ls hf hl
    rw [r_X1_countWaiting_b13_s] at hf
    refine x_iload_n X dX1_countWaiting_13 rfl hl 2 rfl ?_
    refine x_iload_n X dX1_countWaiting_14 rfl hl 1 rfl ?_
    refine x_icmp_ge (tgt := 37) X dX1_countWaiting_15 rfl (fun q5 => ?_) (fun q5 => ?_)
    · have hf := (if_pos q5).symm.trans hf
      refine x_iconst X dX1_countWaiting_37 xk_iconst_0 ?_
      refine x_istoreA_n (lv' := [(2, .int (0 : Int32)), (0, .ref (a 6)), (1, .int x1)]) X dX1_countWaiting_38 rfl hl (by decide) rfl (fun ls hl => ?_)
      refine x_iconst X dX1_countWaiting_39 xk_iconst_0 ?_
      refine x_istoreA_n (lv' := [(3, .int (0 : Int32)), (2, .int (0 : Int32)), (0, .ref (a 6)), (1, .int x1)]) X dX1_countWaiting_40 rfl hl (by decide) rfl (fun ls hl => ?_)
      exact b_X1_countWaiting_41 X F F x1 (0 : Int32) (0 : Int32) s ls hf (lv_sub hl [2, 3, 1, 0] rfl)
    · have hf := (if_neg q5).symm.trans hf
      refine x_aload_n X dX1_countWaiting_18 rfl hl 0 rfl ?_
      refine x_getf X in_X1_countWaiting_X1 (cw_o6 _ _ _) rfl 3 (by decide) lk_X1_countWaiting_14 rfl rfl dX1_countWaiting_19 ?_
      refine x_iload_n X dX1_countWaiting_22 rfl hl 2 rfl ?_
      refine x_aload_n X dX1_countWaiting_23 rfl hl 0 rfl ?_
      refine x_iload_n X dX1_countWaiting_24 rfl hl 2 rfl ?_
      obtain ⟨v12, s11, c13, hf⟩ := x_ob_of hf
      refine x_cVi X 6 1 (cw_o6 _ _ _) rfl rfl (c_X1_awaitedBy l D cI cZ cJ a F c13) (cwV 1 X.2.2.2.2.1 gX1_countWaiting_X1_awaitedBy rfl rfl rfl (by decide +kernel) ⟨Nat.le_of_ble_eq_true rfl, Nat.le_of_ble_eq_true rfl⟩) rfl hl rfl (Nat.le_of_ble_eq_true rfl) ⟨Nat.zero_le _, Nat.zero_le _⟩ dX1_countWaiting_25 ?_
      obtain ⟨v15, s14, c16, hf⟩ := x_ob_of hf
      refine x_cVv X (7 + 20) 5 (cw_row (by decide : 20 < 22)) rfl rfl (c_X5_put l D cI cZ cJ a (k := 20) (by decide) F c16) (cwV 2 X.2.2.2.2.1 gX1_countWaiting_X5_put rfl rfl rfl (by decide +kernel) ⟨Nat.le_of_ble_eq_true rfl, Nat.le_of_ble_eq_true rfl⟩) rfl hl rfl (Nat.le_of_ble_eq_true rfl) ⟨Nat.zero_le _, Nat.zero_le _⟩ dX1_countWaiting_28 ?_
      refine x_iinc (v := (x2 + (1 : Int32))) (lv' := [(2, .int (x2 + (1 : Int32))), (0, .ref (a 6)), (1, .int x1)]) X dX1_countWaiting_31 hl (j := 2) rfl rfl (by decide) rfl (fun ls hl => ?_)
      refine x_goto (tgt := 13) X dX1_countWaiting_34 rfl ?_
      exact ih x1 (x2 + (1 : Int32)) s14 ls hf (lv_sub hl [1, 2, 0] rfl)
set_option maxHeartbeats 4000000 in
set_option maxRecDepth 100000 in
theorem c_X1_countWaiting (l : Launch) (D : va_G) (cI cZ cJ : ClassId) (a : Nat → Nat) (F : Nat) {s s' : CS} {r : Int32} (hf : r_X1_countWaiting F s = some (r, s')) : x_Mi l yX1_countWaiting wsX1_countWaiting rm_X1_countWaiting D (x_tys cI cZ cJ) (cwld cI a) [.ref (a 6)] s r s' := by
  refine x_enteri (cc := cX1_countWaiting) (nL := 4) (ty := .int) (own := RX1) (by decide) rfl rfl (Nat.le_of_ble_eq_true rfl) ?_
  intro p e S0 m args below meth c A X ls hl
  have hl : lv_has ls 4 [(0, .ref (a 6))] := hl
  unfold r_X1_countWaiting at hf
  refine x_aload_n X dX1_countWaiting_0 rfl hl 0 rfl ?_
  refine x_getf X in_X1_countWaiting_X1 (cw_o6 _ _ _) rfl 0 (by decide) lk_X1_countWaiting_23 rfl rfl dX1_countWaiting_1 ?_
  obtain ⟨v2, s1, c3, hf⟩ := x_ob_of hf
  refine x_cVi X 1 3 (cw_o1 _ _ _) rfl rfl (c_X3_size l D cI cZ cJ a F c3) (cwV 0 X.2.2.2.2.1 gX1_countWaiting_X3_size rfl rfl rfl (by decide +kernel) ⟨Nat.le_of_ble_eq_true rfl, Nat.le_of_ble_eq_true rfl⟩) rfl hl rfl (Nat.le_of_ble_eq_true rfl) ⟨Nat.zero_le _, Nat.zero_le _⟩ dX1_countWaiting_4 ?_
  refine x_bipush X dX1_countWaiting_7 xk_bipush_10 ?_
  refine x_imul X dX1_countWaiting_9 ?_
  refine x_istore_n (lv' := [(0, .ref (a 6))]) X dX1_countWaiting_10 rfl hl (by decide) (fun _ => rfl) (fun x1_4 ls ex1_4 hl => ?_)
  have hf := x_oi_of ex1_4 hf
  refine x_iconst X dX1_countWaiting_11 xk_iconst_0 ?_
  refine x_istoreA_n (lv' := [(2, .int (0 : Int32)), (1, .int x1_4), (0, .ref (a 6))]) X dX1_countWaiting_12 rfl hl (by decide) rfl (fun ls hl => ?_)
  exact b_X1_countWaiting_13 X F F x1_4 (0 : Int32) s1 ls hf (lv_sub hl [2, 1, 0] rfl)
def rm_X1_hangAlong : Room := { frames := 3, cells := 0, slots := 0, locals := 67 }
theorem in_X1_hangAlong_X1 : ∀ w ∈ wsX10, w ∈ wsX1_hangAlong := by decide +kernel
theorem in_X1_hangAlong_X4 : ∀ w ∈ wsX40, w ∈ wsX1_hangAlong := by decide +kernel
theorem lk_X1_hangAlong_20 : Cond.fieldLink RX1 20 "Creditfabric$Circles" "hangings" "LCreditfabric$Row;" ∈ wsX1_hangAlong := by decide +kernel
theorem lk_X1_hangAlong_23 : Cond.fieldLink RX1 23 "Creditfabric$Circles" "grid" "LCreditfabric$Grid;" ∈ wsX1_hangAlong := by decide +kernel
theorem lk_X1_hangAlong_27 : Cond.fieldLink RX1 27 "Creditfabric$Circles" "traffic" "LCreditfabric$Packets;" ∈ wsX1_hangAlong := by decide +kernel
set_option maxHeartbeats 4000000 in
set_option maxRecDepth 100000 in
theorem b_X1_hangAlong_45 {p : Program} {l : Launch} {e : Env} {S0 : State} {m : MethodId} {args : Array Value} {below : List Frame} {meth : Method} {c : Code} {A : Nat → Prop} {D : va_G} {cI cZ cJ : ClassId} {a : Nat → Nat} (X : x_X p S0 m args meth c cX1_hangAlong 8 none RX1 wsX1_hangAlong D (x_tys cI cZ cJ) A) (F : Nat) {r : Int32} {s' : CS}  : ∀ (n : Nat) (x1 x2 x3 x4 x5 : Int32) (s : CS) (ls : Array Slot), r_X1_hangAlong_b45 F n x1 x2 x3 x4 x5 s = some (r, s') → lv_has ls 8 [(0, .ref (a 6)), (1, .int x1), (2, .int x2), (3, .int x3), (4, .int x4), (5, .int x5)] → x_W p l e rm_X1_hangAlong S0 m args below meth c A D (cwld cI a) 0 0 (x_Rv below args S0 A D (cwld cI a) s') s (F0 m 45 ls []) := by
  intro n
  induction n with
  | zero =>
    intro x1 x2 x3 x4 x5 s ls hf hl
    have hf : (none : Option (Int32 × CS)) = some (r, s') := hf
    cases hf
  | succ n ih =>
    intro x1 x2 x3 x4 x5 s ls hf hl
    rw [r_X1_hangAlong_b45_s] at hf
    refine x_iload X dX1_hangAlong_45 hl 5 rfl ?_
    refine x_bipush X dX1_hangAlong_47 xk_bipush_16 ?_
    refine x_icmp_ge (tgt := 145) X dX1_hangAlong_49 rfl (fun q13 => ?_) (fun q13 => ?_)
    · have hf := (if_pos q13).symm.trans hf
      exact x_vret X rfl hf dX1_hangAlong_145
    · have hf := (if_neg q13).symm.trans hf
      refine x_aload_n X dX1_hangAlong_52 rfl hl 0 rfl ?_
      refine x_getf X in_X1_hangAlong_X1 (cw_o6 _ _ _) rfl 0 (by decide) lk_X1_hangAlong_23 rfl rfl dX1_hangAlong_53 ?_
      refine x_iload_n X dX1_hangAlong_56 rfl hl 2 rfl ?_
      refine x_aload_n X dX1_hangAlong_57 rfl hl 0 rfl ?_
      refine x_getf X in_X1_hangAlong_X1 (cw_o6 _ _ _) rfl 1 (by decide) lk_X1_hangAlong_27 rfl rfl dX1_hangAlong_58 ?_
      refine x_getN X in_X1_hangAlong_X4 (cw_o2 _ _ _) rfl 2 (by decide) (by decide +kernel) rfl rfl dX1_hangAlong_61 ?_
      refine x_iload_n X dX1_hangAlong_64 rfl hl 1 rfl ?_
      obtain ⟨v15, s14, c16, hf⟩ := x_ob_of hf
      refine x_cVi X (7 + 7) 5 (cw_row (by decide : 7 < 22)) rfl rfl (c_X5_at l D cI cZ cJ a (k := 7) (by decide) F c16) (cwV 1 X.2.2.2.2.1 gX1_hangAlong_X5_at rfl rfl rfl (by decide +kernel) ⟨Nat.le_of_ble_eq_true rfl, Nat.le_of_ble_eq_true rfl⟩) rfl hl rfl (Nat.le_of_ble_eq_true rfl) ⟨Nat.zero_le _, Nat.zero_le _⟩ dX1_hangAlong_65 ?_
      refine x_aload_n X dX1_hangAlong_68 rfl hl 0 rfl ?_
      refine x_getf X in_X1_hangAlong_X1 (cw_o6 _ _ _) rfl 1 (by decide) lk_X1_hangAlong_27 rfl rfl dX1_hangAlong_69 ?_
      refine x_getN X in_X1_hangAlong_X4 (cw_o2 _ _ _) rfl 4 (by decide) (by decide +kernel) rfl rfl dX1_hangAlong_72 ?_
      refine x_iload_n X dX1_hangAlong_75 rfl hl 1 rfl ?_
      obtain ⟨v18, s17, c19, hf⟩ := x_ob_of hf
      refine x_cVi X (7 + 9) 5 (cw_row (by decide : 9 < 22)) rfl rfl (c_X5_at l D cI cZ cJ a (k := 9) (by decide) F c19) (cwV 1 X.2.2.2.2.1 gX1_hangAlong_X5_at rfl rfl rfl (by decide +kernel) ⟨Nat.le_of_ble_eq_true rfl, Nat.le_of_ble_eq_true rfl⟩) rfl hl rfl (Nat.le_of_ble_eq_true rfl) ⟨Nat.zero_le _, Nat.zero_le _⟩ dX1_hangAlong_76 ?_
      obtain ⟨v21, s20, c22, hf⟩ := x_ob_of hf
      refine x_cVi X 1 3 (cw_o1 _ _ _) rfl rfl (c_X3_outputTowards l D cI cZ cJ a F c22) (cwV 3 X.2.2.2.2.1 gX1_hangAlong_X3_outputTowards rfl rfl rfl (by decide +kernel) ⟨Nat.le_of_ble_eq_true rfl, Nat.le_of_ble_eq_true rfl⟩) rfl hl rfl (Nat.le_of_ble_eq_true rfl) ⟨Nat.zero_le _, Nat.zero_le _⟩ dX1_hangAlong_79 ?_
      refine x_istoreA (lv' := [(6, .int v21), (0, .ref (a 6)), (1, .int x1), (2, .int x2), (3, .int x3), (4, .int x4), (5, .int x5)]) X dX1_hangAlong_82 hl (by decide) rfl (fun ls hl => ?_)
      refine x_aload_n X dX1_hangAlong_84 rfl hl 1 rfl ?_
      refine x_iload_n X dX1_hangAlong_85 rfl hl 3 rfl ?_
      refine x_iload X dX1_hangAlong_86 hl 0 rfl ?_
      refine x_iload_n X dX1_hangAlong_88 rfl hl 4 rfl ?_
      obtain ⟨v24, s23, c25, hf⟩ := x_ob_of hf
      refine x_cVi X 6 1 (cw_o6 _ _ _) rfl rfl (c_X1_nextBuffer l D cI cZ cJ a F c25) (cwV 3 X.2.2.2.2.1 gX1_hangAlong_X1_nextBuffer rfl rfl rfl (by decide +kernel) ⟨Nat.le_of_ble_eq_true rfl, Nat.le_of_ble_eq_true rfl⟩) rfl hl rfl (Nat.le_of_ble_eq_true rfl) ⟨Nat.zero_le _, Nat.zero_le _⟩ dX1_hangAlong_89 ?_
      refine x_istoreA (lv' := [(7, .int v24), (6, .int v21), (0, .ref (a 6)), (1, .int x1), (2, .int x2), (3, .int x3), (4, .int x4), (5, .int x5)]) X dX1_hangAlong_92 hl (by decide) rfl (fun ls hl => ?_)
      refine x_iload X dX1_hangAlong_94 hl 0 rfl ?_
      refine x_iconst X dX1_hangAlong_96 xk_iconst_m1 ?_
      refine x_icmp_ne (tgt := 101) X dX1_hangAlong_97 rfl (fun q26 => ?_) (fun q26 => ?_)
      · have hf := (if_neg q26).symm.trans hf
        refine x_aload_n X dX1_hangAlong_101 rfl hl 2 rfl ?_
        refine x_getf X in_X1_hangAlong_X1 (cw_o6 _ _ _) rfl 4 (by decide) lk_X1_hangAlong_20 rfl rfl dX1_hangAlong_102 ?_
        refine x_iload X dX1_hangAlong_105 hl 6 rfl ?_
        refine x_aload_n X dX1_hangAlong_107 rfl hl 2 rfl ?_
        refine x_getf X in_X1_hangAlong_X1 (cw_o6 _ _ _) rfl 4 (by decide) lk_X1_hangAlong_20 rfl rfl dX1_hangAlong_108 ?_
        refine x_iload X dX1_hangAlong_111 hl 6 rfl ?_
        obtain ⟨v28, s27, c29, hf⟩ := x_ob_of hf
        refine x_cVi X (7 + 21) 5 (cw_row (by decide : 21 < 22)) rfl rfl (c_X5_at l D cI cZ cJ a (k := 21) (by decide) F c29) (cwV 1 X.2.2.2.2.1 gX1_hangAlong_X5_at rfl rfl rfl (by decide +kernel) ⟨Nat.le_of_ble_eq_true rfl, Nat.le_of_ble_eq_true rfl⟩) rfl hl rfl (Nat.le_of_ble_eq_true rfl) ⟨Nat.zero_le _, Nat.zero_le _⟩ dX1_hangAlong_113 ?_
        refine x_iconst X dX1_hangAlong_116 xk_iconst_1 ?_
        refine x_iload X dX1_hangAlong_117 hl 1 rfl ?_
        refine x_ishl X dX1_hangAlong_119 ?_
        refine x_ior X dX1_hangAlong_120 ?_
        obtain ⟨v31, s30, c32, hf⟩ := x_ob_of hf
        refine x_cVv X (7 + 21) 5 (cw_row (by decide : 21 < 22)) rfl rfl (c_X5_put l D cI cZ cJ a (k := 21) (by decide) F c32) (cwV 2 X.2.2.2.2.1 gX1_hangAlong_X5_put rfl rfl rfl (by decide +kernel) ⟨Nat.le_of_ble_eq_true rfl, Nat.le_of_ble_eq_true rfl⟩) rfl hl rfl (Nat.le_of_ble_eq_true rfl) ⟨Nat.zero_le _, Nat.zero_le _⟩ dX1_hangAlong_121 ?_
        refine x_aload_n X dX1_hangAlong_124 rfl hl 2 rfl ?_
        refine x_getf X in_X1_hangAlong_X1 (cw_o6 _ _ _) rfl 0 (by decide) lk_X1_hangAlong_23 rfl rfl dX1_hangAlong_125 ?_
        refine x_iload_n X dX1_hangAlong_128 rfl hl 4 rfl ?_
        refine x_iload X dX1_hangAlong_129 hl 1 rfl ?_
        obtain ⟨v34, s33, c35, hf⟩ := x_ob_of hf
        refine x_cVi X 1 3 (cw_o1 _ _ _) rfl rfl (c_X3_behind l D cI cZ cJ a F c35) (cwV 2 X.2.2.2.2.1 gX1_hangAlong_X3_behind rfl rfl rfl (by decide +kernel) ⟨Nat.le_of_ble_eq_true rfl, Nat.le_of_ble_eq_true rfl⟩) rfl hl rfl (Nat.le_of_ble_eq_true rfl) ⟨Nat.zero_le _, Nat.zero_le _⟩ dX1_hangAlong_131 ?_
        refine x_istoreA_n (lv' := [(2, .int v34), (7, .int v24), (6, .int v21), (0, .ref (a 6)), (1, .int x1), (3, .int x3), (4, .int x4), (5, .int x5)]) X dX1_hangAlong_134 rfl hl (by decide) rfl (fun ls hl => ?_)
        refine x_iload X dX1_hangAlong_135 hl 1 rfl ?_
        refine x_istoreA (lv' := [(4, .int v24), (2, .int v34), (7, .int v24), (6, .int v21), (0, .ref (a 6)), (1, .int x1), (3, .int x3), (5, .int x5)]) X dX1_hangAlong_137 hl (by decide) rfl (fun ls hl => ?_)
        refine x_iinc (v := (x5 + (1 : Int32))) (lv' := [(5, .int (x5 + (1 : Int32))), (4, .int v24), (2, .int v34), (7, .int v24), (6, .int v21), (0, .ref (a 6)), (1, .int x1), (3, .int x3)]) X dX1_hangAlong_139 hl (j := 7) rfl rfl (by decide) rfl (fun ls hl => ?_)
        refine x_goto (tgt := 45) X dX1_hangAlong_142 rfl ?_
        exact ih x1 v34 x3 v24 (x5 + (1 : Int32)) s33 ls hf (lv_sub hl [5, 6, 2, 7, 1, 0] rfl)
      · have hf := (if_pos q26).symm.trans hf
        exact x_vret X rfl hf dX1_hangAlong_100
set_option maxHeartbeats 4000000 in
set_option maxRecDepth 100000 in
theorem c_X1_hangAlong (l : Launch) (D : va_G) (cI cZ cJ : ClassId) (a : Nat → Nat) (F : Nat) {s s' : CS} {r : Int32} {x1 : Int32} (hf : r_X1_hangAlong F x1 s = some (r, s')) : x_Mv l yX1_hangAlong wsX1_hangAlong rm_X1_hangAlong D (x_tys cI cZ cJ) (cwld cI a) [.ref (a 6), .int x1] s s' := by
  refine x_enterv (cc := cX1_hangAlong) (nL := 8) (own := RX1) (by decide) rfl rfl (Nat.le_of_ble_eq_true rfl) ?_
  intro p e S0 m args below meth c A X ls hl
  have hl : lv_has ls 8 [(0, .ref (a 6)), (1, .int x1)] := hl
  unfold r_X1_hangAlong at hf
  refine x_aload_n X dX1_hangAlong_0 rfl hl 0 rfl ?_
  refine x_getf X in_X1_hangAlong_X1 (cw_o6 _ _ _) rfl 1 (by decide) lk_X1_hangAlong_27 rfl rfl dX1_hangAlong_1 ?_
  refine x_getN X in_X1_hangAlong_X4 (cw_o2 _ _ _) rfl 5 (by decide) (by decide +kernel) rfl rfl dX1_hangAlong_4 ?_
  refine x_iload_n X dX1_hangAlong_7 rfl hl 1 rfl ?_
  obtain ⟨v2, s1, c3, hf⟩ := x_ob_of hf
  refine x_cVi X (7 + 10) 5 (cw_row (by decide : 10 < 22)) rfl rfl (c_X5_at l D cI cZ cJ a (k := 10) (by decide) F c3) (cwV 1 X.2.2.2.2.1 gX1_hangAlong_X5_at rfl rfl rfl (by decide +kernel) ⟨Nat.le_of_ble_eq_true rfl, Nat.le_of_ble_eq_true rfl⟩) rfl hl rfl (Nat.le_of_ble_eq_true rfl) ⟨Nat.zero_le _, Nat.zero_le _⟩ dX1_hangAlong_8 ?_
  refine x_istoreA_n (lv' := [(2, .int v2), (0, .ref (a 6)), (1, .int x1)]) X dX1_hangAlong_11 rfl hl (by decide) rfl (fun ls hl => ?_)
  refine x_aload_n X dX1_hangAlong_12 rfl hl 1 rfl ?_
  refine x_getf X in_X1_hangAlong_X1 (cw_o6 _ _ _) rfl 1 (by decide) lk_X1_hangAlong_27 rfl rfl dX1_hangAlong_13 ?_
  refine x_getN X in_X1_hangAlong_X4 (cw_o2 _ _ _) rfl 3 (by decide) (by decide +kernel) rfl rfl dX1_hangAlong_16 ?_
  refine x_iload_n X dX1_hangAlong_19 rfl hl 2 rfl ?_
  obtain ⟨v5, s4, c6, hf⟩ := x_ob_of hf
  refine x_cVi X (7 + 8) 5 (cw_row (by decide : 8 < 22)) rfl rfl (c_X5_at l D cI cZ cJ a (k := 8) (by decide) F c6) (cwV 1 X.2.2.2.2.1 gX1_hangAlong_X5_at rfl rfl rfl (by decide +kernel) ⟨Nat.le_of_ble_eq_true rfl, Nat.le_of_ble_eq_true rfl⟩) rfl hl rfl (Nat.le_of_ble_eq_true rfl) ⟨Nat.zero_le _, Nat.zero_le _⟩ dX1_hangAlong_20 ?_
  refine x_istoreA_n (lv' := [(3, .int v5), (2, .int v2), (0, .ref (a 6)), (1, .int x1)]) X dX1_hangAlong_23 rfl hl (by decide) rfl (fun ls hl => ?_)
  refine x_iload_n X dX1_hangAlong_24 rfl hl 1 rfl ?_
  refine x_aload_n X dX1_hangAlong_25 rfl hl 2 rfl ?_
  refine x_getf X in_X1_hangAlong_X1 (cw_o6 _ _ _) rfl 1 (by decide) lk_X1_hangAlong_27 rfl rfl dX1_hangAlong_26 ?_
  refine x_getN X in_X1_hangAlong_X4 (cw_o2 _ _ _) rfl 6 (by decide) (by decide +kernel) rfl rfl dX1_hangAlong_29 ?_
  refine x_iload_n X dX1_hangAlong_32 rfl hl 3 rfl ?_
  obtain ⟨v8, s7, c9, hf⟩ := x_ob_of hf
  refine x_cVi X (7 + 11) 5 (cw_row (by decide : 11 < 22)) rfl rfl (c_X5_at l D cI cZ cJ a (k := 11) (by decide) F c9) (cwV 1 X.2.2.2.2.1 gX1_hangAlong_X5_at rfl rfl rfl (by decide +kernel) ⟨Nat.le_of_ble_eq_true rfl, Nat.le_of_ble_eq_true rfl⟩) rfl hl rfl (Nat.le_of_ble_eq_true rfl) ⟨Nat.zero_le _, Nat.zero_le _⟩ dX1_hangAlong_33 ?_
  refine x_iload_n X dX1_hangAlong_36 rfl hl 0 rfl ?_
  obtain ⟨v11, s10, c12, hf⟩ := x_ob_of hf
  refine x_cSNi X (c_X7_bufferOf l D cI cZ cJ a F c12) ⟨va_cnB 3 X.2.2.2.2.1 gX1_hangAlong_X7_bufferOf_n96 rfl rfl rfl (X.2.2.2.2.2.1.2 _ (by decide +kernel)) (X.2.2.2.2.1 _ (by decide +kernel)) (by decide +kernel) ⟨Nat.le_of_ble_eq_true rfl, Nat.le_of_ble_eq_true rfl⟩, X.2.2.2.2.1 _ (by decide +kernel), trivial⟩ rfl hl rfl (Nat.le_of_ble_eq_true rfl) ⟨Nat.zero_le _, Nat.zero_le _⟩ dX1_hangAlong_37 ?_
  refine x_istoreA (lv' := [(4, .int v11), (3, .int v5), (2, .int v2), (0, .ref (a 6)), (1, .int x1)]) X dX1_hangAlong_40 hl (by decide) rfl (fun ls hl => ?_)
  refine x_iconst X dX1_hangAlong_42 xk_iconst_0 ?_
  refine x_istoreA (lv' := [(5, .int (0 : Int32)), (4, .int v11), (3, .int v5), (2, .int v2), (0, .ref (a 6)), (1, .int x1)]) X dX1_hangAlong_43 hl (by decide) rfl (fun ls hl => ?_)
  exact b_X1_hangAlong_45 X F F x1 v2 v5 v11 (0 : Int32) s10 ls hf (lv_sub hl [4, 5, 3, 2, 1, 0] rfl)
def rm_X1_isEnd : Room := { frames := 3, cells := 0, slots := 0, locals := 67 }
theorem in_X1_isEnd_X1 : ∀ w ∈ wsX10, w ∈ wsX1_isEnd := by decide +kernel
theorem lk_X1_isEnd_20 : Cond.fieldLink RX1 20 "Creditfabric$Circles" "hangings" "LCreditfabric$Row;" ∈ wsX1_isEnd := by decide +kernel
set_option maxHeartbeats 4000000 in
set_option maxRecDepth 100000 in
theorem b_X1_isEnd_48 {p : Program} {l : Launch} {e : Env} {S0 : State} {m : MethodId} {args : Array Value} {below : List Frame} {meth : Method} {c : Code} {A : Nat → Prop} {D : va_G} {cI cZ cJ : ClassId} {a : Nat → Nat} (X : x_X p S0 m args meth c cX1_isEnd 6 (some .boolean) RX1 wsX1_isEnd D (x_tys cI cZ cJ) A) (F : Nat) {r : Int32} {s' : CS} (K3 : Int32 → Int32 → Int32 → Int32 → CS → Option (Int32 × CS)) (hK3 : ∀ (x1 x2 x3 x4 : Int32) (s : CS) (ls : Array Slot), K3 x1 x2 x3 x4 s = some (r, s') → lv_has ls 6 [(0, .ref (a 6)), (1, .int x1), (2, .int x2), (3, .int x3), (4, .int x4)] → x_W p l e rm_X1_isEnd S0 m args below meth c A D (cwld cI a) 0 0 (x_Ri below args S0 A D (cwld cI a) r s') s (F0 m 3 ls [])) : ∀ (x1 x2 x3 x4 : Int32) (s : CS) (ls : Array Slot), r_X1_isEnd_b48 K3 F x1 x2 x3 x4 s = some (r, s') → lv_has ls 6 [(0, .ref (a 6)), (1, .int x1), (2, .int x2), (3, .int x3), (4, .int x4)] → x_W p l e rm_X1_isEnd S0 m args below meth c A D (cwld cI a) 0 0 (x_Ri below args S0 A D (cwld cI a) r s') s (F0 m 48 ls []) := by
  intro x1 x2 x3 x4 s ls hf hl
  unfold r_X1_isEnd_b48 at hf
  refine x_iinc (v := (x4 + (1 : Int32))) (lv' := [(4, .int (x4 + (1 : Int32))), (0, .ref (a 6)), (1, .int x1), (2, .int x2), (3, .int x3)]) X dX1_isEnd_48 hl (j := 4) rfl rfl (by decide) rfl (fun ls hl => ?_)
  refine x_goto (tgt := 3) X dX1_isEnd_51 rfl ?_
  exact hK3 x1 x2 x3 (x4 + (1 : Int32)) s ls hf (lv_sub hl [1, 2, 3, 4, 0] rfl)
set_option maxHeartbeats 4000000 in
set_option maxRecDepth 100000 in
theorem b_X1_isEnd_3 {p : Program} {l : Launch} {e : Env} {S0 : State} {m : MethodId} {args : Array Value} {below : List Frame} {meth : Method} {c : Code} {A : Nat → Prop} {D : va_G} {cI cZ cJ : ClassId} {a : Nat → Nat} (X : x_X p S0 m args meth c cX1_isEnd 6 (some .boolean) RX1 wsX1_isEnd D (x_tys cI cZ cJ) A) (F : Nat) {r : Int32} {s' : CS}  : ∀ (n : Nat) (x1 x2 x3 x4 : Int32) (s : CS) (ls : Array Slot), r_X1_isEnd_b3 F n x1 x2 x3 x4 s = some (r, s') → lv_has ls 6 [(0, .ref (a 6)), (1, .int x1), (2, .int x2), (3, .int x3), (4, .int x4)] → x_W p l e rm_X1_isEnd S0 m args below meth c A D (cwld cI a) 0 0 (x_Ri below args S0 A D (cwld cI a) r s') s (F0 m 3 ls []) := by
  intro n
  induction n with
  | zero =>
    intro x1 x2 x3 x4 s ls hf hl
    have hf : (none : Option (Int32 × CS)) = some (r, s') := hf
    cases hf
  | succ n ih =>
    intro x1 x2 x3 x4 s ls hf hl
    rw [r_X1_isEnd_b3_s] at hf
    refine x_iload X dX1_isEnd_3 hl 4 rfl ?_
    refine x_iconst X dX1_isEnd_5 xk_iconst_4 ?_
    refine x_icmp_ge (tgt := 54) X dX1_isEnd_6 rfl (fun q1 => ?_) (fun q1 => ?_)
    · have hf := (if_pos q1).symm.trans hf
      refine x_iconst X dX1_isEnd_54 xk_iconst_1 ?_
      exact x_iret X rfl rfl hf dX1_isEnd_55
    · have hf := (if_neg q1).symm.trans hf
      refine x_iload_n X dX1_isEnd_9 rfl hl 3 rfl ?_
      refine x_iload X dX1_isEnd_10 hl 4 rfl ?_
      refine x_ishr X dX1_isEnd_12 ?_
      refine x_iconst X dX1_isEnd_13 xk_iconst_1 ?_
      refine x_iand X dX1_isEnd_14 ?_
      refine x_if_eq (tgt := 48) X dX1_isEnd_15 rfl (fun q2 => ?_) (fun q2 => ?_)
      · have hf := (if_pos q2).symm.trans hf
        exact b_X1_isEnd_48 X F _ ih x1 x2 x3 x4 s ls hf (lv_sub hl [0, 1, 2, 3, 4] rfl)
      · have hf := (if_neg q2).symm.trans hf
        refine x_aload_n X dX1_isEnd_18 rfl hl 0 rfl ?_
        refine x_iload_n X dX1_isEnd_19 rfl hl 1 rfl ?_
        refine x_iload X dX1_isEnd_20 hl 4 rfl ?_
        refine x_iload_n X dX1_isEnd_22 rfl hl 2 rfl ?_
        obtain ⟨v4, s3, c5, hf⟩ := x_ob_of hf
        refine x_cVi X 6 1 (cw_o6 _ _ _) rfl rfl (c_X1_nextBuffer l D cI cZ cJ a F c5) (cwV 3 X.2.2.2.2.1 gX1_isEnd_X1_nextBuffer rfl rfl rfl (by decide +kernel) ⟨Nat.le_of_ble_eq_true rfl, Nat.le_of_ble_eq_true rfl⟩) rfl hl rfl (Nat.le_of_ble_eq_true rfl) ⟨Nat.zero_le _, Nat.zero_le _⟩ dX1_isEnd_23 ?_
        refine x_istoreA (lv' := [(5, .int v4), (0, .ref (a 6)), (1, .int x1), (2, .int x2), (3, .int x3), (4, .int x4)]) X dX1_isEnd_26 hl (by decide) rfl (fun ls hl => ?_)
        refine x_iload X dX1_isEnd_28 hl 0 rfl ?_
        refine x_iconst X dX1_isEnd_30 xk_iconst_m1 ?_
        refine x_icmp_eq (tgt := 48) X dX1_isEnd_31 rfl (fun q6 => ?_) (fun q6 => ?_)
        · have hf := (if_pos q6).symm.trans hf
          exact b_X1_isEnd_48 X F _ ih x1 x2 x3 x4 s3 ls hf (lv_sub hl [1, 2, 3, 4, 5] rfl)
        · have hf := (if_neg q6).symm.trans hf
          refine x_aload_n X dX1_isEnd_34 rfl hl 1 rfl ?_
          refine x_getf X in_X1_isEnd_X1 (cw_o6 _ _ _) rfl 4 (by decide) lk_X1_isEnd_20 rfl rfl dX1_isEnd_35 ?_
          refine x_iload X dX1_isEnd_38 hl 0 rfl ?_
          obtain ⟨v8, s7, c9, hf⟩ := x_ob_of hf
          refine x_cVi X (7 + 21) 5 (cw_row (by decide : 21 < 22)) rfl rfl (c_X5_at l D cI cZ cJ a (k := 21) (by decide) F c9) (cwV 1 X.2.2.2.2.1 gX1_isEnd_X5_at rfl rfl rfl (by decide +kernel) ⟨Nat.le_of_ble_eq_true rfl, Nat.le_of_ble_eq_true rfl⟩) rfl hl rfl (Nat.le_of_ble_eq_true rfl) ⟨Nat.zero_le _, Nat.zero_le _⟩ dX1_isEnd_40 ?_
          refine x_if_eq (tgt := 48) X dX1_isEnd_43 rfl (fun q10 => ?_) (fun q10 => ?_)
          · have hf := (if_pos q10).symm.trans hf
            exact b_X1_isEnd_48 X F _ ih x1 x2 x3 x4 s7 ls hf (lv_sub hl [1, 2, 3, 4, 5] rfl)
          · have hf := (if_neg q10).symm.trans hf
            refine x_iconst X dX1_isEnd_46 xk_iconst_0 ?_
            exact x_iret X rfl rfl hf dX1_isEnd_47
set_option maxHeartbeats 4000000 in
set_option maxRecDepth 100000 in
theorem c_X1_isEnd (l : Launch) (D : va_G) (cI cZ cJ : ClassId) (a : Nat → Nat) (F : Nat) {s s' : CS} {r : Int32} {x1 x2 x3 : Int32} (hf : r_X1_isEnd F x1 x2 x3 s = some (r, s')) : x_Mi l yX1_isEnd wsX1_isEnd rm_X1_isEnd D (x_tys cI cZ cJ) (cwld cI a) [.ref (a 6), .int x1, .int x2, .int x3] s r s' := by
  refine x_enteri (cc := cX1_isEnd) (nL := 6) (ty := .boolean) (own := RX1) (by decide) rfl rfl (Nat.le_of_ble_eq_true rfl) ?_
  intro p e S0 m args below meth c A X ls hl
  have hl : lv_has ls 6 [(0, .ref (a 6)), (1, .int x1), (2, .int x2), (3, .int x3)] := hl
  unfold r_X1_isEnd at hf
  refine x_iconst X dX1_isEnd_0 xk_iconst_0 ?_
  refine x_istoreA (lv' := [(4, .int (0 : Int32)), (0, .ref (a 6)), (1, .int x1), (2, .int x2), (3, .int x3)]) X dX1_isEnd_1 hl (by decide) rfl (fun ls hl => ?_)
  exact b_X1_isEnd_3 X F F x1 x2 x3 (0 : Int32) s ls hf (lv_sub hl [1, 2, 3, 4, 0] rfl)
def rm_X1_cutEnds : Room := { frames := 4, cells := 0, slots := 0, locals := 92 }
theorem in_X1_cutEnds_X1 : ∀ w ∈ wsX10, w ∈ wsX1_cutEnds := by decide +kernel
theorem lk_X1_cutEnds_20 : Cond.fieldLink RX1 20 "Creditfabric$Circles" "hangings" "LCreditfabric$Row;" ∈ wsX1_cutEnds := by decide +kernel
theorem lk_X1_cutEnds_23 : Cond.fieldLink RX1 23 "Creditfabric$Circles" "grid" "LCreditfabric$Grid;" ∈ wsX1_cutEnds := by decide +kernel
set_option maxHeartbeats 4000000 in
set_option maxRecDepth 100000 in
theorem b_X1_cutEnds_75 {p : Program} {l : Launch} {e : Env} {S0 : State} {m : MethodId} {args : Array Value} {below : List Frame} {meth : Method} {c : Code} {A : Nat → Prop} {D : va_G} {cI cZ cJ : ClassId} {a : Nat → Nat} (X : x_X p S0 m args meth c cX1_cutEnds 5 (some .boolean) RX1 wsX1_cutEnds D (x_tys cI cZ cJ) A) (F : Nat) {r : Int32} {s' : CS} (K17 : Int32 → Int32 → Int32 → CS → Option (Int32 × CS)) (hK17 : ∀ (x1 x2 x3 : Int32) (s : CS) (ls : Array Slot), K17 x1 x2 x3 s = some (r, s') → lv_has ls 5 [(0, .ref (a 6)), (1, .int x1), (2, .int x2), (3, .int x3)] → x_W p l e rm_X1_cutEnds S0 m args below meth c A D (cwld cI a) 0 0 (x_Ri below args S0 A D (cwld cI a) r s') s (F0 m 17 ls [])) : ∀ (x1 x2 x3 : Int32) (s : CS) (ls : Array Slot), r_X1_cutEnds_b75 K17 F x1 x2 x3 s = some (r, s') → lv_has ls 5 [(0, .ref (a 6)), (1, .int x1), (2, .int x2), (3, .int x3)] → x_W p l e rm_X1_cutEnds S0 m args below meth c A D (cwld cI a) 0 0 (x_Ri below args S0 A D (cwld cI a) r s') s (F0 m 75 ls []) := by
  intro x1 x2 x3 s ls hf hl
  unfold r_X1_cutEnds_b75 at hf
  refine x_iinc (v := (x3 + (1 : Int32))) (lv' := [(3, .int (x3 + (1 : Int32))), (0, .ref (a 6)), (1, .int x1), (2, .int x2)]) X dX1_cutEnds_75 hl (j := 3) rfl rfl (by decide) rfl (fun ls hl => ?_)
  refine x_goto (tgt := 17) X dX1_cutEnds_78 rfl ?_
  exact hK17 x1 x2 (x3 + (1 : Int32)) s ls hf (lv_sub hl [1, 2, 3, 0] rfl)
set_option maxHeartbeats 4000000 in
set_option maxRecDepth 100000 in
theorem b_X1_cutEnds_17 {p : Program} {l : Launch} {e : Env} {S0 : State} {m : MethodId} {args : Array Value} {below : List Frame} {meth : Method} {c : Code} {A : Nat → Prop} {D : va_G} {cI cZ cJ : ClassId} {a : Nat → Nat} (X : x_X p S0 m args meth c cX1_cutEnds 5 (some .boolean) RX1 wsX1_cutEnds D (x_tys cI cZ cJ) A) (F : Nat) {r : Int32} {s' : CS} (K4 : Int32 → Int32 → CS → Option (Int32 × CS)) (hK4 : ∀ (x1 x2 : Int32) (s : CS) (ls : Array Slot), K4 x1 x2 s = some (r, s') → lv_has ls 5 [(0, .ref (a 6)), (1, .int x1), (2, .int x2)] → x_W p l e rm_X1_cutEnds S0 m args below meth c A D (cwld cI a) 0 0 (x_Ri below args S0 A D (cwld cI a) r s') s (F0 m 4 ls [])) : ∀ (n : Nat) (x1 x2 x3 : Int32) (s : CS) (ls : Array Slot), r_X1_cutEnds_b17 K4 F n x1 x2 x3 s = some (r, s') → lv_has ls 5 [(0, .ref (a 6)), (1, .int x1), (2, .int x2), (3, .int x3)] → x_W p l e rm_X1_cutEnds S0 m args below meth c A D (cwld cI a) 0 0 (x_Ri below args S0 A D (cwld cI a) r s') s (F0 m 17 ls []) := by
  intro n
  induction n with
  | zero =>
    intro x1 x2 x3 s ls hf hl
    have hf : (none : Option (Int32 × CS)) = some (r, s') := hf
    cases hf
  | succ n ih =>
    intro x1 x2 x3 s ls hf hl
    rw [r_X1_cutEnds_b17_s] at hf
    refine x_iload_n X dX1_cutEnds_17 rfl hl 3 rfl ?_
    refine x_bipush X dX1_cutEnds_18 xk_bipush_10 ?_
    refine x_icmp_ge (tgt := 81) X dX1_cutEnds_20 rfl (fun q6 => ?_) (fun q6 => ?_)
    · have hf := (if_pos q6).symm.trans hf
      refine x_iinc (v := (x2 + (1 : Int32))) (lv' := [(2, .int (x2 + (1 : Int32))), (0, .ref (a 6)), (1, .int x1), (3, .int x3)]) X dX1_cutEnds_81 hl (j := 2) rfl rfl (by decide) rfl (fun ls hl => ?_)
      refine x_goto (tgt := 4) X dX1_cutEnds_84 rfl ?_
      exact hK4 x1 (x2 + (1 : Int32)) s ls hf (lv_sub hl [1, 2, 0] rfl)
    · have hf := (if_neg q6).symm.trans hf
      refine x_iload_n X dX1_cutEnds_23 rfl hl 2 rfl ?_
      refine x_bipush X dX1_cutEnds_24 xk_bipush_10 ?_
      refine x_imul X dX1_cutEnds_26 ?_
      refine x_iload_n X dX1_cutEnds_27 rfl hl 3 rfl ?_
      refine x_iadd X dX1_cutEnds_28 ?_
      refine x_istore (lv' := [(0, .ref (a 6)), (1, .int x1), (2, .int x2), (3, .int x3)]) X dX1_cutEnds_29 hl (by decide) (fun _ => rfl) (fun x4_7 ls ex4_7 hl => ?_)
      have hf := x_oi_of ex4_7 hf
      refine x_aload_n X dX1_cutEnds_31 rfl hl 1 rfl ?_
      refine x_getf X in_X1_cutEnds_X1 (cw_o6 _ _ _) rfl 4 (by decide) lk_X1_cutEnds_20 rfl rfl dX1_cutEnds_32 ?_
      refine x_iload X dX1_cutEnds_35 hl 0 rfl ?_
      obtain ⟨v9, s8, c10, hf⟩ := x_ob_of hf
      refine x_cVi X (7 + 21) 5 (cw_row (by decide : 21 < 22)) rfl rfl (c_X5_at l D cI cZ cJ a (k := 21) (by decide) F c10) (cwV 1 X.2.2.2.2.1 gX1_cutEnds_X5_at rfl rfl rfl (by decide +kernel) ⟨Nat.le_of_ble_eq_true rfl, Nat.le_of_ble_eq_true rfl⟩) rfl hl rfl (Nat.le_of_ble_eq_true rfl) ⟨Nat.zero_le _, Nat.zero_le _⟩ dX1_cutEnds_37 ?_
      refine x_if_eq (tgt := 75) X dX1_cutEnds_40 rfl (fun q11 => ?_) (fun q11 => ?_)
      · have hf := (if_pos q11).symm.trans hf
        exact b_X1_cutEnds_75 X F _ ih x1 x2 x3 s8 ls hf (lv_sub hl [1, 2, 3, 4] rfl)
      · have hf := (if_neg q11).symm.trans hf
        refine x_aload_n X dX1_cutEnds_43 rfl hl 1 rfl ?_
        refine x_iload_n X dX1_cutEnds_44 rfl hl 3 rfl ?_
        refine x_iload_n X dX1_cutEnds_45 rfl hl 4 rfl ?_
        refine x_iconst X dX1_cutEnds_46 xk_iconst_1 ?_
        refine x_iand X dX1_cutEnds_47 ?_
        refine x_aload_n X dX1_cutEnds_48 rfl hl 1 rfl ?_
        refine x_getf X in_X1_cutEnds_X1 (cw_o6 _ _ _) rfl 4 (by decide) lk_X1_cutEnds_20 rfl rfl dX1_cutEnds_49 ?_
        refine x_iload X dX1_cutEnds_52 hl 0 rfl ?_
        obtain ⟨v13, s12, c14, hf⟩ := x_ob_of hf
        refine x_cVi X (7 + 21) 5 (cw_row (by decide : 21 < 22)) rfl rfl (c_X5_at l D cI cZ cJ a (k := 21) (by decide) F c14) (cwV 1 X.2.2.2.2.1 gX1_cutEnds_X5_at rfl rfl rfl (by decide +kernel) ⟨Nat.le_of_ble_eq_true rfl, Nat.le_of_ble_eq_true rfl⟩) rfl hl rfl (Nat.le_of_ble_eq_true rfl) ⟨Nat.zero_le _, Nat.zero_le _⟩ dX1_cutEnds_54 ?_
        obtain ⟨v16, s15, c17, hf⟩ := x_ob_of hf
        refine x_cVi X 6 1 (cw_o6 _ _ _) rfl rfl (c_X1_isEnd l D cI cZ cJ a F c17) (cwV 3 X.2.2.2.2.1 gX1_cutEnds_X1_isEnd rfl rfl rfl (by decide +kernel) ⟨Nat.le_of_ble_eq_true rfl, Nat.le_of_ble_eq_true rfl⟩) rfl hl rfl (Nat.le_of_ble_eq_true rfl) ⟨Nat.zero_le _, Nat.zero_le _⟩ dX1_cutEnds_57 ?_
        refine x_if_eq (tgt := 75) X dX1_cutEnds_60 rfl (fun q18 => ?_) (fun q18 => ?_)
        · have hf := (if_pos q18).symm.trans hf
          exact b_X1_cutEnds_75 X F _ ih x1 x2 x3 s15 ls hf (lv_sub hl [1, 2, 3, 4] rfl)
        · have hf := (if_neg q18).symm.trans hf
          refine x_aload_n X dX1_cutEnds_63 rfl hl 1 rfl ?_
          refine x_getf X in_X1_cutEnds_X1 (cw_o6 _ _ _) rfl 4 (by decide) lk_X1_cutEnds_20 rfl rfl dX1_cutEnds_64 ?_
          refine x_iload X dX1_cutEnds_67 hl 0 rfl ?_
          refine x_iconst X dX1_cutEnds_69 xk_iconst_0 ?_
          obtain ⟨v20, s19, c21, hf⟩ := x_ob_of hf
          refine x_cVv X (7 + 21) 5 (cw_row (by decide : 21 < 22)) rfl rfl (c_X5_put l D cI cZ cJ a (k := 21) (by decide) F c21) (cwV 2 X.2.2.2.2.1 gX1_cutEnds_X5_put rfl rfl rfl (by decide +kernel) ⟨Nat.le_of_ble_eq_true rfl, Nat.le_of_ble_eq_true rfl⟩) rfl hl rfl (Nat.le_of_ble_eq_true rfl) ⟨Nat.zero_le _, Nat.zero_le _⟩ dX1_cutEnds_70 ?_
          refine x_iconst X dX1_cutEnds_73 xk_iconst_1 ?_
          refine x_istoreA_n (lv' := [(1, .int (1 : Int32)), (4, .int x4_7), (0, .ref (a 6)), (2, .int x2), (3, .int x3)]) X dX1_cutEnds_74 rfl hl (by decide) rfl (fun ls hl => ?_)
          exact b_X1_cutEnds_75 X F _ ih (1 : Int32) x2 x3 s19 ls hf (lv_sub hl [2, 0, 3, 4] rfl)
set_option maxHeartbeats 4000000 in
set_option maxRecDepth 100000 in
theorem b_X1_cutEnds_4 {p : Program} {l : Launch} {e : Env} {S0 : State} {m : MethodId} {args : Array Value} {below : List Frame} {meth : Method} {c : Code} {A : Nat → Prop} {D : va_G} {cI cZ cJ : ClassId} {a : Nat → Nat} (X : x_X p S0 m args meth c cX1_cutEnds 5 (some .boolean) RX1 wsX1_cutEnds D (x_tys cI cZ cJ) A) (F : Nat) {r : Int32} {s' : CS}  : ∀ (n : Nat) (x1 x2 : Int32) (s : CS) (ls : Array Slot), r_X1_cutEnds_b4 F n x1 x2 s = some (r, s') → lv_has ls 5 [(0, .ref (a 6)), (1, .int x1), (2, .int x2)] → x_W p l e rm_X1_cutEnds S0 m args below meth c A D (cwld cI a) 0 0 (x_Ri below args S0 A D (cwld cI a) r s') s (F0 m 4 ls []) := by
  intro n
  induction n with
  | zero =>
    intro x1 x2 s ls hf hl
    have hf : (none : Option (Int32 × CS)) = some (r, s') := hf
    cases hf
  | succ n ih =>
    intro x1 x2 s ls hf hl
    rw [r_X1_cutEnds_b4_s] at hf
    refine x_iload_n X dX1_cutEnds_4 rfl hl 2 rfl ?_
    refine x_aload_n X dX1_cutEnds_5 rfl hl 0 rfl ?_
    refine x_getf X in_X1_cutEnds_X1 (cw_o6 _ _ _) rfl 0 (by decide) lk_X1_cutEnds_23 rfl rfl dX1_cutEnds_6 ?_
    obtain ⟨v2, s1, c3, hf⟩ := x_ob_of hf
    refine x_cVi X 1 3 (cw_o1 _ _ _) rfl rfl (c_X3_size l D cI cZ cJ a F c3) (cwV 0 X.2.2.2.2.1 gX1_cutEnds_X3_size rfl rfl rfl (by decide +kernel) ⟨Nat.le_of_ble_eq_true rfl, Nat.le_of_ble_eq_true rfl⟩) rfl hl rfl (Nat.le_of_ble_eq_true rfl) ⟨Nat.zero_le _, Nat.zero_le _⟩ dX1_cutEnds_9 ?_
    refine x_icmp_ge (tgt := 87) X dX1_cutEnds_12 rfl (fun q4 => ?_) (fun q4 => ?_)
    · have hf := (if_pos q4).symm.trans hf
      refine x_iload_n X dX1_cutEnds_87 rfl hl 1 rfl ?_
      obtain ⟨g5, hf⟩ := x_og_of hf
      exact x_iret X rfl (x_bo_of g5) hf dX1_cutEnds_88
    · have hf := (if_neg q4).symm.trans hf
      refine x_iconst X dX1_cutEnds_15 xk_iconst_0 ?_
      refine x_istoreA_n (lv' := [(3, .int (0 : Int32)), (0, .ref (a 6)), (1, .int x1), (2, .int x2)]) X dX1_cutEnds_16 rfl hl (by decide) rfl (fun ls hl => ?_)
      exact b_X1_cutEnds_17 X F _ ih F x1 x2 (0 : Int32) s1 ls hf (lv_sub hl [1, 2, 3, 0] rfl)
set_option maxHeartbeats 4000000 in
set_option maxRecDepth 100000 in
theorem c_X1_cutEnds (l : Launch) (D : va_G) (cI cZ cJ : ClassId) (a : Nat → Nat) (F : Nat) {s s' : CS} {r : Int32} (hf : r_X1_cutEnds F s = some (r, s')) : x_Mi l yX1_cutEnds wsX1_cutEnds rm_X1_cutEnds D (x_tys cI cZ cJ) (cwld cI a) [.ref (a 6)] s r s' := by
  refine x_enteri (cc := cX1_cutEnds) (nL := 5) (ty := .boolean) (own := RX1) (by decide) rfl rfl (Nat.le_of_ble_eq_true rfl) ?_
  intro p e S0 m args below meth c A X ls hl
  have hl : lv_has ls 5 [(0, .ref (a 6))] := hl
  unfold r_X1_cutEnds at hf
  refine x_iconst X dX1_cutEnds_0 xk_iconst_0 ?_
  refine x_istoreA_n (lv' := [(1, .int (0 : Int32)), (0, .ref (a 6))]) X dX1_cutEnds_1 rfl hl (by decide) rfl (fun ls hl => ?_)
  refine x_iconst X dX1_cutEnds_2 xk_iconst_0 ?_
  refine x_istoreA_n (lv' := [(2, .int (0 : Int32)), (1, .int (0 : Int32)), (0, .ref (a 6))]) X dX1_cutEnds_3 rfl hl (by decide) rfl (fun ls hl => ?_)
  exact b_X1_cutEnds_4 X F F (0 : Int32) (0 : Int32) s ls hf (lv_sub hl [2, 1, 0] rfl)
def rm_X1_hangsTogether : Room := { frames := 5, cells := 0, slots := 0, locals := 116 }
theorem in_X1_hangsTogether_X1 : ∀ w ∈ wsX10, w ∈ wsX1_hangsTogether := by decide +kernel
theorem in_X1_hangsTogether_X4 : ∀ w ∈ wsX40, w ∈ wsX1_hangsTogether := by decide +kernel
theorem lk_X1_hangsTogether_20 : Cond.fieldLink RX1 20 "Creditfabric$Circles" "hangings" "LCreditfabric$Row;" ∈ wsX1_hangsTogether := by decide +kernel
theorem lk_X1_hangsTogether_27 : Cond.fieldLink RX1 27 "Creditfabric$Circles" "traffic" "LCreditfabric$Packets;" ∈ wsX1_hangsTogether := by decide +kernel
set_option maxHeartbeats 4000000 in
set_option maxRecDepth 100000 in
theorem b_X1_hangsTogether_75 {p : Program} {l : Launch} {e : Env} {S0 : State} {m : MethodId} {args : Array Value} {below : List Frame} {meth : Method} {c : Code} {A : Nat → Prop} {D : va_G} {cI cZ cJ : ClassId} {a : Nat → Nat} (X : x_X p S0 m args meth c cX1_hangsTogether 3 (some .boolean) RX1 wsX1_hangsTogether D (x_tys cI cZ cJ) A) (F : Nat) {r : Int32} {s' : CS}  : ∀ (n : Nat) (x2 : Int32) (s : CS) (ls : Array Slot), r_X1_hangsTogether_b75 F n x2 s = some (r, s') → lv_has ls 3 [(0, .ref (a 6)), (2, .int x2)] → x_W p l e rm_X1_hangsTogether S0 m args below meth c A D (cwld cI a) 0 0 (x_Ri below args S0 A D (cwld cI a) r s') s (F0 m 75 ls []) := by
  intro n
  induction n with
  | zero =>
    intro x2 s ls hf hl
    have hf : (none : Option (Int32 × CS)) = some (r, s') := hf
    cases hf
  | succ n ih =>
    intro x2 s ls hf hl
    rw [r_X1_hangsTogether_b75_s] at hf
    refine x_iload_n X dX1_hangsTogether_75 rfl hl 1 rfl ?_
    refine x_sipush X dX1_hangsTogether_76 xk_sipush_160 ?_
    refine x_icmp_ge (tgt := 101) X dX1_hangsTogether_79 rfl (fun q6 => ?_) (fun q6 => ?_)
    · have hf := (if_pos q6).symm.trans hf
      refine x_iconst X dX1_hangsTogether_101 xk_iconst_0 ?_
      exact x_iret X rfl rfl hf dX1_hangsTogether_102
    · have hf := (if_neg q6).symm.trans hf
      refine x_aload_n X dX1_hangsTogether_82 rfl hl 0 rfl ?_
      refine x_getf X in_X1_hangsTogether_X1 (cw_o6 _ _ _) rfl 4 (by decide) lk_X1_hangsTogether_20 rfl rfl dX1_hangsTogether_83 ?_
      refine x_iload_n X dX1_hangsTogether_86 rfl hl 1 rfl ?_
      obtain ⟨v8, s7, c9, hf⟩ := x_ob_of hf
      refine x_cVi X (7 + 21) 5 (cw_row (by decide : 21 < 22)) rfl rfl (c_X5_at l D cI cZ cJ a (k := 21) (by decide) F c9) (cwV 1 X.2.2.2.2.1 gX1_hangsTogether_X5_at rfl rfl rfl (by decide +kernel) ⟨Nat.le_of_ble_eq_true rfl, Nat.le_of_ble_eq_true rfl⟩) rfl hl rfl (Nat.le_of_ble_eq_true rfl) ⟨Nat.zero_le _, Nat.zero_le _⟩ dX1_hangsTogether_87 ?_
      refine x_if_eq (tgt := 95) X dX1_hangsTogether_90 rfl (fun q10 => ?_) (fun q10 => ?_)
      · have hf := (if_pos q10).symm.trans hf
        refine x_iinc (v := (x2 + (1 : Int32))) (lv' := [(2, .int (x2 + (1 : Int32))), (0, .ref (a 6))]) X dX1_hangsTogether_95 hl (j := 1) rfl rfl (by decide) rfl (fun ls hl => ?_)
        refine x_goto (tgt := 75) X dX1_hangsTogether_98 rfl ?_
        exact ih (x2 + (1 : Int32)) s7 ls hf (lv_sub hl [1, 0] rfl)
      · have hf := (if_neg q10).symm.trans hf
        refine x_iconst X dX1_hangsTogether_93 xk_iconst_1 ?_
        exact x_iret X rfl rfl hf dX1_hangsTogether_94
set_option maxHeartbeats 4000000 in
set_option maxRecDepth 100000 in
theorem b_X1_hangsTogether_73 {p : Program} {l : Launch} {e : Env} {S0 : State} {m : MethodId} {args : Array Value} {below : List Frame} {meth : Method} {c : Code} {A : Nat → Prop} {D : va_G} {cI cZ cJ : ClassId} {a : Nat → Nat} (X : x_X p S0 m args meth c cX1_hangsTogether 3 (some .boolean) RX1 wsX1_hangsTogether D (x_tys cI cZ cJ) A) (F : Nat) {r : Int32} {s' : CS}  : ∀ (s : CS) (ls : Array Slot), r_X1_hangsTogether_b73 F s = some (r, s') → lv_has ls 3 [(0, .ref (a 6))] → x_W p l e rm_X1_hangsTogether S0 m args below meth c A D (cwld cI a) 0 0 (x_Ri below args S0 A D (cwld cI a) r s') s (F0 m 73 ls []) := by
  intro s ls hf hl
  unfold r_X1_hangsTogether_b73 at hf
  refine x_iconst X dX1_hangsTogether_73 xk_iconst_0 ?_
  refine x_istoreA_n (lv' := [(2, .int (0 : Int32)), (0, .ref (a 6))]) X dX1_hangsTogether_74 rfl hl (by decide) rfl (fun ls hl => ?_)
  exact b_X1_hangsTogether_75 X F F (0 : Int32) s ls hf (lv_sub hl [1, 0] rfl)
set_option maxHeartbeats 4000000 in
set_option maxRecDepth 100000 in
theorem b_X1_hangsTogether_51 {p : Program} {l : Launch} {e : Env} {S0 : State} {m : MethodId} {args : Array Value} {below : List Frame} {meth : Method} {c : Code} {A : Nat → Prop} {D : va_G} {cI cZ cJ : ClassId} {a : Nat → Nat} (X : x_X p S0 m args meth c cX1_hangsTogether 3 (some .boolean) RX1 wsX1_hangsTogether D (x_tys cI cZ cJ) A) (F : Nat) {r : Int32} {s' : CS}  : ∀ (n : Nat) (x1 x2 : Int32) (s : CS) (ls : Array Slot), r_X1_hangsTogether_b51 F n x1 x2 s = some (r, s') → lv_has ls 3 [(0, .ref (a 6)), (1, .int x1), (2, .int x2)] → x_W p l e rm_X1_hangsTogether S0 m args below meth c A D (cwld cI a) 0 0 (x_Ri below args S0 A D (cwld cI a) r s') s (F0 m 51 ls []) := by
  intro n
  induction n with
  | zero =>
    intro x1 x2 s ls hf hl
    have hf : (none : Option (Int32 × CS)) = some (r, s') := hf
    cases hf
  | succ n ih =>
    intro x1 x2 s ls hf hl
    rw [r_X1_hangsTogether_b51_s] at hf
    refine x_iload_n X dX1_hangsTogether_51 rfl hl 2 rfl ?_
    refine x_sipush X dX1_hangsTogether_52 xk_sipush_160 ?_
    refine x_icmp_ge (tgt := 73) X dX1_hangsTogether_55 rfl (fun q5 => ?_) (fun q5 => ?_)
    · have hf := (if_pos q5).symm.trans hf
      exact b_X1_hangsTogether_73 X F s ls hf (lv_sub hl [0] rfl)
    · have hf := (if_neg q5).symm.trans hf
      refine x_iload_n X dX1_hangsTogether_58 rfl hl 1 rfl ?_
      refine x_if_eq (tgt := 73) X dX1_hangsTogether_59 rfl (fun q11 => ?_) (fun q11 => ?_)
      · have hf := (if_pos q11).symm.trans hf
        exact b_X1_hangsTogether_73 X F s ls hf (lv_sub hl [0] rfl)
      · have hf := (if_neg q11).symm.trans hf
        refine x_aload_n X dX1_hangsTogether_62 rfl hl 0 rfl ?_
        obtain ⟨v13, s12, c14, hf⟩ := x_ob_of hf
        refine x_cVi X 6 1 (cw_o6 _ _ _) rfl rfl (c_X1_cutEnds l D cI cZ cJ a F c14) (cwV 0 X.2.2.2.2.1 gX1_hangsTogether_X1_cutEnds rfl rfl rfl (by decide +kernel) ⟨Nat.le_of_ble_eq_true rfl, Nat.le_of_ble_eq_true rfl⟩) rfl hl rfl (Nat.le_of_ble_eq_true rfl) ⟨Nat.zero_le _, Nat.zero_le _⟩ dX1_hangsTogether_63 ?_
        refine x_istoreA_n (lv' := [(1, .int v13), (0, .ref (a 6)), (2, .int x2)]) X dX1_hangsTogether_66 rfl hl (by decide) rfl (fun ls hl => ?_)
        refine x_iinc (v := (x2 + (1 : Int32))) (lv' := [(2, .int (x2 + (1 : Int32))), (1, .int v13), (0, .ref (a 6))]) X dX1_hangsTogether_67 hl (j := 2) rfl rfl (by decide) rfl (fun ls hl => ?_)
        refine x_goto (tgt := 51) X dX1_hangsTogether_70 rfl ?_
        exact ih v13 (x2 + (1 : Int32)) s12 ls hf (lv_sub hl [2, 1, 0] rfl)
set_option maxHeartbeats 4000000 in
set_option maxRecDepth 100000 in
theorem b_X1_hangsTogether_41 {p : Program} {l : Launch} {e : Env} {S0 : State} {m : MethodId} {args : Array Value} {below : List Frame} {meth : Method} {c : Code} {A : Nat → Prop} {D : va_G} {cI cZ cJ : ClassId} {a : Nat → Nat} (X : x_X p S0 m args meth c cX1_hangsTogether 3 (some .boolean) RX1 wsX1_hangsTogether D (x_tys cI cZ cJ) A) (F : Nat) {r : Int32} {s' : CS} (K10 : Int32 → CS → Option (Int32 × CS)) (hK10 : ∀ (x1 : Int32) (s : CS) (ls : Array Slot), K10 x1 s = some (r, s') → lv_has ls 3 [(0, .ref (a 6)), (1, .int x1)] → x_W p l e rm_X1_hangsTogether S0 m args below meth c A D (cwld cI a) 0 0 (x_Ri below args S0 A D (cwld cI a) r s') s (F0 m 10 ls [])) : ∀ (x1 : Int32) (s : CS) (ls : Array Slot), r_X1_hangsTogether_b41 K10 F x1 s = some (r, s') → lv_has ls 3 [(0, .ref (a 6)), (1, .int x1)] → x_W p l e rm_X1_hangsTogether S0 m args below meth c A D (cwld cI a) 0 0 (x_Ri below args S0 A D (cwld cI a) r s') s (F0 m 41 ls []) := by
  intro x1 s ls hf hl
  unfold r_X1_hangsTogether_b41 at hf
  refine x_iinc (v := (x1 + (1 : Int32))) (lv' := [(1, .int (x1 + (1 : Int32))), (0, .ref (a 6))]) X dX1_hangsTogether_41 hl (j := 1) rfl rfl (by decide) rfl (fun ls hl => ?_)
  refine x_goto (tgt := 10) X dX1_hangsTogether_44 rfl ?_
  exact hK10 (x1 + (1 : Int32)) s ls hf (lv_sub hl [1, 0] rfl)
set_option maxHeartbeats 4000000 in
set_option maxRecDepth 100000 in
theorem b_X1_hangsTogether_10 {p : Program} {l : Launch} {e : Env} {S0 : State} {m : MethodId} {args : Array Value} {below : List Frame} {meth : Method} {c : Code} {A : Nat → Prop} {D : va_G} {cI cZ cJ : ClassId} {a : Nat → Nat} (X : x_X p S0 m args meth c cX1_hangsTogether 3 (some .boolean) RX1 wsX1_hangsTogether D (x_tys cI cZ cJ) A) (F : Nat) {r : Int32} {s' : CS}  : ∀ (n : Nat) (x1 : Int32) (s : CS) (ls : Array Slot), r_X1_hangsTogether_b10 F n x1 s = some (r, s') → lv_has ls 3 [(0, .ref (a 6)), (1, .int x1)] → x_W p l e rm_X1_hangsTogether S0 m args below meth c A D (cwld cI a) 0 0 (x_Ri below args S0 A D (cwld cI a) r s') s (F0 m 10 ls []) := by
  intro n
  induction n with
  | zero =>
    intro x1 s ls hf hl
    have hf : (none : Option (Int32 × CS)) = some (r, s') := hf
    cases hf
  | succ n ih =>
    intro x1 s ls hf hl
    rw [r_X1_hangsTogether_b10_s] at hf
    refine x_iload_n X dX1_hangsTogether_10 rfl hl 1 rfl ?_
    refine x_aload_n X dX1_hangsTogether_11 rfl hl 0 rfl ?_
    refine x_getf X in_X1_hangsTogether_X1 (cw_o6 _ _ _) rfl 1 (by decide) lk_X1_hangsTogether_27 rfl rfl dX1_hangsTogether_12 ?_
    refine x_getN X in_X1_hangsTogether_X4 (cw_o2 _ _ _) rfl 9 (by decide) (by decide +kernel) rfl rfl dX1_hangsTogether_15 ?_
    refine x_icmp_ge (tgt := 47) X dX1_hangsTogether_18 rfl (fun q4 => ?_) (fun q4 => ?_)
    · have hf := (if_pos q4).symm.trans hf
      refine x_iconst X dX1_hangsTogether_47 xk_iconst_1 ?_
      refine x_istoreA_n (lv' := [(1, .int (1 : Int32)), (0, .ref (a 6))]) X dX1_hangsTogether_48 rfl hl (by decide) rfl (fun ls hl => ?_)
      refine x_iconst X dX1_hangsTogether_49 xk_iconst_0 ?_
      refine x_istoreA_n (lv' := [(2, .int (0 : Int32)), (1, .int (1 : Int32)), (0, .ref (a 6))]) X dX1_hangsTogether_50 rfl hl (by decide) rfl (fun ls hl => ?_)
      exact b_X1_hangsTogether_51 X F F (1 : Int32) (0 : Int32) s ls hf (lv_sub hl [2, 1, 0] rfl)
    · have hf := (if_neg q4).symm.trans hf
      refine x_aload_n X dX1_hangsTogether_21 rfl hl 0 rfl ?_
      refine x_getf X in_X1_hangsTogether_X1 (cw_o6 _ _ _) rfl 1 (by decide) lk_X1_hangsTogether_27 rfl rfl dX1_hangsTogether_22 ?_
      refine x_getN X in_X1_hangsTogether_X4 (cw_o2 _ _ _) rfl 5 (by decide) (by decide +kernel) rfl rfl dX1_hangsTogether_25 ?_
      refine x_iload_n X dX1_hangsTogether_28 rfl hl 1 rfl ?_
      obtain ⟨v16, s15, c17, hf⟩ := x_ob_of hf
      refine x_cVi X (7 + 10) 5 (cw_row (by decide : 10 < 22)) rfl rfl (c_X5_at l D cI cZ cJ a (k := 10) (by decide) F c17) (cwV 1 X.2.2.2.2.1 gX1_hangsTogether_X5_at rfl rfl rfl (by decide +kernel) ⟨Nat.le_of_ble_eq_true rfl, Nat.le_of_ble_eq_true rfl⟩) rfl hl rfl (Nat.le_of_ble_eq_true rfl) ⟨Nat.zero_le _, Nat.zero_le _⟩ dX1_hangsTogether_29 ?_
      refine x_iconst X dX1_hangsTogether_32 xk_iconst_m1 ?_
      refine x_icmp_eq (tgt := 41) X dX1_hangsTogether_33 rfl (fun q18 => ?_) (fun q18 => ?_)
      · have hf := (if_pos q18).symm.trans hf
        exact b_X1_hangsTogether_41 X F _ ih x1 s15 ls hf (lv_sub hl [0, 1] rfl)
      · have hf := (if_neg q18).symm.trans hf
        refine x_aload_n X dX1_hangsTogether_36 rfl hl 0 rfl ?_
        refine x_iload_n X dX1_hangsTogether_37 rfl hl 1 rfl ?_
        obtain ⟨v20, s19, c21, hf⟩ := x_ob_of hf
        refine x_cVv X 6 1 (cw_o6 _ _ _) rfl rfl (c_X1_hangAlong l D cI cZ cJ a F c21) (cwV 1 X.2.2.2.2.1 gX1_hangsTogether_X1_hangAlong rfl rfl rfl (by decide +kernel) ⟨Nat.le_of_ble_eq_true rfl, Nat.le_of_ble_eq_true rfl⟩) rfl hl rfl (Nat.le_of_ble_eq_true rfl) ⟨Nat.zero_le _, Nat.zero_le _⟩ dX1_hangsTogether_38 ?_
        exact b_X1_hangsTogether_41 X F _ ih x1 s19 ls hf (lv_sub hl [0, 1] rfl)
set_option maxHeartbeats 4000000 in
set_option maxRecDepth 100000 in
theorem c_X1_hangsTogether (l : Launch) (D : va_G) (cI cZ cJ : ClassId) (a : Nat → Nat) (F : Nat) {s s' : CS} {r : Int32} (hf : r_X1_hangsTogether F s = some (r, s')) : x_Mi l yX1_hangsTogether wsX1_hangsTogether rm_X1_hangsTogether D (x_tys cI cZ cJ) (cwld cI a) [.ref (a 6)] s r s' := by
  refine x_enteri (cc := cX1_hangsTogether) (nL := 3) (ty := .boolean) (own := RX1) (by decide) rfl rfl (Nat.le_of_ble_eq_true rfl) ?_
  intro p e S0 m args below meth c A X ls hl
  have hl : lv_has ls 3 [(0, .ref (a 6))] := hl
  unfold r_X1_hangsTogether at hf
  refine x_aload_n X dX1_hangsTogether_0 rfl hl 0 rfl ?_
  refine x_getf X in_X1_hangsTogether_X1 (cw_o6 _ _ _) rfl 4 (by decide) lk_X1_hangsTogether_20 rfl rfl dX1_hangsTogether_1 ?_
  refine x_iconst X dX1_hangsTogether_4 xk_iconst_0 ?_
  obtain ⟨v2, s1, c3, hf⟩ := x_ob_of hf
  refine x_cVv X (7 + 21) 5 (cw_row (by decide : 21 < 22)) rfl rfl (c_X5_fill l D cI cZ cJ a (k := 21) (by decide) F c3) (cwV 1 X.2.2.2.2.1 gX1_hangsTogether_X5_fill rfl rfl rfl (by decide +kernel) ⟨Nat.le_of_ble_eq_true rfl, Nat.le_of_ble_eq_true rfl⟩) rfl hl rfl (Nat.le_of_ble_eq_true rfl) ⟨Nat.zero_le _, Nat.zero_le _⟩ dX1_hangsTogether_5 ?_
  refine x_iconst X dX1_hangsTogether_8 xk_iconst_0 ?_
  refine x_istoreA_n (lv' := [(1, .int (0 : Int32)), (0, .ref (a 6))]) X dX1_hangsTogether_9 rfl hl (by decide) rfl (fun ls hl => ?_)
  exact b_X1_hangsTogether_10 X F F (0 : Int32) s1 ls hf (lv_sub hl [1, 0] rfl)
def rm_X2_fill : Room := { frames := 1, cells := 0, slots := 0, locals := 22 }
theorem in_X2_fill_X2 : ∀ w ∈ wsX20, w ∈ wsX2_fill := by decide +kernel
theorem lk_X2_fill_14 : Cond.fieldLink RX2 14 "Creditfabric$Credits" "there" "LCreditfabric$Row;" ∈ wsX2_fill := by decide +kernel
theorem lk_X2_fill_20 : Cond.fieldLink RX2 20 "Creditfabric$Credits" "coming" "LCreditfabric$Row;" ∈ wsX2_fill := by decide +kernel
theorem lk_X2_fill_23 : Cond.fieldLink RX2 23 "Creditfabric$Credits" "delay" "I" ∈ wsX2_fill := by decide +kernel
theorem lk_X2_fill_30 : Cond.fieldLink RX2 30 "Creditfabric$Credits" "comingInAll" "I" ∈ wsX2_fill := by decide +kernel
set_option maxHeartbeats 4000000 in
set_option maxRecDepth 100000 in
theorem c_X2_fill (l : Launch) (D : va_G) (cI cZ cJ : ClassId) (a : Nat → Nat) (F : Nat) {s s' : CS} {r : Int32} {x1 x2 : Int32} (hf : r_X2_fill F x1 x2 s = some (r, s')) : x_Mv l yX2_fill wsX2_fill rm_X2_fill D (x_tys cI cZ cJ) (cwld cI a) [.ref (a 4), .int x1, .int x2] s s' := by
  refine x_enterv (cc := cX2_fill) (nL := 3) (own := RX2) (by decide) rfl rfl (Nat.le_of_ble_eq_true rfl) ?_
  intro p e S0 m args below meth c A X ls hl
  have hl : lv_has ls 3 [(0, .ref (a 4)), (1, .int x1), (2, .int x2)] := hl
  unfold r_X2_fill at hf
  refine x_aload_n X dX2_fill_0 rfl hl 0 rfl ?_
  refine x_iload_n X dX2_fill_1 rfl hl 2 rfl ?_
  refine x_puti X in_X2_fill_X2 (cw_o4 _ _ _) rfl 2 (by decide) tyX2 tyX2_ok nmX2 lk_X2_fill_23 rfl rfl (by decide +kernel) (Nat.le_of_ble_eq_true rfl) (cw_s7 _ _ _ _) dX2_fill_2 (fun s1 es1 => ?_)
  have hf := x_os_of es1 hf
  refine x_aload_n X dX2_fill_5 rfl hl 0 rfl ?_
  refine x_getf X in_X2_fill_X2 (cw_o4 _ _ _) rfl 0 (by decide) lk_X2_fill_14 rfl rfl dX2_fill_6 ?_
  refine x_iload_n X dX2_fill_9 rfl hl 1 rfl ?_
  obtain ⟨v3, s2, c4, hf⟩ := x_ob_of hf
  refine x_cVv X (7 + 16) 5 (cw_row (by decide : 16 < 22)) rfl rfl (c_X5_fill l D cI cZ cJ a (k := 16) (by decide) F c4) (cwV 1 X.2.2.2.2.1 gX2_fill_X5_fill rfl rfl rfl (by decide +kernel) ⟨Nat.le_of_ble_eq_true rfl, Nat.le_of_ble_eq_true rfl⟩) rfl hl rfl (Nat.le_of_ble_eq_true rfl) ⟨Nat.zero_le _, Nat.zero_le _⟩ dX2_fill_10 ?_
  refine x_aload_n X dX2_fill_13 rfl hl 0 rfl ?_
  refine x_getf X in_X2_fill_X2 (cw_o4 _ _ _) rfl 1 (by decide) lk_X2_fill_20 rfl rfl dX2_fill_14 ?_
  refine x_iconst X dX2_fill_17 xk_iconst_0 ?_
  obtain ⟨v6, s5, c7, hf⟩ := x_ob_of hf
  refine x_cVv X (7 + 17) 5 (cw_row (by decide : 17 < 22)) rfl rfl (c_X5_fill l D cI cZ cJ a (k := 17) (by decide) F c7) (cwV 1 X.2.2.2.2.1 gX2_fill_X5_fill rfl rfl rfl (by decide +kernel) ⟨Nat.le_of_ble_eq_true rfl, Nat.le_of_ble_eq_true rfl⟩) rfl hl rfl (Nat.le_of_ble_eq_true rfl) ⟨Nat.zero_le _, Nat.zero_le _⟩ dX2_fill_18 ?_
  refine x_aload_n X dX2_fill_21 rfl hl 0 rfl ?_
  refine x_iconst X dX2_fill_22 xk_iconst_0 ?_
  refine x_puti X in_X2_fill_X2 (cw_o4 _ _ _) rfl 3 (by decide) tyX2 tyX2_ok nmX2 lk_X2_fill_30 rfl rfl (by decide +kernel) (Nat.le_of_ble_eq_true rfl) (cw_s8 _ _ _ _) dX2_fill_23 (fun s8 es8 => ?_)
  have hf := x_os_of es8 hf
  exact x_vret X rfl hf dX2_fill_26
def rm_X2_there : Room := { frames := 1, cells := 0, slots := 0, locals := 21 }
theorem in_X2_there_X2 : ∀ w ∈ wsX20, w ∈ wsX2_there := by decide +kernel
theorem lk_X2_there_14 : Cond.fieldLink RX2 14 "Creditfabric$Credits" "there" "LCreditfabric$Row;" ∈ wsX2_there := by decide +kernel
set_option maxHeartbeats 4000000 in
set_option maxRecDepth 100000 in
theorem c_X2_there (l : Launch) (D : va_G) (cI cZ cJ : ClassId) (a : Nat → Nat) (F : Nat) {s s' : CS} {r : Int32} {x1 : Int32} (hf : r_X2_there F x1 s = some (r, s')) : x_Mi l yX2_there wsX2_there rm_X2_there D (x_tys cI cZ cJ) (cwld cI a) [.ref (a 4), .int x1] s r s' := by
  refine x_enteri (cc := cX2_there) (nL := 2) (ty := .int) (own := RX2) (by decide) rfl rfl (Nat.le_of_ble_eq_true rfl) ?_
  intro p e S0 m args below meth c A X ls hl
  have hl : lv_has ls 2 [(0, .ref (a 4)), (1, .int x1)] := hl
  unfold r_X2_there at hf
  refine x_aload_n X dX2_there_0 rfl hl 0 rfl ?_
  refine x_getf X in_X2_there_X2 (cw_o4 _ _ _) rfl 0 (by decide) lk_X2_there_14 rfl rfl dX2_there_1 ?_
  refine x_iload_n X dX2_there_4 rfl hl 1 rfl ?_
  obtain ⟨v2, s1, c3, hf⟩ := x_ob_of hf
  refine x_cVi X (7 + 16) 5 (cw_row (by decide : 16 < 22)) rfl rfl (c_X5_at l D cI cZ cJ a (k := 16) (by decide) F c3) (cwV 1 X.2.2.2.2.1 gX2_there_X5_at rfl rfl rfl (by decide +kernel) ⟨Nat.le_of_ble_eq_true rfl, Nat.le_of_ble_eq_true rfl⟩) rfl hl rfl (Nat.le_of_ble_eq_true rfl) ⟨Nat.zero_le _, Nat.zero_le _⟩ dX2_there_5 ?_
  exact x_iret X rfl rfl hf dX2_there_8
def rm_X2_take : Room := { frames := 2, cells := 0, slots := 0, locals := 44 }
theorem in_X2_take_X2 : ∀ w ∈ wsX20, w ∈ wsX2_take := by decide +kernel
theorem lk_X2_take_14 : Cond.fieldLink RX2 14 "Creditfabric$Credits" "there" "LCreditfabric$Row;" ∈ wsX2_take := by decide +kernel
set_option maxHeartbeats 4000000 in
set_option maxRecDepth 100000 in
theorem c_X2_take (l : Launch) (D : va_G) (cI cZ cJ : ClassId) (a : Nat → Nat) (F : Nat) {s s' : CS} {r : Int32} {x1 : Int32} (hf : r_X2_take F x1 s = some (r, s')) : x_Mv l yX2_take wsX2_take rm_X2_take D (x_tys cI cZ cJ) (cwld cI a) [.ref (a 4), .int x1] s s' := by
  refine x_enterv (cc := cX2_take) (nL := 2) (own := RX2) (by decide) rfl rfl (Nat.le_of_ble_eq_true rfl) ?_
  intro p e S0 m args below meth c A X ls hl
  have hl : lv_has ls 2 [(0, .ref (a 4)), (1, .int x1)] := hl
  unfold r_X2_take at hf
  refine x_aload_n X dX2_take_0 rfl hl 0 rfl ?_
  refine x_getf X in_X2_take_X2 (cw_o4 _ _ _) rfl 0 (by decide) lk_X2_take_14 rfl rfl dX2_take_1 ?_
  refine x_iload_n X dX2_take_4 rfl hl 1 rfl ?_
  refine x_iconst X dX2_take_5 xk_iconst_m1 ?_
  obtain ⟨v2, s1, c3, hf⟩ := x_ob_of hf
  refine x_cVv X (7 + 16) 5 (cw_row (by decide : 16 < 22)) rfl rfl (c_X5_add l D cI cZ cJ a (k := 16) (by decide) F c3) (cwV 2 X.2.2.2.2.1 gX2_take_X5_add rfl rfl rfl (by decide +kernel) ⟨Nat.le_of_ble_eq_true rfl, Nat.le_of_ble_eq_true rfl⟩) rfl hl rfl (Nat.le_of_ble_eq_true rfl) ⟨Nat.zero_le _, Nat.zero_le _⟩ dX2_take_6 ?_
  exact x_vret X rfl hf dX2_take_9
def rm_X2_slotOf : Room := { frames := 0, cells := 0, slots := 0, locals := 0 }
set_option maxHeartbeats 4000000 in
set_option maxRecDepth 100000 in
theorem c_X2_slotOf (l : Launch) (D : va_G) (cI cZ cJ : ClassId) (a : Nat → Nat) (F : Nat) {s s' : CS} {r : Int32} {x0 x1 : Int32} (hf : r_X2_slotOf F x0 x1 s = some (r, s')) : x_Mi l yX2_slotOf wsX2_slotOf rm_X2_slotOf D (x_tys cI cZ cJ) (cwld cI a) [.int x0, .int x1] s r s' := by
  refine x_enteri (cc := cX2_slotOf) (nL := 2) (ty := .int) (own := RX2) (by decide) rfl rfl (Nat.le_of_ble_eq_true rfl) ?_
  intro p e S0 m args below meth c A X ls hl
  have hl : lv_has ls 2 [(0, .int x0), (1, .int x1)] := hl
  unfold r_X2_slotOf at hf
  refine x_iload_n X dX2_slotOf_0 rfl hl 0 rfl ?_
  refine x_iconst X dX2_slotOf_1 xk_iconst_4 ?_
  refine x_imul X dX2_slotOf_2 ?_
  refine x_iload_n X dX2_slotOf_3 rfl hl 1 rfl ?_
  refine x_iconst X dX2_slotOf_4 xk_iconst_3 ?_
  refine x_iand X dX2_slotOf_5 ?_
  refine x_iadd X dX2_slotOf_6 ?_
  exact x_iret X rfl rfl hf dX2_slotOf_7
def rm_X2_giveBack : Room := { frames := 2, cells := 0, slots := 0, locals := 44 }
theorem in_X2_giveBack_X2 : ∀ w ∈ wsX20, w ∈ wsX2_giveBack := by decide +kernel
theorem lk_X2_giveBack_20 : Cond.fieldLink RX2 20 "Creditfabric$Credits" "coming" "LCreditfabric$Row;" ∈ wsX2_giveBack := by decide +kernel
theorem lk_X2_giveBack_23 : Cond.fieldLink RX2 23 "Creditfabric$Credits" "delay" "I" ∈ wsX2_giveBack := by decide +kernel
theorem lk_X2_giveBack_30 : Cond.fieldLink RX2 30 "Creditfabric$Credits" "comingInAll" "I" ∈ wsX2_giveBack := by decide +kernel
set_option maxHeartbeats 4000000 in
set_option maxRecDepth 100000 in
theorem c_X2_giveBack (l : Launch) (D : va_G) (cI cZ cJ : ClassId) (a : Nat → Nat) (F : Nat) {s s' : CS} {r : Int32} {x1 x2 : Int32} (hf : r_X2_giveBack F x1 x2 s = some (r, s')) : x_Mv l yX2_giveBack wsX2_giveBack rm_X2_giveBack D (x_tys cI cZ cJ) (cwld cI a) [.ref (a 4), .int x1, .int x2] s s' := by
  refine x_enterv (cc := cX2_giveBack) (nL := 3) (own := RX2) (by decide) rfl rfl (Nat.le_of_ble_eq_true rfl) ?_
  intro p e S0 m args below meth c A X ls hl
  have hl : lv_has ls 3 [(0, .ref (a 4)), (1, .int x1), (2, .int x2)] := hl
  unfold r_X2_giveBack at hf
  refine x_aload_n X dX2_giveBack_0 rfl hl 0 rfl ?_
  refine x_getf X in_X2_giveBack_X2 (cw_o4 _ _ _) rfl 1 (by decide) lk_X2_giveBack_20 rfl rfl dX2_giveBack_1 ?_
  refine x_iload_n X dX2_giveBack_4 rfl hl 1 rfl ?_
  refine x_iload_n X dX2_giveBack_5 rfl hl 2 rfl ?_
  refine x_iconst X dX2_giveBack_6 xk_iconst_1 ?_
  refine x_iadd X dX2_giveBack_7 ?_
  refine x_aload_n X dX2_giveBack_8 rfl hl 0 rfl ?_
  refine x_getf X in_X2_giveBack_X2 (cw_o4 _ _ _) rfl 2 (by decide) lk_X2_giveBack_23 rfl rfl dX2_giveBack_9 ?_
  refine x_iadd X dX2_giveBack_12 ?_
  obtain ⟨v2, s1, c3, hf⟩ := x_ob_of hf
  refine x_cSi X (c_X2_slotOf l D cI cZ cJ a F c3) (va_cwS 2 X.2.2.2.2.1 gX2_giveBack_X2_slotOf rfl rfl rfl (by decide +kernel) ⟨Nat.le_of_ble_eq_true rfl, Nat.le_of_ble_eq_true rfl⟩) rfl hl rfl (Nat.le_of_ble_eq_true rfl) ⟨Nat.zero_le _, Nat.zero_le _⟩ dX2_giveBack_13 ?_
  refine x_iconst X dX2_giveBack_16 xk_iconst_1 ?_
  obtain ⟨v5, s4, c6, hf⟩ := x_ob_of hf
  refine x_cVv X (7 + 17) 5 (cw_row (by decide : 17 < 22)) rfl rfl (c_X5_add l D cI cZ cJ a (k := 17) (by decide) F c6) (cwV 2 X.2.2.2.2.1 gX2_giveBack_X5_add rfl rfl rfl (by decide +kernel) ⟨Nat.le_of_ble_eq_true rfl, Nat.le_of_ble_eq_true rfl⟩) rfl hl rfl (Nat.le_of_ble_eq_true rfl) ⟨Nat.zero_le _, Nat.zero_le _⟩ dX2_giveBack_17 ?_
  refine x_aload_n X dX2_giveBack_20 rfl hl 0 rfl ?_
  refine x_dup X dX2_giveBack_21 rfl ?_
  refine x_getf X in_X2_giveBack_X2 (cw_o4 _ _ _) rfl 3 (by decide) lk_X2_giveBack_30 rfl rfl dX2_giveBack_22 ?_
  refine x_iconst X dX2_giveBack_25 xk_iconst_1 ?_
  refine x_iadd X dX2_giveBack_26 ?_
  refine x_puti X in_X2_giveBack_X2 (cw_o4 _ _ _) rfl 3 (by decide) tyX2 tyX2_ok nmX2 lk_X2_giveBack_30 rfl rfl (by decide +kernel) (Nat.le_of_ble_eq_true rfl) (cw_s8 _ _ _ _) dX2_giveBack_27 (fun s7 es7 => ?_)
  have hf := x_os_of es7 hf
  exact x_vret X rfl hf dX2_giveBack_30
def rm_X2_comeBack : Room := { frames := 2, cells := 0, slots := 0, locals := 44 }
theorem in_X2_comeBack_X2 : ∀ w ∈ wsX20, w ∈ wsX2_comeBack := by decide +kernel
theorem lk_X2_comeBack_14 : Cond.fieldLink RX2 14 "Creditfabric$Credits" "there" "LCreditfabric$Row;" ∈ wsX2_comeBack := by decide +kernel
theorem lk_X2_comeBack_20 : Cond.fieldLink RX2 20 "Creditfabric$Credits" "coming" "LCreditfabric$Row;" ∈ wsX2_comeBack := by decide +kernel
theorem lk_X2_comeBack_30 : Cond.fieldLink RX2 30 "Creditfabric$Credits" "comingInAll" "I" ∈ wsX2_comeBack := by decide +kernel
set_option maxHeartbeats 4000000 in
set_option maxRecDepth 100000 in
theorem b_X2_comeBack_10 {p : Program} {l : Launch} {e : Env} {S0 : State} {m : MethodId} {args : Array Value} {below : List Frame} {meth : Method} {c : Code} {A : Nat → Prop} {D : va_G} {cI cZ cJ : ClassId} {a : Nat → Nat} (X : x_X p S0 m args meth c cX2_comeBack 5 none RX2 wsX2_comeBack D (x_tys cI cZ cJ) A) (F : Nat) {r : Int32} {s' : CS}  : ∀ (n : Nat) (x1 x2 : Int32) (s : CS) (ls : Array Slot), r_X2_comeBack_b10 F n x1 x2 s = some (r, s') → lv_has ls 5 [(0, .ref (a 4)), (1, .int x1), (2, .int x2)] → x_W p l e rm_X2_comeBack S0 m args below meth c A D (cwld cI a) 0 0 (x_Rv below args S0 A D (cwld cI a) s') s (F0 m 10 ls []) := by
  intro n
  induction n with
  | zero =>
    intro x1 x2 s ls hf hl
    have hf : (none : Option (Int32 × CS)) = some (r, s') := hf
    cases hf
  | succ n ih =>
    intro x1 x2 s ls hf hl
    rw [r_X2_comeBack_b10_s] at hf
    refine x_iload_n X dX2_comeBack_10 rfl hl 2 rfl ?_
    refine x_sipush X dX2_comeBack_11 xk_sipush_160 ?_
    refine x_icmp_ge (tgt := 69) X dX2_comeBack_14 rfl (fun q2 => ?_) (fun q2 => ?_)
    · have hf := (if_pos q2).symm.trans hf
      exact x_vret X rfl hf dX2_comeBack_69
    · have hf := (if_neg q2).symm.trans hf
      refine x_iload_n X dX2_comeBack_17 rfl hl 2 rfl ?_
      refine x_iload_n X dX2_comeBack_18 rfl hl 1 rfl ?_
      obtain ⟨v4, s3, c5, hf⟩ := x_ob_of hf
      refine x_cSi X (c_X2_slotOf l D cI cZ cJ a F c5) (va_cwS 2 X.2.2.2.2.1 gX2_comeBack_X2_slotOf rfl rfl rfl (by decide +kernel) ⟨Nat.le_of_ble_eq_true rfl, Nat.le_of_ble_eq_true rfl⟩) rfl hl rfl (Nat.le_of_ble_eq_true rfl) ⟨Nat.zero_le _, Nat.zero_le _⟩ dX2_comeBack_19 ?_
      refine x_istoreA_n (lv' := [(3, .int v4), (0, .ref (a 4)), (1, .int x1), (2, .int x2)]) X dX2_comeBack_22 rfl hl (by decide) rfl (fun ls hl => ?_)
      refine x_aload_n X dX2_comeBack_23 rfl hl 1 rfl ?_
      refine x_getf X in_X2_comeBack_X2 (cw_o4 _ _ _) rfl 1 (by decide) lk_X2_comeBack_20 rfl rfl dX2_comeBack_24 ?_
      refine x_iload_n X dX2_comeBack_27 rfl hl 0 rfl ?_
      obtain ⟨v7, s6, c8, hf⟩ := x_ob_of hf
      refine x_cVi X (7 + 17) 5 (cw_row (by decide : 17 < 22)) rfl rfl (c_X5_at l D cI cZ cJ a (k := 17) (by decide) F c8) (cwV 1 X.2.2.2.2.1 gX2_comeBack_X5_at rfl rfl rfl (by decide +kernel) ⟨Nat.le_of_ble_eq_true rfl, Nat.le_of_ble_eq_true rfl⟩) rfl hl rfl (Nat.le_of_ble_eq_true rfl) ⟨Nat.zero_le _, Nat.zero_le _⟩ dX2_comeBack_28 ?_
      refine x_istoreA (lv' := [(4, .int v7), (3, .int v4), (0, .ref (a 4)), (1, .int x1), (2, .int x2)]) X dX2_comeBack_31 hl (by decide) rfl (fun ls hl => ?_)
      refine x_aload_n X dX2_comeBack_33 rfl hl 2 rfl ?_
      refine x_getf X in_X2_comeBack_X2 (cw_o4 _ _ _) rfl 0 (by decide) lk_X2_comeBack_14 rfl rfl dX2_comeBack_34 ?_
      refine x_iload_n X dX2_comeBack_37 rfl hl 4 rfl ?_
      refine x_iload X dX2_comeBack_38 hl 0 rfl ?_
      obtain ⟨v10, s9, c11, hf⟩ := x_ob_of hf
      refine x_cVv X (7 + 16) 5 (cw_row (by decide : 16 < 22)) rfl rfl (c_X5_add l D cI cZ cJ a (k := 16) (by decide) F c11) (cwV 2 X.2.2.2.2.1 gX2_comeBack_X5_add rfl rfl rfl (by decide +kernel) ⟨Nat.le_of_ble_eq_true rfl, Nat.le_of_ble_eq_true rfl⟩) rfl hl rfl (Nat.le_of_ble_eq_true rfl) ⟨Nat.zero_le _, Nat.zero_le _⟩ dX2_comeBack_40 ?_
      refine x_aload_n X dX2_comeBack_43 rfl hl 2 rfl ?_
      refine x_getf X in_X2_comeBack_X2 (cw_o4 _ _ _) rfl 1 (by decide) lk_X2_comeBack_20 rfl rfl dX2_comeBack_44 ?_
      refine x_iload_n X dX2_comeBack_47 rfl hl 1 rfl ?_
      refine x_iconst X dX2_comeBack_48 xk_iconst_0 ?_
      obtain ⟨v13, s12, c14, hf⟩ := x_ob_of hf
      refine x_cVv X (7 + 17) 5 (cw_row (by decide : 17 < 22)) rfl rfl (c_X5_put l D cI cZ cJ a (k := 17) (by decide) F c14) (cwV 2 X.2.2.2.2.1 gX2_comeBack_X5_put rfl rfl rfl (by decide +kernel) ⟨Nat.le_of_ble_eq_true rfl, Nat.le_of_ble_eq_true rfl⟩) rfl hl rfl (Nat.le_of_ble_eq_true rfl) ⟨Nat.zero_le _, Nat.zero_le _⟩ dX2_comeBack_49 ?_
      refine x_aload_n X dX2_comeBack_52 rfl hl 2 rfl ?_
      refine x_dup X dX2_comeBack_53 rfl ?_
      refine x_getf X in_X2_comeBack_X2 (cw_o4 _ _ _) rfl 3 (by decide) lk_X2_comeBack_30 rfl rfl dX2_comeBack_54 ?_
      refine x_iload X dX2_comeBack_57 hl 0 rfl ?_
      refine x_isub X dX2_comeBack_59 ?_
      refine x_puti X in_X2_comeBack_X2 (cw_o4 _ _ _) rfl 3 (by decide) tyX2 tyX2_ok nmX2 lk_X2_comeBack_30 rfl rfl (by decide +kernel) (Nat.le_of_ble_eq_true rfl) (cw_s8 _ _ _ _) dX2_comeBack_60 (fun s15 es15 => ?_)
      have hf := x_os_of es15 hf
      refine x_iinc (v := (x2 + (1 : Int32))) (lv' := [(2, .int (x2 + (1 : Int32))), (4, .int v7), (3, .int v4), (0, .ref (a 4)), (1, .int x1)]) X dX2_comeBack_63 hl (j := 4) rfl rfl (by decide) rfl (fun ls hl => ?_)
      refine x_goto (tgt := 10) X dX2_comeBack_66 rfl ?_
      exact ih x1 (x2 + (1 : Int32)) s15 ls hf (lv_sub hl [3, 4, 0] rfl)
set_option maxHeartbeats 4000000 in
set_option maxRecDepth 100000 in
theorem c_X2_comeBack (l : Launch) (D : va_G) (cI cZ cJ : ClassId) (a : Nat → Nat) (F : Nat) {s s' : CS} {r : Int32} {x1 : Int32} (hf : r_X2_comeBack F x1 s = some (r, s')) : x_Mv l yX2_comeBack wsX2_comeBack rm_X2_comeBack D (x_tys cI cZ cJ) (cwld cI a) [.ref (a 4), .int x1] s s' := by
  refine x_enterv (cc := cX2_comeBack) (nL := 5) (own := RX2) (by decide) rfl rfl (Nat.le_of_ble_eq_true rfl) ?_
  intro p e S0 m args below meth c A X ls hl
  have hl : lv_has ls 5 [(0, .ref (a 4)), (1, .int x1)] := hl
  unfold r_X2_comeBack at hf
  refine x_aload_n X dX2_comeBack_0 rfl hl 0 rfl ?_
  refine x_getf X in_X2_comeBack_X2 (cw_o4 _ _ _) rfl 3 (by decide) lk_X2_comeBack_30 rfl rfl dX2_comeBack_1 ?_
  refine x_if_ne (tgt := 8) X dX2_comeBack_4 rfl (fun q1 => ?_) (fun q1 => ?_)
  · have hf := (if_neg q1).symm.trans hf
    refine x_iconst X dX2_comeBack_8 xk_iconst_0 ?_
    refine x_istoreA_n (lv' := [(2, .int (0 : Int32)), (0, .ref (a 4)), (1, .int x1)]) X dX2_comeBack_9 rfl hl (by decide) rfl (fun ls hl => ?_)
    exact b_X2_comeBack_10 X F F x1 (0 : Int32) s ls hf (lv_sub hl [1, 2, 0] rfl)
  · have hf := (if_pos q1).symm.trans hf
    exact x_vret X rfl hf dX2_comeBack_7
def rm_X2_settle : Room := { frames := 1, cells := 0, slots := 0, locals := 22 }
theorem in_X2_settle_X2 : ∀ w ∈ wsX20, w ∈ wsX2_settle := by decide +kernel
theorem lk_X2_settle_14 : Cond.fieldLink RX2 14 "Creditfabric$Credits" "there" "LCreditfabric$Row;" ∈ wsX2_settle := by decide +kernel
theorem lk_X2_settle_20 : Cond.fieldLink RX2 20 "Creditfabric$Credits" "coming" "LCreditfabric$Row;" ∈ wsX2_settle := by decide +kernel
set_option maxHeartbeats 4000000 in
set_option maxRecDepth 100000 in
theorem b_X2_settle_5 {p : Program} {l : Launch} {e : Env} {S0 : State} {m : MethodId} {args : Array Value} {below : List Frame} {meth : Method} {c : Code} {A : Nat → Prop} {D : va_G} {cI cZ cJ : ClassId} {a : Nat → Nat} (X : x_X p S0 m args meth c cX2_settle 5 (some .int) RX2 wsX2_settle D (x_tys cI cZ cJ) A) (F : Nat) {r : Int32} {s' : CS}  : ∀ (n : Nat) (x1 x3 x4 : Int32) (s : CS) (ls : Array Slot), r_X2_settle_b5 F n x1 x3 x4 s = some (r, s') → lv_has ls 5 [(0, .ref (a 4)), (1, .int x1), (3, .int x3), (4, .int x4)] → x_W p l e rm_X2_settle S0 m args below meth c A D (cwld cI a) 0 0 (x_Ri below args S0 A D (cwld cI a) r s') s (F0 m 5 ls []) := by
  intro n
  induction n with
  | zero =>
    intro x1 x3 x4 s ls hf hl
    have hf : (none : Option (Int32 × CS)) = some (r, s') := hf
    cases hf
  | succ n ih =>
    intro x1 x3 x4 s ls hf hl
    rw [r_X2_settle_b5_s] at hf
    refine x_iload X dX2_settle_5 hl 3 rfl ?_
    refine x_iconst X dX2_settle_7 xk_iconst_4 ?_
    refine x_icmp_ge (tgt := 33) X dX2_settle_8 rfl (fun q1 => ?_) (fun q1 => ?_)
    · have hf := (if_pos q1).symm.trans hf
      refine x_iload_n X dX2_settle_33 rfl hl 2 rfl ?_
      refine x_aload_n X dX2_settle_34 rfl hl 0 rfl ?_
      refine x_getf X in_X2_settle_X2 (cw_o4 _ _ _) rfl 0 (by decide) lk_X2_settle_14 rfl rfl dX2_settle_35 ?_
      refine x_iload_n X dX2_settle_38 rfl hl 1 rfl ?_
      obtain ⟨v3, s2, c4, hf⟩ := x_ob_of hf
      refine x_cVi X (7 + 16) 5 (cw_row (by decide : 16 < 22)) rfl rfl (c_X5_at l D cI cZ cJ a (k := 16) (by decide) F c4) (cwV 1 X.2.2.2.2.1 gX2_settle_X5_at rfl rfl rfl (by decide +kernel) ⟨Nat.le_of_ble_eq_true rfl, Nat.le_of_ble_eq_true rfl⟩) rfl hl rfl (Nat.le_of_ble_eq_true rfl) ⟨Nat.zero_le _, Nat.zero_le _⟩ dX2_settle_39 ?_
      refine x_isub X dX2_settle_42 ?_
      refine x_istore (lv' := [(0, .ref (a 4)), (1, .int x1), (3, .int x3)]) X dX2_settle_43 hl (by decide) (fun _ => rfl) (fun x4_5 ls ex4_5 hl => ?_)
      have hf := x_oi_of ex4_5 hf
      refine x_aload_n X dX2_settle_45 rfl hl 1 rfl ?_
      refine x_getf X in_X2_settle_X2 (cw_o4 _ _ _) rfl 0 (by decide) lk_X2_settle_14 rfl rfl dX2_settle_46 ?_
      refine x_iload_n X dX2_settle_49 rfl hl 2 rfl ?_
      refine x_iload_n X dX2_settle_50 rfl hl 3 rfl ?_
      obtain ⟨v7, s6, c8, hf⟩ := x_ob_of hf
      refine x_cVv X (7 + 16) 5 (cw_row (by decide : 16 < 22)) rfl rfl (c_X5_put l D cI cZ cJ a (k := 16) (by decide) F c8) (cwV 2 X.2.2.2.2.1 gX2_settle_X5_put rfl rfl rfl (by decide +kernel) ⟨Nat.le_of_ble_eq_true rfl, Nat.le_of_ble_eq_true rfl⟩) rfl hl rfl (Nat.le_of_ble_eq_true rfl) ⟨Nat.zero_le _, Nat.zero_le _⟩ dX2_settle_51 ?_
      refine x_iload X dX2_settle_54 hl 0 rfl ?_
      exact x_iret X rfl rfl hf dX2_settle_56
    · have hf := (if_neg q1).symm.trans hf
      refine x_iload_n X dX2_settle_11 rfl hl 2 rfl ?_
      refine x_aload_n X dX2_settle_12 rfl hl 0 rfl ?_
      refine x_getf X in_X2_settle_X2 (cw_o4 _ _ _) rfl 1 (by decide) lk_X2_settle_20 rfl rfl dX2_settle_13 ?_
      refine x_iload_n X dX2_settle_16 rfl hl 1 rfl ?_
      refine x_iload X dX2_settle_17 hl 3 rfl ?_
      obtain ⟨v10, s9, c11, hf⟩ := x_ob_of hf
      refine x_cSi X (c_X2_slotOf l D cI cZ cJ a F c11) (va_cwS 2 X.2.2.2.2.1 gX2_settle_X2_slotOf rfl rfl rfl (by decide +kernel) ⟨Nat.le_of_ble_eq_true rfl, Nat.le_of_ble_eq_true rfl⟩) rfl hl rfl (Nat.le_of_ble_eq_true rfl) ⟨Nat.zero_le _, Nat.zero_le _⟩ dX2_settle_19 ?_
      obtain ⟨v13, s12, c14, hf⟩ := x_ob_of hf
      refine x_cVi X (7 + 17) 5 (cw_row (by decide : 17 < 22)) rfl rfl (c_X5_at l D cI cZ cJ a (k := 17) (by decide) F c14) (cwV 1 X.2.2.2.2.1 gX2_settle_X5_at rfl rfl rfl (by decide +kernel) ⟨Nat.le_of_ble_eq_true rfl, Nat.le_of_ble_eq_true rfl⟩) rfl hl rfl (Nat.le_of_ble_eq_true rfl) ⟨Nat.zero_le _, Nat.zero_le _⟩ dX2_settle_22 ?_
      refine x_isub X dX2_settle_25 ?_
      refine x_istore_n (lv' := [(0, .ref (a 4)), (1, .int x1), (4, .int x4)]) X dX2_settle_26 rfl hl (by decide) (fun _ => rfl) (fun x3_15 ls ex3_15 hl => ?_)
      have hf := x_oi_of ex3_15 hf
      refine x_iinc (v := (x4 + (1 : Int32))) (lv' := [(4, .int (x4 + (1 : Int32))), (3, .int x3_15), (0, .ref (a 4)), (1, .int x1)]) X dX2_settle_27 hl (j := 3) rfl rfl (by decide) rfl (fun ls hl => ?_)
      refine x_goto (tgt := 5) X dX2_settle_30 rfl ?_
      exact ih x1 x3_15 (x4 + (1 : Int32)) s12 ls hf (lv_sub hl [2, 3, 1, 0] rfl)
set_option maxHeartbeats 4000000 in
set_option maxRecDepth 100000 in
theorem c_X2_settle (l : Launch) (D : va_G) (cI cZ cJ : ClassId) (a : Nat → Nat) (F : Nat) {s s' : CS} {r : Int32} {x1 x2 : Int32} (hf : r_X2_settle F x1 x2 s = some (r, s')) : x_Mi l yX2_settle wsX2_settle rm_X2_settle D (x_tys cI cZ cJ) (cwld cI a) [.ref (a 4), .int x1, .int x2] s r s' := by
  refine x_enteri (cc := cX2_settle) (nL := 5) (ty := .int) (own := RX2) (by decide) rfl rfl (Nat.le_of_ble_eq_true rfl) ?_
  intro p e S0 m args below meth c A X ls hl
  have hl : lv_has ls 5 [(0, .ref (a 4)), (1, .int x1), (2, .int x2)] := hl
  unfold r_X2_settle at hf
  refine x_iload_n X dX2_settle_0 rfl hl 2 rfl ?_
  refine x_istoreA_n (lv' := [(3, .int x2), (0, .ref (a 4)), (1, .int x1), (2, .int x2)]) X dX2_settle_1 rfl hl (by decide) rfl (fun ls hl => ?_)
  refine x_iconst X dX2_settle_2 xk_iconst_0 ?_
  refine x_istoreA (lv' := [(4, .int (0 : Int32)), (3, .int x2), (0, .ref (a 4)), (1, .int x1), (2, .int x2)]) X dX2_settle_3 hl (by decide) rfl (fun ls hl => ?_)
  exact b_X2_settle_5 X F F x1 x2 (0 : Int32) s ls hf (lv_sub hl [2, 3, 1, 0] rfl)
def rm_X3_lay : Room := { frames := 1, cells := 0, slots := 0, locals := 22 }
theorem in_X3_lay_X3 : ∀ w ∈ wsX30, w ∈ wsX3_lay := by decide +kernel
theorem lk_X3_lay_14 : Cond.fieldLink RX3 14 "Creditfabric$Grid" "columnOf" "LCreditfabric$Row;" ∈ wsX3_lay := by decide +kernel
theorem lk_X3_lay_20 : Cond.fieldLink RX3 20 "Creditfabric$Grid" "rowOf" "LCreditfabric$Row;" ∈ wsX3_lay := by decide +kernel
theorem lk_X3_lay_23 : Cond.fieldLink RX3 23 "Creditfabric$Grid" "columns" "I" ∈ wsX3_lay := by decide +kernel
theorem lk_X3_lay_27 : Cond.fieldLink RX3 27 "Creditfabric$Grid" "rows" "I" ∈ wsX3_lay := by decide +kernel
set_option maxHeartbeats 4000000 in
set_option maxRecDepth 100000 in
theorem b_X3_lay_23 {p : Program} {l : Launch} {e : Env} {S0 : State} {m : MethodId} {args : Array Value} {below : List Frame} {meth : Method} {c : Code} {A : Nat → Prop} {D : va_G} {cI cZ cJ : ClassId} {a : Nat → Nat} (X : x_X p S0 m args meth c cX3_lay 5 none RX3 wsX3_lay D (x_tys cI cZ cJ) A) (F : Nat) {r : Int32} {s' : CS} (K12 : Int32 → CS → Option (Int32 × CS)) (hK12 : ∀ (x3 : Int32) (s : CS) (ls : Array Slot), K12 x3 s = some (r, s') → lv_has ls 5 [(0, .ref (a 1)), (3, .int x3)] → x_W p l e rm_X3_lay S0 m args below meth c A D (cwld cI a) 0 0 (x_Rv below args S0 A D (cwld cI a) s') s (F0 m 12 ls [])) : ∀ (n : Nat) (x3 x4 : Int32) (s : CS) (ls : Array Slot), r_X3_lay_b23 K12 F n x3 x4 s = some (r, s') → lv_has ls 5 [(0, .ref (a 1)), (3, .int x3), (4, .int x4)] → x_W p l e rm_X3_lay S0 m args below meth c A D (cwld cI a) 0 0 (x_Rv below args S0 A D (cwld cI a) s') s (F0 m 23 ls []) := by
  intro n
  induction n with
  | zero =>
    intro x3 x4 s ls hf hl
    have hf : (none : Option (Int32 × CS)) = some (r, s') := hf
    cases hf
  | succ n ih =>
    intro x3 x4 s ls hf hl
    rw [r_X3_lay_b23_s] at hf
    refine x_iload X dX3_lay_23 hl 2 rfl ?_
    refine x_aload_n X dX3_lay_25 rfl hl 0 rfl ?_
    refine x_getf X in_X3_lay_X3 (cw_o1 _ _ _) rfl 2 (by decide) lk_X3_lay_23 rfl rfl dX3_lay_26 ?_
    refine x_icmp_ge (tgt := 73) X dX3_lay_29 rfl (fun q4 => ?_) (fun q4 => ?_)
    · have hf := (if_pos q4).symm.trans hf
      refine x_iinc (v := (x3 + (1 : Int32))) (lv' := [(3, .int (x3 + (1 : Int32))), (0, .ref (a 1)), (4, .int x4)]) X dX3_lay_73 hl (j := 1) rfl rfl (by decide) rfl (fun ls hl => ?_)
      refine x_goto (tgt := 12) X dX3_lay_76 rfl ?_
      exact hK12 (x3 + (1 : Int32)) s ls hf (lv_sub hl [1, 0] rfl)
    · have hf := (if_neg q4).symm.trans hf
      refine x_aload_n X dX3_lay_32 rfl hl 0 rfl ?_
      refine x_getf X in_X3_lay_X3 (cw_o1 _ _ _) rfl 0 (by decide) lk_X3_lay_14 rfl rfl dX3_lay_33 ?_
      refine x_iload_n X dX3_lay_36 rfl hl 1 rfl ?_
      refine x_aload_n X dX3_lay_37 rfl hl 0 rfl ?_
      refine x_getf X in_X3_lay_X3 (cw_o1 _ _ _) rfl 2 (by decide) lk_X3_lay_23 rfl rfl dX3_lay_38 ?_
      refine x_imul X dX3_lay_41 ?_
      refine x_iload X dX3_lay_42 hl 2 rfl ?_
      refine x_iadd X dX3_lay_44 ?_
      refine x_iload X dX3_lay_45 hl 2 rfl ?_
      obtain ⟨v6, s5, c7, hf⟩ := x_ob_of hf
      refine x_cVv X (7 + 4) 5 (cw_row (by decide : 4 < 22)) rfl rfl (c_X5_put l D cI cZ cJ a (k := 4) (by decide) F c7) (cwV 2 X.2.2.2.2.1 gX3_lay_X5_put rfl rfl rfl (by decide +kernel) ⟨Nat.le_of_ble_eq_true rfl, Nat.le_of_ble_eq_true rfl⟩) rfl hl rfl (Nat.le_of_ble_eq_true rfl) ⟨Nat.zero_le _, Nat.zero_le _⟩ dX3_lay_47 ?_
      refine x_aload_n X dX3_lay_50 rfl hl 0 rfl ?_
      refine x_getf X in_X3_lay_X3 (cw_o1 _ _ _) rfl 1 (by decide) lk_X3_lay_20 rfl rfl dX3_lay_51 ?_
      refine x_iload_n X dX3_lay_54 rfl hl 1 rfl ?_
      refine x_aload_n X dX3_lay_55 rfl hl 0 rfl ?_
      refine x_getf X in_X3_lay_X3 (cw_o1 _ _ _) rfl 2 (by decide) lk_X3_lay_23 rfl rfl dX3_lay_56 ?_
      refine x_imul X dX3_lay_59 ?_
      refine x_iload X dX3_lay_60 hl 2 rfl ?_
      refine x_iadd X dX3_lay_62 ?_
      refine x_iload_n X dX3_lay_63 rfl hl 1 rfl ?_
      obtain ⟨v9, s8, c10, hf⟩ := x_ob_of hf
      refine x_cVv X (7 + 5) 5 (cw_row (by decide : 5 < 22)) rfl rfl (c_X5_put l D cI cZ cJ a (k := 5) (by decide) F c10) (cwV 2 X.2.2.2.2.1 gX3_lay_X5_put rfl rfl rfl (by decide +kernel) ⟨Nat.le_of_ble_eq_true rfl, Nat.le_of_ble_eq_true rfl⟩) rfl hl rfl (Nat.le_of_ble_eq_true rfl) ⟨Nat.zero_le _, Nat.zero_le _⟩ dX3_lay_64 ?_
      refine x_iinc (v := (x4 + (1 : Int32))) (lv' := [(4, .int (x4 + (1 : Int32))), (0, .ref (a 1)), (3, .int x3)]) X dX3_lay_67 hl (j := 2) rfl rfl (by decide) rfl (fun ls hl => ?_)
      refine x_goto (tgt := 23) X dX3_lay_70 rfl ?_
      exact ih x3 (x4 + (1 : Int32)) s8 ls hf (lv_sub hl [1, 2, 0] rfl)
set_option maxHeartbeats 4000000 in
set_option maxRecDepth 100000 in
theorem b_X3_lay_12 {p : Program} {l : Launch} {e : Env} {S0 : State} {m : MethodId} {args : Array Value} {below : List Frame} {meth : Method} {c : Code} {A : Nat → Prop} {D : va_G} {cI cZ cJ : ClassId} {a : Nat → Nat} (X : x_X p S0 m args meth c cX3_lay 5 none RX3 wsX3_lay D (x_tys cI cZ cJ) A) (F : Nat) {r : Int32} {s' : CS}  : ∀ (n : Nat) (x3 : Int32) (s : CS) (ls : Array Slot), r_X3_lay_b12 F n x3 s = some (r, s') → lv_has ls 5 [(0, .ref (a 1)), (3, .int x3)] → x_W p l e rm_X3_lay S0 m args below meth c A D (cwld cI a) 0 0 (x_Rv below args S0 A D (cwld cI a) s') s (F0 m 12 ls []) := by
  intro n
  induction n with
  | zero =>
    intro x3 s ls hf hl
    have hf : (none : Option (Int32 × CS)) = some (r, s') := hf
    cases hf
  | succ n ih =>
    intro x3 s ls hf hl
    rw [r_X3_lay_b12_s] at hf
    refine x_iload_n X dX3_lay_12 rfl hl 1 rfl ?_
    refine x_aload_n X dX3_lay_13 rfl hl 0 rfl ?_
    refine x_getf X in_X3_lay_X3 (cw_o1 _ _ _) rfl 3 (by decide) lk_X3_lay_27 rfl rfl dX3_lay_14 ?_
    refine x_icmp_ge (tgt := 79) X dX3_lay_17 rfl (fun q3 => ?_) (fun q3 => ?_)
    · have hf := (if_pos q3).symm.trans hf
      exact x_vret X rfl hf dX3_lay_79
    · have hf := (if_neg q3).symm.trans hf
      refine x_iconst X dX3_lay_20 xk_iconst_0 ?_
      refine x_istoreA (lv' := [(4, .int (0 : Int32)), (0, .ref (a 1)), (3, .int x3)]) X dX3_lay_21 hl (by decide) rfl (fun ls hl => ?_)
      exact b_X3_lay_23 X F _ ih F x3 (0 : Int32) s ls hf (lv_sub hl [1, 2, 0] rfl)
set_option maxHeartbeats 4000000 in
set_option maxRecDepth 100000 in
theorem c_X3_lay (l : Launch) (D : va_G) (cI cZ cJ : ClassId) (a : Nat → Nat) (F : Nat) {s s' : CS} {r : Int32} {x1 x2 : Int32} (hf : r_X3_lay F x1 x2 s = some (r, s')) : x_Mv l yX3_lay wsX3_lay rm_X3_lay D (x_tys cI cZ cJ) (cwld cI a) [.ref (a 1), .int x1, .int x2] s s' := by
  refine x_enterv (cc := cX3_lay) (nL := 5) (own := RX3) (by decide) rfl rfl (Nat.le_of_ble_eq_true rfl) ?_
  intro p e S0 m args below meth c A X ls hl
  have hl : lv_has ls 5 [(0, .ref (a 1)), (1, .int x1), (2, .int x2)] := hl
  unfold r_X3_lay at hf
  refine x_aload_n X dX3_lay_0 rfl hl 0 rfl ?_
  refine x_iload_n X dX3_lay_1 rfl hl 1 rfl ?_
  refine x_puti X in_X3_lay_X3 (cw_o1 _ _ _) rfl 2 (by decide) tyX3 tyX3_ok nmX3 lk_X3_lay_23 rfl rfl (by decide +kernel) (Nat.le_of_ble_eq_true rfl) (cw_s2 _ _ _ _) dX3_lay_2 (fun s1 es1 => ?_)
  have hf := x_os_of es1 hf
  refine x_aload_n X dX3_lay_5 rfl hl 0 rfl ?_
  refine x_iload_n X dX3_lay_6 rfl hl 2 rfl ?_
  refine x_puti X in_X3_lay_X3 (cw_o1 _ _ _) rfl 3 (by decide) tyX3 tyX3_ok nmX3 lk_X3_lay_27 rfl rfl (by decide +kernel) (Nat.le_of_ble_eq_true rfl) (cw_s3 _ _ _ _) dX3_lay_7 (fun s2 es2 => ?_)
  have hf := x_os_of es2 hf
  refine x_iconst X dX3_lay_10 xk_iconst_0 ?_
  refine x_istoreA_n (lv' := [(3, .int (0 : Int32)), (0, .ref (a 1)), (1, .int x1), (2, .int x2)]) X dX3_lay_11 rfl hl (by decide) rfl (fun ls hl => ?_)
  exact b_X3_lay_12 X F F (0 : Int32) s2 ls hf (lv_sub hl [1, 0] rfl)
def rm_X3_has : Room := { frames := 1, cells := 0, slots := 0, locals := 20 }
set_option maxHeartbeats 4000000 in
set_option maxRecDepth 100000 in
theorem b_X3_has_17 {p : Program} {l : Launch} {e : Env} {S0 : State} {m : MethodId} {args : Array Value} {below : List Frame} {meth : Method} {c : Code} {A : Nat → Prop} {D : va_G} {cI cZ cJ : ClassId} {a : Nat → Nat} (X : x_X p S0 m args meth c cX3_has 2 (some .boolean) RX3 wsX3_has D (x_tys cI cZ cJ) A) (F : Nat) {r : Int32} {s' : CS}  : ∀ (t0 : Int32) (s : CS) (ls : Array Slot), r_X3_has_b17 F t0 s = some (r, s') → lv_has ls 2 [] → x_W p l e rm_X3_has S0 m args below meth c A D (cwld cI a) 0 0 (x_Ri below args S0 A D (cwld cI a) r s') s (F0 m 17 ls [.int t0]) := by
  intro t0 s ls hf hl
  unfold r_X3_has_b17 at hf
  obtain ⟨g2, hf⟩ := x_og_of hf
  exact x_iret X rfl (x_bo_of g2) hf dX3_has_17
set_option maxHeartbeats 4000000 in
set_option maxRecDepth 100000 in
theorem b_X3_has_16 {p : Program} {l : Launch} {e : Env} {S0 : State} {m : MethodId} {args : Array Value} {below : List Frame} {meth : Method} {c : Code} {A : Nat → Prop} {D : va_G} {cI cZ cJ : ClassId} {a : Nat → Nat} (X : x_X p S0 m args meth c cX3_has 2 (some .boolean) RX3 wsX3_has D (x_tys cI cZ cJ) A) (F : Nat) {r : Int32} {s' : CS}  : ∀ (s : CS) (ls : Array Slot), r_X3_has_b16 F s = some (r, s') → lv_has ls 2 [] → x_W p l e rm_X3_has S0 m args below meth c A D (cwld cI a) 0 0 (x_Ri below args S0 A D (cwld cI a) r s') s (F0 m 16 ls []) := by
  intro s ls hf hl
  unfold r_X3_has_b16 at hf
  refine x_iconst X dX3_has_16 xk_iconst_0 ?_
  exact b_X3_has_17 X F (0 : Int32) s ls hf (lv_sub hl [] rfl)
set_option maxHeartbeats 4000000 in
set_option maxRecDepth 100000 in
theorem c_X3_has (l : Launch) (D : va_G) (cI cZ cJ : ClassId) (a : Nat → Nat) (F : Nat) {s s' : CS} {r : Int32} {x1 : Int32} (hf : r_X3_has F x1 s = some (r, s')) : x_Mi l yX3_has wsX3_has rm_X3_has D (x_tys cI cZ cJ) (cwld cI a) [.ref (a 1), .int x1] s r s' := by
  refine x_enteri (cc := cX3_has) (nL := 2) (ty := .boolean) (own := RX3) (by decide) rfl rfl (Nat.le_of_ble_eq_true rfl) ?_
  intro p e S0 m args below meth c A X ls hl
  have hl : lv_has ls 2 [(0, .ref (a 1)), (1, .int x1)] := hl
  unfold r_X3_has at hf
  refine x_iload_n X dX3_has_0 rfl hl 1 rfl ?_
  refine x_if_lt (tgt := 16) X dX3_has_1 rfl (fun q1 => ?_) (fun q1 => ?_)
  · have hf := (if_pos q1).symm.trans hf
    exact b_X3_has_16 X F s ls hf (lv_sub hl [] rfl)
  · have hf := (if_neg q1).symm.trans hf
    refine x_iload_n X dX3_has_4 rfl hl 1 rfl ?_
    refine x_aload_n X dX3_has_5 rfl hl 0 rfl ?_
    obtain ⟨v4, s3, c5, hf⟩ := x_ob_of hf
    refine x_cVi X 1 3 (cw_o1 _ _ _) rfl rfl (c_X3_size l D cI cZ cJ a F c5) (cwV 0 X.2.2.2.2.1 gX3_has_X3_size rfl rfl rfl (by decide +kernel) ⟨Nat.le_of_ble_eq_true rfl, Nat.le_of_ble_eq_true rfl⟩) rfl hl rfl (Nat.le_of_ble_eq_true rfl) ⟨Nat.zero_le _, Nat.zero_le _⟩ dX3_has_6 ?_
    refine x_icmp_ge (tgt := 16) X dX3_has_9 rfl (fun q6 => ?_) (fun q6 => ?_)
    · have hf := (if_pos q6).symm.trans hf
      exact b_X3_has_16 X F s3 ls hf (lv_sub hl [] rfl)
    · have hf := (if_neg q6).symm.trans hf
      refine x_iconst X dX3_has_12 xk_iconst_1 ?_
      refine x_goto (tgt := 17) X dX3_has_13 rfl ?_
      exact b_X3_has_17 X F (1 : Int32) s3 ls hf (lv_sub hl [] rfl)
def rm_X4_clear : Room := { frames := 0, cells := 0, slots := 0, locals := 0 }
theorem in_X4_clear_X4 : ∀ w ∈ wsX40, w ∈ wsX4_clear := by decide +kernel
theorem lk_X4_clear_45 : Cond.fieldLink RX4 45 "Creditfabric$Packets" "count" "I" ∈ wsX4_clear := by decide +kernel
theorem lk_X4_clear_49 : Cond.fieldLink RX4 49 "Creditfabric$Packets" "gone" "I" ∈ wsX4_clear := by decide +kernel
set_option maxHeartbeats 4000000 in
set_option maxRecDepth 100000 in
theorem c_X4_clear (l : Launch) (D : va_G) (cI cZ cJ : ClassId) (a : Nat → Nat) (F : Nat) {s s' : CS} {r : Int32} (hf : r_X4_clear F s = some (r, s')) : x_Mv l yX4_clear wsX4_clear rm_X4_clear D (x_tys cI cZ cJ) (cwld cI a) [.ref (a 2)] s s' := by
  refine x_enterv (cc := cX4_clear) (nL := 1) (own := RX4) (by decide) rfl rfl (Nat.le_of_ble_eq_true rfl) ?_
  intro p e S0 m args below meth c A X ls hl
  have hl : lv_has ls 1 [(0, .ref (a 2))] := hl
  unfold r_X4_clear at hf
  refine x_aload_n X dX4_clear_0 rfl hl 0 rfl ?_
  refine x_iconst X dX4_clear_1 xk_iconst_0 ?_
  refine x_puti X in_X4_clear_X4 (cw_o2 _ _ _) rfl 9 (by decide) tyX4 tyX4_ok nmX4 lk_X4_clear_45 rfl rfl (by decide +kernel) (Nat.le_of_ble_eq_true rfl) (cw_s4 _ _ _ _) dX4_clear_2 (fun s1 es1 => ?_)
  have hf := x_os_of es1 hf
  refine x_aload_n X dX4_clear_5 rfl hl 0 rfl ?_
  refine x_iconst X dX4_clear_6 xk_iconst_0 ?_
  refine x_puti X in_X4_clear_X4 (cw_o2 _ _ _) rfl 10 (by decide) tyX4 tyX4_ok nmX4 lk_X4_clear_49 rfl rfl (by decide +kernel) (Nat.le_of_ble_eq_true rfl) (cw_s5 _ _ _ _) dX4_clear_7 (fun s2 es2 => ?_)
  have hf := x_os_of es2 hf
  exact x_vret X rfl hf dX4_clear_10
def rm_X4_add : Room := { frames := 1, cells := 0, slots := 0, locals := 22 }
theorem in_X4_add_X4 : ∀ w ∈ wsX40, w ∈ wsX4_add := by decide +kernel
theorem lk_X4_add_14 : Cond.fieldLink RX4 14 "Creditfabric$Packets" "sources" "LCreditfabric$Row;" ∈ wsX4_add := by decide +kernel
theorem lk_X4_add_20 : Cond.fieldLink RX4 20 "Creditfabric$Packets" "goals" "LCreditfabric$Row;" ∈ wsX4_add := by decide +kernel
theorem lk_X4_add_23 : Cond.fieldLink RX4 23 "Creditfabric$Packets" "lanes" "LCreditfabric$Row;" ∈ wsX4_add := by decide +kernel
theorem lk_X4_add_26 : Cond.fieldLink RX4 26 "Creditfabric$Packets" "modes" "LCreditfabric$Row;" ∈ wsX4_add := by decide +kernel
theorem lk_X4_add_29 : Cond.fieldLink RX4 29 "Creditfabric$Packets" "places" "LCreditfabric$Row;" ∈ wsX4_add := by decide +kernel
theorem lk_X4_add_32 : Cond.fieldLink RX4 32 "Creditfabric$Packets" "inputs" "LCreditfabric$Row;" ∈ wsX4_add := by decide +kernel
theorem lk_X4_add_35 : Cond.fieldLink RX4 35 "Creditfabric$Packets" "hopsGone" "LCreditfabric$Row;" ∈ wsX4_add := by decide +kernel
theorem lk_X4_add_38 : Cond.fieldLink RX4 38 "Creditfabric$Packets" "marks" "LCreditfabric$Row;" ∈ wsX4_add := by decide +kernel
theorem lk_X4_add_45 : Cond.fieldLink RX4 45 "Creditfabric$Packets" "count" "I" ∈ wsX4_add := by decide +kernel
set_option maxHeartbeats 4000000 in
set_option maxRecDepth 100000 in
theorem c_X4_add (l : Launch) (D : va_G) (cI cZ cJ : ClassId) (a : Nat → Nat) (F : Nat) {s s' : CS} {r : Int32} {x1 x2 x3 x4 : Int32} (hf : r_X4_add F x1 x2 x3 x4 s = some (r, s')) : x_Mi l yX4_add wsX4_add rm_X4_add D (x_tys cI cZ cJ) (cwld cI a) [.ref (a 2), .int x1, .int x2, .int x3, .int x4] s r s' := by
  refine x_enteri (cc := cX4_add) (nL := 6) (ty := .int) (own := RX4) (by decide) rfl rfl (Nat.le_of_ble_eq_true rfl) ?_
  intro p e S0 m args below meth c A X ls hl
  have hl : lv_has ls 6 [(0, .ref (a 2)), (1, .int x1), (2, .int x2), (3, .int x3), (4, .int x4)] := hl
  unfold r_X4_add at hf
  refine x_aload_n X dX4_add_0 rfl hl 0 rfl ?_
  refine x_getf X in_X4_add_X4 (cw_o2 _ _ _) rfl 9 (by decide) lk_X4_add_45 rfl rfl dX4_add_1 ?_
  refine x_istore (lv' := [(0, .ref (a 2)), (1, .int x1), (2, .int x2), (3, .int x3), (4, .int x4)]) X dX4_add_4 hl (by decide) (fun _ => rfl) (fun x5_1 ls ex5_1 hl => ?_)
  have hf := x_oi_of ex5_1 hf
  refine x_aload_n X dX4_add_6 rfl hl 1 rfl ?_
  refine x_getf X in_X4_add_X4 (cw_o2 _ _ _) rfl 1 (by decide) lk_X4_add_14 rfl rfl dX4_add_7 ?_
  refine x_iload X dX4_add_10 hl 0 rfl ?_
  refine x_iload_n X dX4_add_12 rfl hl 2 rfl ?_
  obtain ⟨v3, s2, c4, hf⟩ := x_ob_of hf
  refine x_cVv X (7 + 6) 5 (cw_row (by decide : 6 < 22)) rfl rfl (c_X5_put l D cI cZ cJ a (k := 6) (by decide) F c4) (cwV 2 X.2.2.2.2.1 gX4_add_X5_put rfl rfl rfl (by decide +kernel) ⟨Nat.le_of_ble_eq_true rfl, Nat.le_of_ble_eq_true rfl⟩) rfl hl rfl (Nat.le_of_ble_eq_true rfl) ⟨Nat.zero_le _, Nat.zero_le _⟩ dX4_add_13 ?_
  refine x_aload_n X dX4_add_16 rfl hl 1 rfl ?_
  refine x_getf X in_X4_add_X4 (cw_o2 _ _ _) rfl 2 (by decide) lk_X4_add_20 rfl rfl dX4_add_17 ?_
  refine x_iload X dX4_add_20 hl 0 rfl ?_
  refine x_iload_n X dX4_add_22 rfl hl 3 rfl ?_
  obtain ⟨v6, s5, c7, hf⟩ := x_ob_of hf
  refine x_cVv X (7 + 7) 5 (cw_row (by decide : 7 < 22)) rfl rfl (c_X5_put l D cI cZ cJ a (k := 7) (by decide) F c7) (cwV 2 X.2.2.2.2.1 gX4_add_X5_put rfl rfl rfl (by decide +kernel) ⟨Nat.le_of_ble_eq_true rfl, Nat.le_of_ble_eq_true rfl⟩) rfl hl rfl (Nat.le_of_ble_eq_true rfl) ⟨Nat.zero_le _, Nat.zero_le _⟩ dX4_add_23 ?_
  refine x_aload_n X dX4_add_26 rfl hl 1 rfl ?_
  refine x_getf X in_X4_add_X4 (cw_o2 _ _ _) rfl 3 (by decide) lk_X4_add_23 rfl rfl dX4_add_27 ?_
  refine x_iload X dX4_add_30 hl 0 rfl ?_
  refine x_iload_n X dX4_add_32 rfl hl 4 rfl ?_
  obtain ⟨v9, s8, c10, hf⟩ := x_ob_of hf
  refine x_cVv X (7 + 8) 5 (cw_row (by decide : 8 < 22)) rfl rfl (c_X5_put l D cI cZ cJ a (k := 8) (by decide) F c10) (cwV 2 X.2.2.2.2.1 gX4_add_X5_put rfl rfl rfl (by decide +kernel) ⟨Nat.le_of_ble_eq_true rfl, Nat.le_of_ble_eq_true rfl⟩) rfl hl rfl (Nat.le_of_ble_eq_true rfl) ⟨Nat.zero_le _, Nat.zero_le _⟩ dX4_add_33 ?_
  refine x_aload_n X dX4_add_36 rfl hl 1 rfl ?_
  refine x_getf X in_X4_add_X4 (cw_o2 _ _ _) rfl 4 (by decide) lk_X4_add_26 rfl rfl dX4_add_37 ?_
  refine x_iload X dX4_add_40 hl 0 rfl ?_
  refine x_iload X dX4_add_42 hl 5 rfl ?_
  obtain ⟨v12, s11, c13, hf⟩ := x_ob_of hf
  refine x_cVv X (7 + 9) 5 (cw_row (by decide : 9 < 22)) rfl rfl (c_X5_put l D cI cZ cJ a (k := 9) (by decide) F c13) (cwV 2 X.2.2.2.2.1 gX4_add_X5_put rfl rfl rfl (by decide +kernel) ⟨Nat.le_of_ble_eq_true rfl, Nat.le_of_ble_eq_true rfl⟩) rfl hl rfl (Nat.le_of_ble_eq_true rfl) ⟨Nat.zero_le _, Nat.zero_le _⟩ dX4_add_44 ?_
  refine x_aload_n X dX4_add_47 rfl hl 1 rfl ?_
  refine x_getf X in_X4_add_X4 (cw_o2 _ _ _) rfl 5 (by decide) lk_X4_add_29 rfl rfl dX4_add_48 ?_
  refine x_iload X dX4_add_51 hl 0 rfl ?_
  refine x_iload_n X dX4_add_53 rfl hl 2 rfl ?_
  obtain ⟨v15, s14, c16, hf⟩ := x_ob_of hf
  refine x_cVv X (7 + 10) 5 (cw_row (by decide : 10 < 22)) rfl rfl (c_X5_put l D cI cZ cJ a (k := 10) (by decide) F c16) (cwV 2 X.2.2.2.2.1 gX4_add_X5_put rfl rfl rfl (by decide +kernel) ⟨Nat.le_of_ble_eq_true rfl, Nat.le_of_ble_eq_true rfl⟩) rfl hl rfl (Nat.le_of_ble_eq_true rfl) ⟨Nat.zero_le _, Nat.zero_le _⟩ dX4_add_54 ?_
  refine x_aload_n X dX4_add_57 rfl hl 1 rfl ?_
  refine x_getf X in_X4_add_X4 (cw_o2 _ _ _) rfl 6 (by decide) lk_X4_add_32 rfl rfl dX4_add_58 ?_
  refine x_iload X dX4_add_61 hl 0 rfl ?_
  refine x_iconst X dX4_add_63 xk_iconst_4 ?_
  obtain ⟨v18, s17, c19, hf⟩ := x_ob_of hf
  refine x_cVv X (7 + 11) 5 (cw_row (by decide : 11 < 22)) rfl rfl (c_X5_put l D cI cZ cJ a (k := 11) (by decide) F c19) (cwV 2 X.2.2.2.2.1 gX4_add_X5_put rfl rfl rfl (by decide +kernel) ⟨Nat.le_of_ble_eq_true rfl, Nat.le_of_ble_eq_true rfl⟩) rfl hl rfl (Nat.le_of_ble_eq_true rfl) ⟨Nat.zero_le _, Nat.zero_le _⟩ dX4_add_64 ?_
  refine x_aload_n X dX4_add_67 rfl hl 1 rfl ?_
  refine x_getf X in_X4_add_X4 (cw_o2 _ _ _) rfl 7 (by decide) lk_X4_add_35 rfl rfl dX4_add_68 ?_
  refine x_iload X dX4_add_71 hl 0 rfl ?_
  refine x_iconst X dX4_add_73 xk_iconst_0 ?_
  obtain ⟨v21, s20, c22, hf⟩ := x_ob_of hf
  refine x_cVv X (7 + 12) 5 (cw_row (by decide : 12 < 22)) rfl rfl (c_X5_put l D cI cZ cJ a (k := 12) (by decide) F c22) (cwV 2 X.2.2.2.2.1 gX4_add_X5_put rfl rfl rfl (by decide +kernel) ⟨Nat.le_of_ble_eq_true rfl, Nat.le_of_ble_eq_true rfl⟩) rfl hl rfl (Nat.le_of_ble_eq_true rfl) ⟨Nat.zero_le _, Nat.zero_le _⟩ dX4_add_74 ?_
  refine x_aload_n X dX4_add_77 rfl hl 1 rfl ?_
  refine x_getf X in_X4_add_X4 (cw_o2 _ _ _) rfl 8 (by decide) lk_X4_add_38 rfl rfl dX4_add_78 ?_
  refine x_iload X dX4_add_81 hl 0 rfl ?_
  refine x_iconst X dX4_add_83 xk_iconst_0 ?_
  obtain ⟨v24, s23, c25, hf⟩ := x_ob_of hf
  refine x_cVv X (7 + 13) 5 (cw_row (by decide : 13 < 22)) rfl rfl (c_X5_put l D cI cZ cJ a (k := 13) (by decide) F c25) (cwV 2 X.2.2.2.2.1 gX4_add_X5_put rfl rfl rfl (by decide +kernel) ⟨Nat.le_of_ble_eq_true rfl, Nat.le_of_ble_eq_true rfl⟩) rfl hl rfl (Nat.le_of_ble_eq_true rfl) ⟨Nat.zero_le _, Nat.zero_le _⟩ dX4_add_84 ?_
  refine x_aload_n X dX4_add_87 rfl hl 1 rfl ?_
  refine x_dup X dX4_add_88 rfl ?_
  refine x_getf X in_X4_add_X4 (cw_o2 _ _ _) rfl 9 (by decide) lk_X4_add_45 rfl rfl dX4_add_89 ?_
  refine x_iconst X dX4_add_92 xk_iconst_1 ?_
  refine x_iadd X dX4_add_93 ?_
  refine x_puti X in_X4_add_X4 (cw_o2 _ _ _) rfl 9 (by decide) tyX4 tyX4_ok nmX4 lk_X4_add_45 rfl rfl (by decide +kernel) (Nat.le_of_ble_eq_true rfl) (cw_s4 _ _ _ _) dX4_add_94 (fun s26 es26 => ?_)
  have hf := x_os_of es26 hf
  refine x_iload X dX4_add_97 hl 0 rfl ?_
  exact x_iret X rfl rfl hf dX4_add_99
def rm_X4_goOver : Room := { frames := 2, cells := 0, slots := 0, locals := 44 }
theorem in_X4_goOver_X4 : ∀ w ∈ wsX40, w ∈ wsX4_goOver := by decide +kernel
theorem lk_X4_goOver_29 : Cond.fieldLink RX4 29 "Creditfabric$Packets" "places" "LCreditfabric$Row;" ∈ wsX4_goOver := by decide +kernel
theorem lk_X4_goOver_32 : Cond.fieldLink RX4 32 "Creditfabric$Packets" "inputs" "LCreditfabric$Row;" ∈ wsX4_goOver := by decide +kernel
theorem lk_X4_goOver_35 : Cond.fieldLink RX4 35 "Creditfabric$Packets" "hopsGone" "LCreditfabric$Row;" ∈ wsX4_goOver := by decide +kernel
set_option maxHeartbeats 4000000 in
set_option maxRecDepth 100000 in
theorem c_X4_goOver (l : Launch) (D : va_G) (cI cZ cJ : ClassId) (a : Nat → Nat) (F : Nat) {s s' : CS} {r : Int32} {x1 x2 x3 : Int32} (hf : r_X4_goOver F x1 x2 x3 s = some (r, s')) : x_Mv l yX4_goOver wsX4_goOver rm_X4_goOver D (x_tys cI cZ cJ) (cwld cI a) [.ref (a 2), .int x1, .int x2, .int x3] s s' := by
  refine x_enterv (cc := cX4_goOver) (nL := 4) (own := RX4) (by decide) rfl rfl (Nat.le_of_ble_eq_true rfl) ?_
  intro p e S0 m args below meth c A X ls hl
  have hl : lv_has ls 4 [(0, .ref (a 2)), (1, .int x1), (2, .int x2), (3, .int x3)] := hl
  unfold r_X4_goOver at hf
  refine x_aload_n X dX4_goOver_0 rfl hl 0 rfl ?_
  refine x_getf X in_X4_goOver_X4 (cw_o2 _ _ _) rfl 5 (by decide) lk_X4_goOver_29 rfl rfl dX4_goOver_1 ?_
  refine x_iload_n X dX4_goOver_4 rfl hl 1 rfl ?_
  refine x_iload_n X dX4_goOver_5 rfl hl 2 rfl ?_
  obtain ⟨v2, s1, c3, hf⟩ := x_ob_of hf
  refine x_cVv X (7 + 10) 5 (cw_row (by decide : 10 < 22)) rfl rfl (c_X5_put l D cI cZ cJ a (k := 10) (by decide) F c3) (cwV 2 X.2.2.2.2.1 gX4_goOver_X5_put rfl rfl rfl (by decide +kernel) ⟨Nat.le_of_ble_eq_true rfl, Nat.le_of_ble_eq_true rfl⟩) rfl hl rfl (Nat.le_of_ble_eq_true rfl) ⟨Nat.zero_le _, Nat.zero_le _⟩ dX4_goOver_6 ?_
  refine x_aload_n X dX4_goOver_9 rfl hl 0 rfl ?_
  refine x_getf X in_X4_goOver_X4 (cw_o2 _ _ _) rfl 6 (by decide) lk_X4_goOver_32 rfl rfl dX4_goOver_10 ?_
  refine x_iload_n X dX4_goOver_13 rfl hl 1 rfl ?_
  refine x_iload_n X dX4_goOver_14 rfl hl 3 rfl ?_
  obtain ⟨v5, s4, c6, hf⟩ := x_ob_of hf
  refine x_cVv X (7 + 11) 5 (cw_row (by decide : 11 < 22)) rfl rfl (c_X5_put l D cI cZ cJ a (k := 11) (by decide) F c6) (cwV 2 X.2.2.2.2.1 gX4_goOver_X5_put rfl rfl rfl (by decide +kernel) ⟨Nat.le_of_ble_eq_true rfl, Nat.le_of_ble_eq_true rfl⟩) rfl hl rfl (Nat.le_of_ble_eq_true rfl) ⟨Nat.zero_le _, Nat.zero_le _⟩ dX4_goOver_15 ?_
  refine x_aload_n X dX4_goOver_18 rfl hl 0 rfl ?_
  refine x_getf X in_X4_goOver_X4 (cw_o2 _ _ _) rfl 7 (by decide) lk_X4_goOver_35 rfl rfl dX4_goOver_19 ?_
  refine x_iload_n X dX4_goOver_22 rfl hl 1 rfl ?_
  refine x_iconst X dX4_goOver_23 xk_iconst_1 ?_
  obtain ⟨v8, s7, c9, hf⟩ := x_ob_of hf
  refine x_cVv X (7 + 12) 5 (cw_row (by decide : 12 < 22)) rfl rfl (c_X5_add l D cI cZ cJ a (k := 12) (by decide) F c9) (cwV 2 X.2.2.2.2.1 gX4_goOver_X5_add rfl rfl rfl (by decide +kernel) ⟨Nat.le_of_ble_eq_true rfl, Nat.le_of_ble_eq_true rfl⟩) rfl hl rfl (Nat.le_of_ble_eq_true rfl) ⟨Nat.zero_le _, Nat.zero_le _⟩ dX4_goOver_24 ?_
  exact x_vret X rfl hf dX4_goOver_27
def rm_X4_goOut : Room := { frames := 1, cells := 0, slots := 0, locals := 22 }
theorem in_X4_goOut_X4 : ∀ w ∈ wsX40, w ∈ wsX4_goOut := by decide +kernel
theorem lk_X4_goOut_29 : Cond.fieldLink RX4 29 "Creditfabric$Packets" "places" "LCreditfabric$Row;" ∈ wsX4_goOut := by decide +kernel
theorem lk_X4_goOut_49 : Cond.fieldLink RX4 49 "Creditfabric$Packets" "gone" "I" ∈ wsX4_goOut := by decide +kernel
set_option maxHeartbeats 4000000 in
set_option maxRecDepth 100000 in
theorem c_X4_goOut (l : Launch) (D : va_G) (cI cZ cJ : ClassId) (a : Nat → Nat) (F : Nat) {s s' : CS} {r : Int32} {x1 : Int32} (hf : r_X4_goOut F x1 s = some (r, s')) : x_Mv l yX4_goOut wsX4_goOut rm_X4_goOut D (x_tys cI cZ cJ) (cwld cI a) [.ref (a 2), .int x1] s s' := by
  refine x_enterv (cc := cX4_goOut) (nL := 2) (own := RX4) (by decide) rfl rfl (Nat.le_of_ble_eq_true rfl) ?_
  intro p e S0 m args below meth c A X ls hl
  have hl : lv_has ls 2 [(0, .ref (a 2)), (1, .int x1)] := hl
  unfold r_X4_goOut at hf
  refine x_aload_n X dX4_goOut_0 rfl hl 0 rfl ?_
  refine x_getf X in_X4_goOut_X4 (cw_o2 _ _ _) rfl 5 (by decide) lk_X4_goOut_29 rfl rfl dX4_goOut_1 ?_
  refine x_iload_n X dX4_goOut_4 rfl hl 1 rfl ?_
  refine x_iconst X dX4_goOut_5 xk_iconst_m1 ?_
  obtain ⟨v2, s1, c3, hf⟩ := x_ob_of hf
  refine x_cVv X (7 + 10) 5 (cw_row (by decide : 10 < 22)) rfl rfl (c_X5_put l D cI cZ cJ a (k := 10) (by decide) F c3) (cwV 2 X.2.2.2.2.1 gX4_goOut_X5_put rfl rfl rfl (by decide +kernel) ⟨Nat.le_of_ble_eq_true rfl, Nat.le_of_ble_eq_true rfl⟩) rfl hl rfl (Nat.le_of_ble_eq_true rfl) ⟨Nat.zero_le _, Nat.zero_le _⟩ dX4_goOut_6 ?_
  refine x_aload_n X dX4_goOut_9 rfl hl 0 rfl ?_
  refine x_dup X dX4_goOut_10 rfl ?_
  refine x_getf X in_X4_goOut_X4 (cw_o2 _ _ _) rfl 10 (by decide) lk_X4_goOut_49 rfl rfl dX4_goOut_11 ?_
  refine x_iconst X dX4_goOut_14 xk_iconst_1 ?_
  refine x_iadd X dX4_goOut_15 ?_
  refine x_puti X in_X4_goOut_X4 (cw_o2 _ _ _) rfl 10 (by decide) tyX4 tyX4_ok nmX4 lk_X4_goOut_49 rfl rfl (by decide +kernel) (Nat.le_of_ble_eq_true rfl) (cw_s5 _ _ _ _) dX4_goOut_16 (fun s4 es4 => ?_)
  have hf := x_os_of es4 hf
  exact x_vret X rfl hf dX4_goOut_19
def rm_X6_clear : Room := { frames := 1, cells := 0, slots := 0, locals := 22 }
theorem in_X6_clear_X6 : ∀ w ∈ wsX60, w ∈ wsX6_clear := by decide +kernel
theorem lk_X6_clear_14 : Cond.fieldLink RX6 14 "Creditfabric$Senders" "gaps" "LCreditfabric$Row;" ∈ wsX6_clear := by decide +kernel
theorem lk_X6_clear_20 : Cond.fieldLink RX6 20 "Creditfabric$Senders" "lastTicks" "LCreditfabric$Row;" ∈ wsX6_clear := by decide +kernel
set_option maxHeartbeats 4000000 in
set_option maxRecDepth 100000 in
theorem c_X6_clear (l : Launch) (D : va_G) (cI cZ cJ : ClassId) (a : Nat → Nat) (F : Nat) {s s' : CS} {r : Int32} (hf : r_X6_clear F s = some (r, s')) : x_Mv l yX6_clear wsX6_clear rm_X6_clear D (x_tys cI cZ cJ) (cwld cI a) [.ref (a 5)] s s' := by
  refine x_enterv (cc := cX6_clear) (nL := 1) (own := RX6) (by decide) rfl rfl (Nat.le_of_ble_eq_true rfl) ?_
  intro p e S0 m args below meth c A X ls hl
  have hl : lv_has ls 1 [(0, .ref (a 5))] := hl
  unfold r_X6_clear at hf
  refine x_aload_n X dX6_clear_0 rfl hl 0 rfl ?_
  refine x_getf X in_X6_clear_X6 (cw_o5 _ _ _) rfl 0 (by decide) lk_X6_clear_14 rfl rfl dX6_clear_1 ?_
  refine x_iconst X dX6_clear_4 xk_iconst_1 ?_
  obtain ⟨v2, s1, c3, hf⟩ := x_ob_of hf
  refine x_cVv X (7 + 18) 5 (cw_row (by decide : 18 < 22)) rfl rfl (c_X5_fill l D cI cZ cJ a (k := 18) (by decide) F c3) (cwV 1 X.2.2.2.2.1 gX6_clear_X5_fill rfl rfl rfl (by decide +kernel) ⟨Nat.le_of_ble_eq_true rfl, Nat.le_of_ble_eq_true rfl⟩) rfl hl rfl (Nat.le_of_ble_eq_true rfl) ⟨Nat.zero_le _, Nat.zero_le _⟩ dX6_clear_5 ?_
  refine x_aload_n X dX6_clear_8 rfl hl 0 rfl ?_
  refine x_getf X in_X6_clear_X6 (cw_o5 _ _ _) rfl 1 (by decide) lk_X6_clear_20 rfl rfl dX6_clear_9 ?_
  refine x_iconst X dX6_clear_12 xk_iconst_m1 ?_
  obtain ⟨v5, s4, c6, hf⟩ := x_ob_of hf
  refine x_cVv X (7 + 19) 5 (cw_row (by decide : 19 < 22)) rfl rfl (c_X5_fill l D cI cZ cJ a (k := 19) (by decide) F c6) (cwV 1 X.2.2.2.2.1 gX6_clear_X5_fill rfl rfl rfl (by decide +kernel) ⟨Nat.le_of_ble_eq_true rfl, Nat.le_of_ble_eq_true rfl⟩) rfl hl rfl (Nat.le_of_ble_eq_true rfl) ⟨Nat.zero_le _, Nat.zero_le _⟩ dX6_clear_13 ?_
  exact x_vret X rfl hf dX6_clear_16
def rm_X6_gapOf : Room := { frames := 1, cells := 0, slots := 0, locals := 21 }
theorem in_X6_gapOf_X6 : ∀ w ∈ wsX60, w ∈ wsX6_gapOf := by decide +kernel
theorem lk_X6_gapOf_14 : Cond.fieldLink RX6 14 "Creditfabric$Senders" "gaps" "LCreditfabric$Row;" ∈ wsX6_gapOf := by decide +kernel
set_option maxHeartbeats 4000000 in
set_option maxRecDepth 100000 in
theorem c_X6_gapOf (l : Launch) (D : va_G) (cI cZ cJ : ClassId) (a : Nat → Nat) (F : Nat) {s s' : CS} {r : Int32} {x1 : Int32} (hf : r_X6_gapOf F x1 s = some (r, s')) : x_Mi l yX6_gapOf wsX6_gapOf rm_X6_gapOf D (x_tys cI cZ cJ) (cwld cI a) [.ref (a 5), .int x1] s r s' := by
  refine x_enteri (cc := cX6_gapOf) (nL := 2) (ty := .int) (own := RX6) (by decide) rfl rfl (Nat.le_of_ble_eq_true rfl) ?_
  intro p e S0 m args below meth c A X ls hl
  have hl : lv_has ls 2 [(0, .ref (a 5)), (1, .int x1)] := hl
  unfold r_X6_gapOf at hf
  refine x_aload_n X dX6_gapOf_0 rfl hl 0 rfl ?_
  refine x_getf X in_X6_gapOf_X6 (cw_o5 _ _ _) rfl 0 (by decide) lk_X6_gapOf_14 rfl rfl dX6_gapOf_1 ?_
  refine x_iload_n X dX6_gapOf_4 rfl hl 1 rfl ?_
  obtain ⟨v2, s1, c3, hf⟩ := x_ob_of hf
  refine x_cVi X (7 + 18) 5 (cw_row (by decide : 18 < 22)) rfl rfl (c_X5_at l D cI cZ cJ a (k := 18) (by decide) F c3) (cwV 1 X.2.2.2.2.1 gX6_gapOf_X5_at rfl rfl rfl (by decide +kernel) ⟨Nat.le_of_ble_eq_true rfl, Nat.le_of_ble_eq_true rfl⟩) rfl hl rfl (Nat.le_of_ble_eq_true rfl) ⟨Nat.zero_le _, Nat.zero_le _⟩ dX6_gapOf_5 ?_
  exact x_iret X rfl rfl hf dX6_gapOf_8
def rm_X6_isReady : Room := { frames := 1, cells := 0, slots := 0, locals := 21 }
theorem in_X6_isReady_X6 : ∀ w ∈ wsX60, w ∈ wsX6_isReady := by decide +kernel
theorem lk_X6_isReady_14 : Cond.fieldLink RX6 14 "Creditfabric$Senders" "gaps" "LCreditfabric$Row;" ∈ wsX6_isReady := by decide +kernel
theorem lk_X6_isReady_20 : Cond.fieldLink RX6 20 "Creditfabric$Senders" "lastTicks" "LCreditfabric$Row;" ∈ wsX6_isReady := by decide +kernel
set_option maxHeartbeats 4000000 in
set_option maxRecDepth 100000 in
theorem b_X6_isReady_33 {p : Program} {l : Launch} {e : Env} {S0 : State} {m : MethodId} {args : Array Value} {below : List Frame} {meth : Method} {c : Code} {A : Nat → Prop} {D : va_G} {cI cZ cJ : ClassId} {a : Nat → Nat} (X : x_X p S0 m args meth c cX6_isReady 4 (some .boolean) RX6 wsX6_isReady D (x_tys cI cZ cJ) A) (F : Nat) {r : Int32} {s' : CS}  : ∀ (t0 : Int32) (s : CS) (ls : Array Slot), r_X6_isReady_b33 F t0 s = some (r, s') → lv_has ls 4 [] → x_W p l e rm_X6_isReady S0 m args below meth c A D (cwld cI a) 0 0 (x_Ri below args S0 A D (cwld cI a) r s') s (F0 m 33 ls [.int t0]) := by
  intro t0 s ls hf hl
  unfold r_X6_isReady_b33 at hf
  obtain ⟨g5, hf⟩ := x_og_of hf
  exact x_iret X rfl (x_bo_of g5) hf dX6_isReady_33
set_option maxHeartbeats 4000000 in
set_option maxRecDepth 100000 in
theorem b_X6_isReady_28 {p : Program} {l : Launch} {e : Env} {S0 : State} {m : MethodId} {args : Array Value} {below : List Frame} {meth : Method} {c : Code} {A : Nat → Prop} {D : va_G} {cI cZ cJ : ClassId} {a : Nat → Nat} (X : x_X p S0 m args meth c cX6_isReady 4 (some .boolean) RX6 wsX6_isReady D (x_tys cI cZ cJ) A) (F : Nat) {r : Int32} {s' : CS}  : ∀ (s : CS) (ls : Array Slot), r_X6_isReady_b28 F s = some (r, s') → lv_has ls 4 [] → x_W p l e rm_X6_isReady S0 m args below meth c A D (cwld cI a) 0 0 (x_Ri below args S0 A D (cwld cI a) r s') s (F0 m 28 ls []) := by
  intro s ls hf hl
  unfold r_X6_isReady_b28 at hf
  refine x_iconst X dX6_isReady_28 xk_iconst_1 ?_
  refine x_goto (tgt := 33) X dX6_isReady_29 rfl ?_
  exact b_X6_isReady_33 X F (1 : Int32) s ls hf (lv_sub hl [] rfl)
set_option maxHeartbeats 4000000 in
set_option maxRecDepth 100000 in
theorem c_X6_isReady (l : Launch) (D : va_G) (cI cZ cJ : ClassId) (a : Nat → Nat) (F : Nat) {s s' : CS} {r : Int32} {x1 x2 : Int32} (hf : r_X6_isReady F x1 x2 s = some (r, s')) : x_Mi l yX6_isReady wsX6_isReady rm_X6_isReady D (x_tys cI cZ cJ) (cwld cI a) [.ref (a 5), .int x1, .int x2] s r s' := by
  refine x_enteri (cc := cX6_isReady) (nL := 4) (ty := .boolean) (own := RX6) (by decide) rfl rfl (Nat.le_of_ble_eq_true rfl) ?_
  intro p e S0 m args below meth c A X ls hl
  have hl : lv_has ls 4 [(0, .ref (a 5)), (1, .int x1), (2, .int x2)] := hl
  unfold r_X6_isReady at hf
  refine x_aload_n X dX6_isReady_0 rfl hl 0 rfl ?_
  refine x_getf X in_X6_isReady_X6 (cw_o5 _ _ _) rfl 1 (by decide) lk_X6_isReady_20 rfl rfl dX6_isReady_1 ?_
  refine x_iload_n X dX6_isReady_4 rfl hl 1 rfl ?_
  obtain ⟨v2, s1, c3, hf⟩ := x_ob_of hf
  refine x_cVi X (7 + 19) 5 (cw_row (by decide : 19 < 22)) rfl rfl (c_X5_at l D cI cZ cJ a (k := 19) (by decide) F c3) (cwV 1 X.2.2.2.2.1 gX6_isReady_X5_at rfl rfl rfl (by decide +kernel) ⟨Nat.le_of_ble_eq_true rfl, Nat.le_of_ble_eq_true rfl⟩) rfl hl rfl (Nat.le_of_ble_eq_true rfl) ⟨Nat.zero_le _, Nat.zero_le _⟩ dX6_isReady_5 ?_
  refine x_istoreA_n (lv' := [(3, .int v2), (0, .ref (a 5)), (1, .int x1), (2, .int x2)]) X dX6_isReady_8 rfl hl (by decide) rfl (fun ls hl => ?_)
  refine x_iload_n X dX6_isReady_9 rfl hl 0 rfl ?_
  refine x_iconst X dX6_isReady_10 xk_iconst_m1 ?_
  refine x_icmp_eq (tgt := 28) X dX6_isReady_11 rfl (fun q4 => ?_) (fun q4 => ?_)
  · have hf := (if_pos q4).symm.trans hf
    exact b_X6_isReady_28 X F s1 ls hf (lv_sub hl [] rfl)
  · have hf := (if_neg q4).symm.trans hf
    refine x_iload_n X dX6_isReady_14 rfl hl 3 rfl ?_
    refine x_iload_n X dX6_isReady_15 rfl hl 0 rfl ?_
    refine x_isub X dX6_isReady_16 ?_
    refine x_aload_n X dX6_isReady_17 rfl hl 1 rfl ?_
    refine x_getf X in_X6_isReady_X6 (cw_o5 _ _ _) rfl 0 (by decide) lk_X6_isReady_14 rfl rfl dX6_isReady_18 ?_
    refine x_iload_n X dX6_isReady_21 rfl hl 2 rfl ?_
    obtain ⟨v7, s6, c8, hf⟩ := x_ob_of hf
    refine x_cVi X (7 + 18) 5 (cw_row (by decide : 18 < 22)) rfl rfl (c_X5_at l D cI cZ cJ a (k := 18) (by decide) F c8) (cwV 1 X.2.2.2.2.1 gX6_isReady_X5_at rfl rfl rfl (by decide +kernel) ⟨Nat.le_of_ble_eq_true rfl, Nat.le_of_ble_eq_true rfl⟩) rfl hl rfl (Nat.le_of_ble_eq_true rfl) ⟨Nat.zero_le _, Nat.zero_le _⟩ dX6_isReady_22 ?_
    refine x_icmp_lt (tgt := 32) X dX6_isReady_25 rfl (fun q9 => ?_) (fun q9 => ?_)
    · have hf := (if_pos q9).symm.trans hf
      refine x_iconst X dX6_isReady_32 xk_iconst_0 ?_
      exact b_X6_isReady_33 X F (0 : Int32) s6 ls hf (lv_sub hl [] rfl)
    · have hf := (if_neg q9).symm.trans hf
      exact b_X6_isReady_28 X F s6 ls hf (lv_sub hl [] rfl)
def rm_X6_note : Room := { frames := 1, cells := 0, slots := 0, locals := 22 }
theorem in_X6_note_X6 : ∀ w ∈ wsX60, w ∈ wsX6_note := by decide +kernel
theorem lk_X6_note_20 : Cond.fieldLink RX6 20 "Creditfabric$Senders" "lastTicks" "LCreditfabric$Row;" ∈ wsX6_note := by decide +kernel
set_option maxHeartbeats 4000000 in
set_option maxRecDepth 100000 in
theorem c_X6_note (l : Launch) (D : va_G) (cI cZ cJ : ClassId) (a : Nat → Nat) (F : Nat) {s s' : CS} {r : Int32} {x1 x2 : Int32} (hf : r_X6_note F x1 x2 s = some (r, s')) : x_Mv l yX6_note wsX6_note rm_X6_note D (x_tys cI cZ cJ) (cwld cI a) [.ref (a 5), .int x1, .int x2] s s' := by
  refine x_enterv (cc := cX6_note) (nL := 3) (own := RX6) (by decide) rfl rfl (Nat.le_of_ble_eq_true rfl) ?_
  intro p e S0 m args below meth c A X ls hl
  have hl : lv_has ls 3 [(0, .ref (a 5)), (1, .int x1), (2, .int x2)] := hl
  unfold r_X6_note at hf
  refine x_aload_n X dX6_note_0 rfl hl 0 rfl ?_
  refine x_getf X in_X6_note_X6 (cw_o5 _ _ _) rfl 1 (by decide) lk_X6_note_20 rfl rfl dX6_note_1 ?_
  refine x_iload_n X dX6_note_4 rfl hl 1 rfl ?_
  refine x_iload_n X dX6_note_5 rfl hl 2 rfl ?_
  obtain ⟨v2, s1, c3, hf⟩ := x_ob_of hf
  refine x_cVv X (7 + 19) 5 (cw_row (by decide : 19 < 22)) rfl rfl (c_X5_put l D cI cZ cJ a (k := 19) (by decide) F c3) (cwV 2 X.2.2.2.2.1 gX6_note_X5_put rfl rfl rfl (by decide +kernel) ⟨Nat.le_of_ble_eq_true rfl, Nat.le_of_ble_eq_true rfl⟩) rfl hl rfl (Nat.le_of_ble_eq_true rfl) ⟨Nat.zero_le _, Nat.zero_le _⟩ dX6_note_6 ?_
  exact x_vret X rfl hf dX6_note_9
def rm_X6_adapt : Room := { frames := 1, cells := 0, slots := 0, locals := 22 }
theorem in_X6_adapt_X6 : ∀ w ∈ wsX60, w ∈ wsX6_adapt := by decide +kernel
theorem lk_X6_adapt_14 : Cond.fieldLink RX6 14 "Creditfabric$Senders" "gaps" "LCreditfabric$Row;" ∈ wsX6_adapt := by decide +kernel
set_option maxHeartbeats 4000000 in
set_option maxRecDepth 100000 in
theorem b_X6_adapt_36 {p : Program} {l : Launch} {e : Env} {S0 : State} {m : MethodId} {args : Array Value} {below : List Frame} {meth : Method} {c : Code} {A : Nat → Prop} {D : va_G} {cI cZ cJ : ClassId} {a : Nat → Nat} (X : x_X p S0 m args meth c cX6_adapt 4 none RX6 wsX6_adapt D (x_tys cI cZ cJ) A) (F : Nat) {r : Int32} {s' : CS}  : ∀ (t0 t1 : Int32) (s : CS) (ls : Array Slot), r_X6_adapt_b36 F t0 t1 s = some (r, s') → lv_has ls 4 [] → x_W p l e rm_X6_adapt S0 m args below meth c A D (cwld cI a) 0 0 (x_Rv below args S0 A D (cwld cI a) s') s (F0 m 36 ls [.int t0, .int t1, .ref (a (7 + 18))]) := by
  intro t0 t1 s ls hf hl
  unfold r_X6_adapt_b36 at hf
  obtain ⟨v6, s5, c7, hf⟩ := x_ob_of hf
  refine x_cVv X (7 + 18) 5 (cw_row (by decide : 18 < 22)) rfl rfl (c_X5_put l D cI cZ cJ a (k := 18) (by decide) F c7) (cwV 2 X.2.2.2.2.1 gX6_adapt_X5_put rfl rfl rfl (by decide +kernel) ⟨Nat.le_of_ble_eq_true rfl, Nat.le_of_ble_eq_true rfl⟩) rfl hl rfl (Nat.le_of_ble_eq_true rfl) ⟨Nat.zero_le _, Nat.zero_le _⟩ dX6_adapt_36 ?_
  exact x_vret X rfl hf dX6_adapt_39
set_option maxHeartbeats 4000000 in
set_option maxRecDepth 100000 in
theorem c_X6_adapt (l : Launch) (D : va_G) (cI cZ cJ : ClassId) (a : Nat → Nat) (F : Nat) {s s' : CS} {r : Int32} {x1 x2 : Int32} (hf : r_X6_adapt F x1 x2 s = some (r, s')) : x_Mv l yX6_adapt wsX6_adapt rm_X6_adapt D (x_tys cI cZ cJ) (cwld cI a) [.ref (a 5), .int x1, .int x2] s s' := by
  refine x_enterv (cc := cX6_adapt) (nL := 4) (own := RX6) (by decide) rfl rfl (Nat.le_of_ble_eq_true rfl) ?_
  intro p e S0 m args below meth c A X ls hl
  have hl : lv_has ls 4 [(0, .ref (a 5)), (1, .int x1), (2, .int x2)] := hl
  unfold r_X6_adapt at hf
  refine x_aload_n X dX6_adapt_0 rfl hl 0 rfl ?_
  refine x_getf X in_X6_adapt_X6 (cw_o5 _ _ _) rfl 0 (by decide) lk_X6_adapt_14 rfl rfl dX6_adapt_1 ?_
  refine x_iload_n X dX6_adapt_4 rfl hl 1 rfl ?_
  obtain ⟨v2, s1, c3, hf⟩ := x_ob_of hf
  refine x_cVi X (7 + 18) 5 (cw_row (by decide : 18 < 22)) rfl rfl (c_X5_at l D cI cZ cJ a (k := 18) (by decide) F c3) (cwV 1 X.2.2.2.2.1 gX6_adapt_X5_at rfl rfl rfl (by decide +kernel) ⟨Nat.le_of_ble_eq_true rfl, Nat.le_of_ble_eq_true rfl⟩) rfl hl rfl (Nat.le_of_ble_eq_true rfl) ⟨Nat.zero_le _, Nat.zero_le _⟩ dX6_adapt_5 ?_
  refine x_istoreA_n (lv' := [(3, .int v2), (0, .ref (a 5)), (1, .int x1), (2, .int x2)]) X dX6_adapt_8 rfl hl (by decide) rfl (fun ls hl => ?_)
  refine x_aload_n X dX6_adapt_9 rfl hl 1 rfl ?_
  refine x_getf X in_X6_adapt_X6 (cw_o5 _ _ _) rfl 0 (by decide) lk_X6_adapt_14 rfl rfl dX6_adapt_10 ?_
  refine x_iload_n X dX6_adapt_13 rfl hl 2 rfl ?_
  refine x_iload_n X dX6_adapt_14 rfl hl 3 rfl ?_
  refine x_if_eq (tgt := 29) X dX6_adapt_15 rfl (fun q4 => ?_) (fun q4 => ?_)
  · have hf := (if_pos q4).symm.trans hf
    refine x_iconst X dX6_adapt_29 xk_iconst_1 ?_
    refine x_iload_n X dX6_adapt_30 rfl hl 0 rfl ?_
    refine x_iconst X dX6_adapt_31 xk_iconst_1 ?_
    refine x_isub X dX6_adapt_32 ?_
    refine x_mmax X hl (by decide +kernel) (by decide +kernel) (by decide +kernel) (by decide +kernel) (Nat.le_of_ble_eq_true rfl) (Nat.le_of_ble_eq_true rfl) ⟨Nat.zero_le _, Nat.zero_le _⟩ dX6_adapt_33 ?_
    exact b_X6_adapt_36 X F (x_max (1 : Int32) (v2 - (1 : Int32))) x1 s1 ls hf (lv_sub hl [] rfl)
  · have hf := (if_neg q4).symm.trans hf
    refine x_bipush X dX6_adapt_18 xk_bipush_16 ?_
    refine x_iconst X dX6_adapt_20 xk_iconst_2 ?_
    refine x_iload_n X dX6_adapt_21 rfl hl 0 rfl ?_
    refine x_imul X dX6_adapt_22 ?_
    refine x_mmin X hl (by decide +kernel) (by decide +kernel) (by decide +kernel) (by decide +kernel) (Nat.le_of_ble_eq_true rfl) (Nat.le_of_ble_eq_true rfl) ⟨Nat.zero_le _, Nat.zero_le _⟩ dX6_adapt_23 ?_
    refine x_goto (tgt := 36) X dX6_adapt_26 rfl ?_
    exact b_X6_adapt_36 X F (x_min (16 : Int32) ((2 : Int32) * v2)) x1 s1 ls hf (lv_sub hl [] rfl)
def rm_X7_layAnew : Room := { frames := 2, cells := 0, slots := 0, locals := 46 }
theorem in_X7_layAnew_X7 : ∀ w ∈ wsX70, w ∈ wsX7_layAnew := by decide +kernel
theorem lk_X7_layAnew_12 : Cond.fieldLink RX7 12 "Creditfabric" "grid" "LCreditfabric$Grid;" ∈ wsX7_layAnew := by decide +kernel
theorem lk_X7_layAnew_21 : Cond.fieldLink RX7 21 "Creditfabric" "traffic" "LCreditfabric$Packets;" ∈ wsX7_layAnew := by decide +kernel
theorem lk_X7_layAnew_28 : Cond.fieldLink RX7 28 "Creditfabric" "buffers" "LCreditfabric$Buffers;" ∈ wsX7_layAnew := by decide +kernel
theorem lk_X7_layAnew_35 : Cond.fieldLink RX7 35 "Creditfabric" "purse" "LCreditfabric$Credits;" ∈ wsX7_layAnew := by decide +kernel
theorem lk_X7_layAnew_42 : Cond.fieldLink RX7 42 "Creditfabric" "senders" "LCreditfabric$Senders;" ∈ wsX7_layAnew := by decide +kernel
theorem lk_X7_layAnew_60 : Cond.fieldLink RX7 60 "Creditfabric" "paused" "LCreditfabric$Row;" ∈ wsX7_layAnew := by decide +kernel
theorem lk_X7_layAnew_64 : Cond.fieldLink RX7 64 "Creditfabric" "turns" "LCreditfabric$Row;" ∈ wsX7_layAnew := by decide +kernel
theorem lk_X7_layAnew_115 : Cond.fieldLink RX7 115 "Creditfabric" "now" "I" ∈ wsX7_layAnew := by decide +kernel
set_option maxHeartbeats 4000000 in
set_option maxRecDepth 100000 in
theorem c_X7_layAnew (l : Launch) (D : va_G) (cI cZ cJ : ClassId) (a : Nat → Nat) (F : Nat) {s s' : CS} {r : Int32} {x1 x2 x3 x4 : Int32} (hf : r_X7_layAnew F x1 x2 x3 x4 s = some (r, s')) : x_Mv l yX7_layAnew wsX7_layAnew rm_X7_layAnew D (x_tys cI cZ cJ) (cwld cI a) [.ref (a 0), .int x1, .int x2, .int x3, .int x4] s s' := by
  refine x_enterv (cc := cX7_layAnew) (nL := 5) (own := RX7) (by decide) rfl rfl (Nat.le_of_ble_eq_true rfl) ?_
  intro p e S0 m args below meth c A X ls hl
  have hl : lv_has ls 5 [(0, .ref (a 0)), (1, .int x1), (2, .int x2), (3, .int x3), (4, .int x4)] := hl
  unfold r_X7_layAnew at hf
  refine x_aload_n X dX7_layAnew_0 rfl hl 0 rfl ?_
  refine x_getf X in_X7_layAnew_X7 (cw_o0 _ _ _) rfl 0 (by decide) lk_X7_layAnew_12 rfl rfl dX7_layAnew_1 ?_
  refine x_iload_n X dX7_layAnew_4 rfl hl 1 rfl ?_
  refine x_iload_n X dX7_layAnew_5 rfl hl 2 rfl ?_
  obtain ⟨v2, s1, c3, hf⟩ := x_ob_of hf
  refine x_cVv X 1 3 (cw_o1 _ _ _) rfl rfl (c_X3_lay l D cI cZ cJ a F c3) (cwV 2 X.2.2.2.2.1 gX7_layAnew_X3_lay rfl rfl rfl (by decide +kernel) ⟨Nat.le_of_ble_eq_true rfl, Nat.le_of_ble_eq_true rfl⟩) rfl hl rfl (Nat.le_of_ble_eq_true rfl) ⟨Nat.zero_le _, Nat.zero_le _⟩ dX7_layAnew_6 ?_
  refine x_aload_n X dX7_layAnew_9 rfl hl 0 rfl ?_
  refine x_getf X in_X7_layAnew_X7 (cw_o0 _ _ _) rfl 1 (by decide) lk_X7_layAnew_21 rfl rfl dX7_layAnew_10 ?_
  obtain ⟨v5, s4, c6, hf⟩ := x_ob_of hf
  refine x_cVv X 2 4 (cw_o2 _ _ _) rfl rfl (c_X4_clear l D cI cZ cJ a F c6) (cwV 0 X.2.2.2.2.1 gX7_layAnew_X4_clear rfl rfl rfl (by decide +kernel) ⟨Nat.le_of_ble_eq_true rfl, Nat.le_of_ble_eq_true rfl⟩) rfl hl rfl (Nat.le_of_ble_eq_true rfl) ⟨Nat.zero_le _, Nat.zero_le _⟩ dX7_layAnew_13 ?_
  refine x_aload_n X dX7_layAnew_16 rfl hl 0 rfl ?_
  refine x_getf X in_X7_layAnew_X7 (cw_o0 _ _ _) rfl 2 (by decide) lk_X7_layAnew_28 rfl rfl dX7_layAnew_17 ?_
  refine x_iload_n X dX7_layAnew_20 rfl hl 3 rfl ?_
  obtain ⟨v8, s7, c9, hf⟩ := x_ob_of hf
  refine x_cVv X 3 0 (cw_o3 _ _ _) rfl rfl (c_X0_clear l D cI cZ cJ a F c9) (cwV 1 X.2.2.2.2.1 gX7_layAnew_X0_clear rfl rfl rfl (by decide +kernel) ⟨Nat.le_of_ble_eq_true rfl, Nat.le_of_ble_eq_true rfl⟩) rfl hl rfl (Nat.le_of_ble_eq_true rfl) ⟨Nat.zero_le _, Nat.zero_le _⟩ dX7_layAnew_21 ?_
  refine x_aload_n X dX7_layAnew_24 rfl hl 0 rfl ?_
  refine x_getf X in_X7_layAnew_X7 (cw_o0 _ _ _) rfl 3 (by decide) lk_X7_layAnew_35 rfl rfl dX7_layAnew_25 ?_
  refine x_iload_n X dX7_layAnew_28 rfl hl 3 rfl ?_
  refine x_iload X dX7_layAnew_29 hl 4 rfl ?_
  obtain ⟨v11, s10, c12, hf⟩ := x_ob_of hf
  refine x_cVv X 4 2 (cw_o4 _ _ _) rfl rfl (c_X2_fill l D cI cZ cJ a F c12) (cwV 2 X.2.2.2.2.1 gX7_layAnew_X2_fill rfl rfl rfl (by decide +kernel) ⟨Nat.le_of_ble_eq_true rfl, Nat.le_of_ble_eq_true rfl⟩) rfl hl rfl (Nat.le_of_ble_eq_true rfl) ⟨Nat.zero_le _, Nat.zero_le _⟩ dX7_layAnew_31 ?_
  refine x_aload_n X dX7_layAnew_34 rfl hl 0 rfl ?_
  refine x_getf X in_X7_layAnew_X7 (cw_o0 _ _ _) rfl 4 (by decide) lk_X7_layAnew_42 rfl rfl dX7_layAnew_35 ?_
  obtain ⟨v14, s13, c15, hf⟩ := x_ob_of hf
  refine x_cVv X 5 6 (cw_o5 _ _ _) rfl rfl (c_X6_clear l D cI cZ cJ a F c15) (cwV 0 X.2.2.2.2.1 gX7_layAnew_X6_clear rfl rfl rfl (by decide +kernel) ⟨Nat.le_of_ble_eq_true rfl, Nat.le_of_ble_eq_true rfl⟩) rfl hl rfl (Nat.le_of_ble_eq_true rfl) ⟨Nat.zero_le _, Nat.zero_le _⟩ dX7_layAnew_38 ?_
  refine x_aload_n X dX7_layAnew_41 rfl hl 0 rfl ?_
  refine x_getf X in_X7_layAnew_X7 (cw_o0 _ _ _) rfl 6 (by decide) lk_X7_layAnew_60 rfl rfl dX7_layAnew_42 ?_
  refine x_iconst X dX7_layAnew_45 xk_iconst_0 ?_
  obtain ⟨v17, s16, c18, hf⟩ := x_ob_of hf
  refine x_cVv X (7 + 0) 5 (cw_row (by decide : 0 < 22)) rfl rfl (c_X5_fill l D cI cZ cJ a (k := 0) (by decide) F c18) (cwV 1 X.2.2.2.2.1 gX7_layAnew_X5_fill rfl rfl rfl (by decide +kernel) ⟨Nat.le_of_ble_eq_true rfl, Nat.le_of_ble_eq_true rfl⟩) rfl hl rfl (Nat.le_of_ble_eq_true rfl) ⟨Nat.zero_le _, Nat.zero_le _⟩ dX7_layAnew_46 ?_
  refine x_aload_n X dX7_layAnew_49 rfl hl 0 rfl ?_
  refine x_getf X in_X7_layAnew_X7 (cw_o0 _ _ _) rfl 7 (by decide) lk_X7_layAnew_64 rfl rfl dX7_layAnew_50 ?_
  refine x_iconst X dX7_layAnew_53 xk_iconst_0 ?_
  obtain ⟨v20, s19, c21, hf⟩ := x_ob_of hf
  refine x_cVv X (7 + 1) 5 (cw_row (by decide : 1 < 22)) rfl rfl (c_X5_fill l D cI cZ cJ a (k := 1) (by decide) F c21) (cwV 1 X.2.2.2.2.1 gX7_layAnew_X5_fill rfl rfl rfl (by decide +kernel) ⟨Nat.le_of_ble_eq_true rfl, Nat.le_of_ble_eq_true rfl⟩) rfl hl rfl (Nat.le_of_ble_eq_true rfl) ⟨Nat.zero_le _, Nat.zero_le _⟩ dX7_layAnew_54 ?_
  refine x_aload_n X dX7_layAnew_57 rfl hl 0 rfl ?_
  refine x_iconst X dX7_layAnew_58 xk_iconst_0 ?_
  refine x_puti X in_X7_layAnew_X7 (cw_o0 _ _ _) rfl 11 (by decide) tyX7 tyX7_ok nmX7 lk_X7_layAnew_115 rfl rfl (by decide +kernel) (Nat.le_of_ble_eq_true rfl) (cw_s1 _ _ _ _) dX7_layAnew_59 (fun s22 es22 => ?_)
  have hf := x_os_of es22 hf
  exact x_vret X rfl hf dX7_layAnew_62
def rm_X7_canGo : Room := { frames := 2, cells := 0, slots := 0, locals := 43 }
theorem in_X7_canGo_X7 : ∀ w ∈ wsX70, w ∈ wsX7_canGo := by decide +kernel
theorem lk_X7_canGo_12 : Cond.fieldLink RX7 12 "Creditfabric" "grid" "LCreditfabric$Grid;" ∈ wsX7_canGo := by decide +kernel
theorem lk_X7_canGo_35 : Cond.fieldLink RX7 35 "Creditfabric" "purse" "LCreditfabric$Credits;" ∈ wsX7_canGo := by decide +kernel
theorem lk_X7_canGo_60 : Cond.fieldLink RX7 60 "Creditfabric" "paused" "LCreditfabric$Row;" ∈ wsX7_canGo := by decide +kernel
set_option maxHeartbeats 4000000 in
set_option maxRecDepth 100000 in
theorem b_X7_canGo_58 {p : Program} {l : Launch} {e : Env} {S0 : State} {m : MethodId} {args : Array Value} {below : List Frame} {meth : Method} {c : Code} {A : Nat → Prop} {D : va_G} {cI cZ cJ : ClassId} {a : Nat → Nat} (X : x_X p S0 m args meth c cX7_canGo 5 (some .boolean) RX7 wsX7_canGo D (x_tys cI cZ cJ) A) (F : Nat) {r : Int32} {s' : CS}  : ∀ (t0 : Int32) (s : CS) (ls : Array Slot), r_X7_canGo_b58 F t0 s = some (r, s') → lv_has ls 5 [] → x_W p l e rm_X7_canGo S0 m args below meth c A D (cwld cI a) 0 0 (x_Ri below args S0 A D (cwld cI a) r s') s (F0 m 58 ls [.int t0]) := by
  intro t0 s ls hf hl
  unfold r_X7_canGo_b58 at hf
  obtain ⟨g6, hf⟩ := x_og_of hf
  exact x_iret X rfl (x_bo_of g6) hf dX7_canGo_58
set_option maxHeartbeats 4000000 in
set_option maxRecDepth 100000 in
theorem b_X7_canGo_57 {p : Program} {l : Launch} {e : Env} {S0 : State} {m : MethodId} {args : Array Value} {below : List Frame} {meth : Method} {c : Code} {A : Nat → Prop} {D : va_G} {cI cZ cJ : ClassId} {a : Nat → Nat} (X : x_X p S0 m args meth c cX7_canGo 5 (some .boolean) RX7 wsX7_canGo D (x_tys cI cZ cJ) A) (F : Nat) {r : Int32} {s' : CS}  : ∀ (s : CS) (ls : Array Slot), r_X7_canGo_b57 F s = some (r, s') → lv_has ls 5 [] → x_W p l e rm_X7_canGo S0 m args below meth c A D (cwld cI a) 0 0 (x_Ri below args S0 A D (cwld cI a) r s') s (F0 m 57 ls []) := by
  intro s ls hf hl
  unfold r_X7_canGo_b57 at hf
  refine x_iconst X dX7_canGo_57 xk_iconst_0 ?_
  exact b_X7_canGo_58 X F (0 : Int32) s ls hf (lv_sub hl [] rfl)
set_option maxHeartbeats 4000000 in
set_option maxRecDepth 100000 in
theorem c_X7_canGo (l : Launch) (D : va_G) (cI cZ cJ : ClassId) (a : Nat → Nat) (F : Nat) {s s' : CS} {r : Int32} {x1 x2 x3 : Int32} (hf : r_X7_canGo F x1 x2 x3 s = some (r, s')) : x_Mi l yX7_canGo wsX7_canGo rm_X7_canGo D (x_tys cI cZ cJ) (cwld cI a) [.ref (a 0), .int x1, .int x2, .int x3] s r s' := by
  refine x_enteri (cc := cX7_canGo) (nL := 5) (ty := .boolean) (own := RX7) (by decide) rfl rfl (Nat.le_of_ble_eq_true rfl) ?_
  intro p e S0 m args below meth c A X ls hl
  have hl : lv_has ls 5 [(0, .ref (a 0)), (1, .int x1), (2, .int x2), (3, .int x3)] := hl
  unfold r_X7_canGo at hf
  refine x_iload_n X dX7_canGo_0 rfl hl 2 rfl ?_
  refine x_iconst X dX7_canGo_1 xk_iconst_4 ?_
  refine x_icmp_ne (tgt := 7) X dX7_canGo_2 rfl (fun q1 => ?_) (fun q1 => ?_)
  · have hf := (if_neg q1).symm.trans hf
    refine x_aload_n X dX7_canGo_7 rfl hl 0 rfl ?_
    refine x_getf X in_X7_canGo_X7 (cw_o0 _ _ _) rfl 0 (by decide) lk_X7_canGo_12 rfl rfl dX7_canGo_8 ?_
    refine x_iload_n X dX7_canGo_11 rfl hl 1 rfl ?_
    refine x_iload_n X dX7_canGo_12 rfl hl 2 rfl ?_
    obtain ⟨v3, s2, c4, hf⟩ := x_ob_of hf
    refine x_cVi X 1 3 (cw_o1 _ _ _) rfl rfl (c_X3_behind l D cI cZ cJ a F c4) (cwV 2 X.2.2.2.2.1 gX7_canGo_X3_behind rfl rfl rfl (by decide +kernel) ⟨Nat.le_of_ble_eq_true rfl, Nat.le_of_ble_eq_true rfl⟩) rfl hl rfl (Nat.le_of_ble_eq_true rfl) ⟨Nat.zero_le _, Nat.zero_le _⟩ dX7_canGo_13 ?_
    refine x_istoreA (lv' := [(4, .int v3), (0, .ref (a 0)), (1, .int x1), (2, .int x2), (3, .int x3)]) X dX7_canGo_16 hl (by decide) rfl (fun ls hl => ?_)
    refine x_iload X dX7_canGo_18 hl 0 rfl ?_
    refine x_iconst X dX7_canGo_20 xk_iconst_m1 ?_
    refine x_icmp_eq (tgt := 57) X dX7_canGo_21 rfl (fun q5 => ?_) (fun q5 => ?_)
    · have hf := (if_pos q5).symm.trans hf
      exact b_X7_canGo_57 X F s2 ls hf (lv_sub hl [] rfl)
    · have hf := (if_neg q5).symm.trans hf
      refine x_aload_n X dX7_canGo_24 rfl hl 1 rfl ?_
      refine x_getf X in_X7_canGo_X7 (cw_o0 _ _ _) rfl 6 (by decide) lk_X7_canGo_60 rfl rfl dX7_canGo_25 ?_
      refine x_iload X dX7_canGo_28 hl 0 rfl ?_
      obtain ⟨v8, s7, c9, hf⟩ := x_ob_of hf
      refine x_cVi X (7 + 0) 5 (cw_row (by decide : 0 < 22)) rfl rfl (c_X5_at l D cI cZ cJ a (k := 0) (by decide) F c9) (cwV 1 X.2.2.2.2.1 gX7_canGo_X5_at rfl rfl rfl (by decide +kernel) ⟨Nat.le_of_ble_eq_true rfl, Nat.le_of_ble_eq_true rfl⟩) rfl hl rfl (Nat.le_of_ble_eq_true rfl) ⟨Nat.zero_le _, Nat.zero_le _⟩ dX7_canGo_30 ?_
      refine x_if_ne (tgt := 57) X dX7_canGo_33 rfl (fun q10 => ?_) (fun q10 => ?_)
      · have hf := (if_neg q10).symm.trans hf
        exact b_X7_canGo_57 X F s7 ls hf (lv_sub hl [] rfl)
      · have hf := (if_pos q10).symm.trans hf
        refine x_aload_n X dX7_canGo_36 rfl hl 1 rfl ?_
        refine x_getf X in_X7_canGo_X7 (cw_o0 _ _ _) rfl 3 (by decide) lk_X7_canGo_35 rfl rfl dX7_canGo_37 ?_
        refine x_iload X dX7_canGo_40 hl 0 rfl ?_
        refine x_iload_n X dX7_canGo_42 rfl hl 3 rfl ?_
        refine x_iload_n X dX7_canGo_43 rfl hl 4 rfl ?_
        obtain ⟨v12, s11, c13, hf⟩ := x_ob_of hf
        refine x_cSi X (c_X7_bufferOf l D cI cZ cJ a F c13) (va_cwS 3 X.2.2.2.2.1 gX7_canGo_X7_bufferOf rfl rfl rfl (by decide +kernel) ⟨Nat.le_of_ble_eq_true rfl, Nat.le_of_ble_eq_true rfl⟩) rfl hl rfl (Nat.le_of_ble_eq_true rfl) ⟨Nat.zero_le _, Nat.zero_le _⟩ dX7_canGo_44 ?_
        obtain ⟨v15, s14, c16, hf⟩ := x_ob_of hf
        refine x_cVi X 4 2 (cw_o4 _ _ _) rfl rfl (c_X2_there l D cI cZ cJ a F c16) (cwV 1 X.2.2.2.2.1 gX7_canGo_X2_there rfl rfl rfl (by decide +kernel) ⟨Nat.le_of_ble_eq_true rfl, Nat.le_of_ble_eq_true rfl⟩) rfl hl rfl (Nat.le_of_ble_eq_true rfl) ⟨Nat.zero_le _, Nat.zero_le _⟩ dX7_canGo_47 ?_
        refine x_if_le (tgt := 57) X dX7_canGo_50 rfl (fun q17 => ?_) (fun q17 => ?_)
        · have hf := (if_pos q17).symm.trans hf
          exact b_X7_canGo_57 X F s14 ls hf (lv_sub hl [] rfl)
        · have hf := (if_neg q17).symm.trans hf
          refine x_iconst X dX7_canGo_53 xk_iconst_1 ?_
          refine x_goto (tgt := 58) X dX7_canGo_54 rfl ?_
          exact b_X7_canGo_58 X F (1 : Int32) s14 ls hf (lv_sub hl [] rfl)
  · have hf := (if_pos q1).symm.trans hf
    refine x_iconst X dX7_canGo_5 xk_iconst_1 ?_
    exact x_iret X rfl rfl hf dX7_canGo_6
def rm_X7_takeTurn : Room := { frames := 2, cells := 0, slots := 0, locals := 42 }
theorem in_X7_takeTurn_X7 : ∀ w ∈ wsX70, w ∈ wsX7_takeTurn := by decide +kernel
theorem lk_X7_takeTurn_28 : Cond.fieldLink RX7 28 "Creditfabric" "buffers" "LCreditfabric$Buffers;" ∈ wsX7_takeTurn := by decide +kernel
theorem lk_X7_takeTurn_64 : Cond.fieldLink RX7 64 "Creditfabric" "turns" "LCreditfabric$Row;" ∈ wsX7_takeTurn := by decide +kernel
theorem lk_X7_takeTurn_70 : Cond.fieldLink RX7 70 "Creditfabric" "chosen" "LCreditfabric$Row;" ∈ wsX7_takeTurn := by decide +kernel
theorem lk_X7_takeTurn_240 : Cond.fieldLink RX7 240 "Creditfabric" "chosenCount" "I" ∈ wsX7_takeTurn := by decide +kernel
set_option maxHeartbeats 4000000 in
set_option maxRecDepth 100000 in
theorem b_X7_takeTurn_45 {p : Program} {l : Launch} {e : Env} {S0 : State} {m : MethodId} {args : Array Value} {below : List Frame} {meth : Method} {c : Code} {A : Nat → Prop} {D : va_G} {cI cZ cJ : ClassId} {a : Nat → Nat} (X : x_X p S0 m args meth c cX7_takeTurn 8 none RX7 wsX7_takeTurn D (x_tys cI cZ cJ) A) (F : Nat) {r : Int32} {s' : CS} (K21 : Int32 → Int32 → Int32 → Int32 → Int32 → CS → Option (Int32 × CS)) (hK21 : ∀ (x1 x3 x4 x5 x6 : Int32) (s : CS) (ls : Array Slot), K21 x1 x3 x4 x5 x6 s = some (r, s') → lv_has ls 8 [(0, .ref (a 0)), (1, .int x1), (3, .int x3), (4, .int x4), (5, .int x5), (6, .int x6)] → x_W p l e rm_X7_takeTurn S0 m args below meth c A D (cwld cI a) 0 0 (x_Rv below args S0 A D (cwld cI a) s') s (F0 m 21 ls [])) : ∀ (x1 x3 x4 x5 x6 t0 : Int32) (s : CS) (ls : Array Slot), r_X7_takeTurn_b45 K21 F x1 x3 x4 x5 x6 t0 s = some (r, s') → lv_has ls 8 [(0, .ref (a 0)), (1, .int x1), (3, .int x3), (4, .int x4), (5, .int x5), (6, .int x6)] → x_W p l e rm_X7_takeTurn S0 m args below meth c A D (cwld cI a) 0 0 (x_Rv below args S0 A D (cwld cI a) s') s (F0 m 45 ls [.int t0]) := by
  intro x1 x3 x4 x5 x6 t0 s ls hf hl
  unfold r_X7_takeTurn_b45 at hf
  refine x_istoreA (lv' := [(7, .int t0), (0, .ref (a 0)), (1, .int x1), (3, .int x3), (4, .int x4), (5, .int x5), (6, .int x6)]) X dX7_takeTurn_45 hl (by decide) rfl (fun ls hl => ?_)
  refine x_iload_n X dX7_takeTurn_47 rfl hl 3 rfl ?_
  refine x_iload X dX7_takeTurn_48 hl 5 rfl ?_
  refine x_ishr X dX7_takeTurn_50 ?_
  refine x_iconst X dX7_takeTurn_51 xk_iconst_1 ?_
  refine x_iand X dX7_takeTurn_52 ?_
  refine x_if_eq (tgt := 103) X dX7_takeTurn_53 rfl (fun q7 => ?_) (fun q7 => ?_)
  · have hf := (if_pos q7).symm.trans hf
    refine x_iload X dX7_takeTurn_103 hl 0 rfl ?_
    refine x_istoreA (lv' := [(5, .int t0), (7, .int t0), (0, .ref (a 0)), (1, .int x1), (3, .int x3), (4, .int x4), (6, .int x6)]) X dX7_takeTurn_105 hl (by decide) rfl (fun ls hl => ?_)
    refine x_iinc (v := (x6 + (1 : Int32))) (lv' := [(6, .int (x6 + (1 : Int32))), (5, .int t0), (7, .int t0), (0, .ref (a 0)), (1, .int x1), (3, .int x3), (4, .int x4)]) X dX7_takeTurn_107 hl (j := 6) rfl rfl (by decide) rfl (fun ls hl => ?_)
    refine x_goto (tgt := 21) X dX7_takeTurn_110 rfl ?_
    exact hK21 x1 x3 x4 t0 (x6 + (1 : Int32)) s ls hf (lv_sub hl [3, 4, 5, 6, 1, 0] rfl)
  · have hf := (if_neg q7).symm.trans hf
    refine x_aload_n X dX7_takeTurn_56 rfl hl 1 rfl ?_
    refine x_getf X in_X7_takeTurn_X7 (cw_o0 _ _ _) rfl 9 (by decide) lk_X7_takeTurn_70 rfl rfl dX7_takeTurn_57 ?_
    refine x_aload_n X dX7_takeTurn_60 rfl hl 1 rfl ?_
    refine x_getf X in_X7_takeTurn_X7 (cw_o0 _ _ _) rfl 10 (by decide) lk_X7_takeTurn_240 rfl rfl dX7_takeTurn_61 ?_
    refine x_aload_n X dX7_takeTurn_64 rfl hl 1 rfl ?_
    refine x_getf X in_X7_takeTurn_X7 (cw_o0 _ _ _) rfl 2 (by decide) lk_X7_takeTurn_28 rfl rfl dX7_takeTurn_65 ?_
    refine x_iload_n X dX7_takeTurn_68 rfl hl 2 rfl ?_
    refine x_bipush X dX7_takeTurn_69 xk_bipush_10 ?_
    refine x_imul X dX7_takeTurn_71 ?_
    refine x_iload X dX7_takeTurn_72 hl 5 rfl ?_
    refine x_iadd X dX7_takeTurn_74 ?_
    obtain ⟨v9, s8, c10, hf⟩ := x_ob_of hf
    refine x_cVi X 3 0 (cw_o3 _ _ _) rfl rfl (c_X0_first l D cI cZ cJ a F c10) (cwV 1 X.2.2.2.2.1 gX7_takeTurn_X0_first rfl rfl rfl (by decide +kernel) ⟨Nat.le_of_ble_eq_true rfl, Nat.le_of_ble_eq_true rfl⟩) rfl hl rfl (Nat.le_of_ble_eq_true rfl) ⟨Nat.zero_le _, Nat.zero_le _⟩ dX7_takeTurn_75 ?_
    obtain ⟨v12, s11, c13, hf⟩ := x_ob_of hf
    refine x_cVv X (7 + 3) 5 (cw_row (by decide : 3 < 22)) rfl rfl (c_X5_put l D cI cZ cJ a (k := 3) (by decide) F c13) (cwV 2 X.2.2.2.2.1 gX7_takeTurn_X5_put rfl rfl rfl (by decide +kernel) ⟨Nat.le_of_ble_eq_true rfl, Nat.le_of_ble_eq_true rfl⟩) rfl hl rfl (Nat.le_of_ble_eq_true rfl) ⟨Nat.zero_le _, Nat.zero_le _⟩ dX7_takeTurn_78 ?_
    refine x_aload_n X dX7_takeTurn_81 rfl hl 1 rfl ?_
    refine x_dup X dX7_takeTurn_82 rfl ?_
    refine x_getf X in_X7_takeTurn_X7 (cw_o0 _ _ _) rfl 10 (by decide) lk_X7_takeTurn_240 rfl rfl dX7_takeTurn_83 ?_
    refine x_iconst X dX7_takeTurn_86 xk_iconst_1 ?_
    refine x_iadd X dX7_takeTurn_87 ?_
    refine x_puti X in_X7_takeTurn_X7 (cw_o0 _ _ _) rfl 10 (by decide) tyX7 tyX7_ok nmX7 lk_X7_takeTurn_240 rfl rfl (by decide +kernel) (Nat.le_of_ble_eq_true rfl) (cw_s0 _ _ _ _) dX7_takeTurn_88 (fun s14 es14 => ?_)
    have hf := x_os_of es14 hf
    refine x_aload_n X dX7_takeTurn_91 rfl hl 1 rfl ?_
    refine x_getf X in_X7_takeTurn_X7 (cw_o0 _ _ _) rfl 7 (by decide) lk_X7_takeTurn_64 rfl rfl dX7_takeTurn_92 ?_
    refine x_iload X dX7_takeTurn_95 hl 4 rfl ?_
    refine x_iload X dX7_takeTurn_97 hl 0 rfl ?_
    obtain ⟨v16, s15, c17, hf⟩ := x_ob_of hf
    refine x_cVv X (7 + 1) 5 (cw_row (by decide : 1 < 22)) rfl rfl (c_X5_put l D cI cZ cJ a (k := 1) (by decide) F c17) (cwV 2 X.2.2.2.2.1 gX7_takeTurn_X5_put rfl rfl rfl (by decide +kernel) ⟨Nat.le_of_ble_eq_true rfl, Nat.le_of_ble_eq_true rfl⟩) rfl hl rfl (Nat.le_of_ble_eq_true rfl) ⟨Nat.zero_le _, Nat.zero_le _⟩ dX7_takeTurn_99 ?_
    exact x_vret X rfl hf dX7_takeTurn_102
set_option maxHeartbeats 4000000 in
set_option maxRecDepth 100000 in
theorem b_X7_takeTurn_21 {p : Program} {l : Launch} {e : Env} {S0 : State} {m : MethodId} {args : Array Value} {below : List Frame} {meth : Method} {c : Code} {A : Nat → Prop} {D : va_G} {cI cZ cJ : ClassId} {a : Nat → Nat} (X : x_X p S0 m args meth c cX7_takeTurn 8 none RX7 wsX7_takeTurn D (x_tys cI cZ cJ) A) (F : Nat) {r : Int32} {s' : CS}  : ∀ (n : Nat) (x1 x3 x4 x5 x6 : Int32) (s : CS) (ls : Array Slot), r_X7_takeTurn_b21 F n x1 x3 x4 x5 x6 s = some (r, s') → lv_has ls 8 [(0, .ref (a 0)), (1, .int x1), (3, .int x3), (4, .int x4), (5, .int x5), (6, .int x6)] → x_W p l e rm_X7_takeTurn S0 m args below meth c A D (cwld cI a) 0 0 (x_Rv below args S0 A D (cwld cI a) s') s (F0 m 21 ls []) := by
  intro n
  induction n with
  | zero =>
    intro x1 x3 x4 x5 x6 s ls hf hl
    have hf : (none : Option (Int32 × CS)) = some (r, s') := hf
    cases hf
  | succ n ih =>
    intro x1 x3 x4 x5 x6 s ls hf hl
    rw [r_X7_takeTurn_b21_s] at hf
    refine x_iload X dX7_takeTurn_21 hl 5 rfl ?_
    refine x_bipush X dX7_takeTurn_23 xk_bipush_10 ?_
    refine x_icmp_ge (tgt := 113) X dX7_takeTurn_25 rfl (fun q5 => ?_) (fun q5 => ?_)
    · have hf := (if_pos q5).symm.trans hf
      exact x_vret X rfl hf dX7_takeTurn_113
    · have hf := (if_neg q5).symm.trans hf
      refine x_iload X dX7_takeTurn_28 hl 4 rfl ?_
      refine x_iconst X dX7_takeTurn_30 xk_iconst_1 ?_
      refine x_iadd X dX7_takeTurn_31 ?_
      refine x_bipush X dX7_takeTurn_32 xk_bipush_10 ?_
      refine x_icmp_ge (tgt := 44) X dX7_takeTurn_34 rfl (fun q6 => ?_) (fun q6 => ?_)
      · have hf := (if_pos q6).symm.trans hf
        refine x_iconst X dX7_takeTurn_44 xk_iconst_0 ?_
        exact b_X7_takeTurn_45 X F _ ih x1 x3 x4 x5 x6 (0 : Int32) s ls hf (lv_sub hl [0, 1, 2, 3, 4, 5] rfl)
      · have hf := (if_neg q6).symm.trans hf
        refine x_iload X dX7_takeTurn_37 hl 4 rfl ?_
        refine x_iconst X dX7_takeTurn_39 xk_iconst_1 ?_
        refine x_iadd X dX7_takeTurn_40 ?_
        refine x_goto (tgt := 45) X dX7_takeTurn_41 rfl ?_
        exact b_X7_takeTurn_45 X F _ ih x1 x3 x4 x5 x6 (x5 + (1 : Int32)) s ls hf (lv_sub hl [0, 1, 2, 3, 4, 5] rfl)
set_option maxHeartbeats 4000000 in
set_option maxRecDepth 100000 in
theorem c_X7_takeTurn (l : Launch) (D : va_G) (cI cZ cJ : ClassId) (a : Nat → Nat) (F : Nat) {s s' : CS} {r : Int32} {x1 x2 x3 : Int32} (hf : r_X7_takeTurn F x1 x2 x3 s = some (r, s')) : x_Mv l yX7_takeTurn wsX7_takeTurn rm_X7_takeTurn D (x_tys cI cZ cJ) (cwld cI a) [.ref (a 0), .int x1, .int x2, .int x3] s s' := by
  refine x_enterv (cc := cX7_takeTurn) (nL := 8) (own := RX7) (by decide) rfl rfl (Nat.le_of_ble_eq_true rfl) ?_
  intro p e S0 m args below meth c A X ls hl
  have hl : lv_has ls 8 [(0, .ref (a 0)), (1, .int x1), (2, .int x2), (3, .int x3)] := hl
  unfold r_X7_takeTurn at hf
  refine x_iload_n X dX7_takeTurn_0 rfl hl 1 rfl ?_
  refine x_iconst X dX7_takeTurn_1 xk_iconst_5 ?_
  refine x_imul X dX7_takeTurn_2 ?_
  refine x_iload_n X dX7_takeTurn_3 rfl hl 2 rfl ?_
  refine x_iadd X dX7_takeTurn_4 ?_
  refine x_istore (lv' := [(0, .ref (a 0)), (1, .int x1), (2, .int x2), (3, .int x3)]) X dX7_takeTurn_5 hl (by decide) (fun _ => rfl) (fun x4_1 ls ex4_1 hl => ?_)
  have hf := x_oi_of ex4_1 hf
  refine x_aload_n X dX7_takeTurn_7 rfl hl 1 rfl ?_
  refine x_getf X in_X7_takeTurn_X7 (cw_o0 _ _ _) rfl 7 (by decide) lk_X7_takeTurn_64 rfl rfl dX7_takeTurn_8 ?_
  refine x_iload X dX7_takeTurn_11 hl 0 rfl ?_
  obtain ⟨v3, s2, c4, hf⟩ := x_ob_of hf
  refine x_cVi X (7 + 1) 5 (cw_row (by decide : 1 < 22)) rfl rfl (c_X5_at l D cI cZ cJ a (k := 1) (by decide) F c4) (cwV 1 X.2.2.2.2.1 gX7_takeTurn_X5_at rfl rfl rfl (by decide +kernel) ⟨Nat.le_of_ble_eq_true rfl, Nat.le_of_ble_eq_true rfl⟩) rfl hl rfl (Nat.le_of_ble_eq_true rfl) ⟨Nat.zero_le _, Nat.zero_le _⟩ dX7_takeTurn_13 ?_
  refine x_istoreA (lv' := [(5, .int v3), (4, .int x4_1), (0, .ref (a 0)), (1, .int x1), (2, .int x2), (3, .int x3)]) X dX7_takeTurn_16 hl (by decide) rfl (fun ls hl => ?_)
  refine x_iconst X dX7_takeTurn_18 xk_iconst_0 ?_
  refine x_istoreA (lv' := [(6, .int (0 : Int32)), (5, .int v3), (4, .int x4_1), (0, .ref (a 0)), (1, .int x1), (2, .int x2), (3, .int x3)]) X dX7_takeTurn_19 hl (by decide) rfl (fun ls hl => ?_)
  exact b_X7_takeTurn_21 X F F x1 x3 x4_1 v3 (0 : Int32) s2 ls hf (lv_sub hl [3, 4, 6, 2, 1, 0] rfl)
def rm_X7_chooseAt : Room := { frames := 3, cells := 0, slots := 0, locals := 70 }
theorem in_X7_chooseAt_X4 : ∀ w ∈ wsX40, w ∈ wsX7_chooseAt := by decide +kernel
theorem in_X7_chooseAt_X7 : ∀ w ∈ wsX70, w ∈ wsX7_chooseAt := by decide +kernel
theorem lk_X7_chooseAt_21 : Cond.fieldLink RX7 21 "Creditfabric" "traffic" "LCreditfabric$Packets;" ∈ wsX7_chooseAt := by decide +kernel
theorem lk_X7_chooseAt_28 : Cond.fieldLink RX7 28 "Creditfabric" "buffers" "LCreditfabric$Buffers;" ∈ wsX7_chooseAt := by decide +kernel
theorem lk_X7_chooseAt_67 : Cond.fieldLink RX7 67 "Creditfabric" "ready" "LCreditfabric$Row;" ∈ wsX7_chooseAt := by decide +kernel
set_option maxHeartbeats 4000000 in
set_option maxRecDepth 100000 in
theorem b_X7_chooseAt_126 {p : Program} {l : Launch} {e : Env} {S0 : State} {m : MethodId} {args : Array Value} {below : List Frame} {meth : Method} {c : Code} {A : Nat → Prop} {D : va_G} {cI cZ cJ : ClassId} {a : Nat → Nat} (X : x_X p S0 m args meth c cX7_chooseAt 5 none RX7 wsX7_chooseAt D (x_tys cI cZ cJ) A) (F : Nat) {r : Int32} {s' : CS} (K96 : Int32 → Int32 → CS → Option (Int32 × CS)) (hK96 : ∀ (x1 x2 : Int32) (s : CS) (ls : Array Slot), K96 x1 x2 s = some (r, s') → lv_has ls 5 [(0, .ref (a 0)), (1, .int x1), (2, .int x2)] → x_W p l e rm_X7_chooseAt S0 m args below meth c A D (cwld cI a) 0 0 (x_Rv below args S0 A D (cwld cI a) s') s (F0 m 96 ls [])) : ∀ (x1 x2 : Int32) (s : CS) (ls : Array Slot), r_X7_chooseAt_b126 K96 F x1 x2 s = some (r, s') → lv_has ls 5 [(0, .ref (a 0)), (1, .int x1), (2, .int x2)] → x_W p l e rm_X7_chooseAt S0 m args below meth c A D (cwld cI a) 0 0 (x_Rv below args S0 A D (cwld cI a) s') s (F0 m 126 ls []) := by
  intro x1 x2 s ls hf hl
  unfold r_X7_chooseAt_b126 at hf
  refine x_iinc (v := (x2 + (1 : Int32))) (lv' := [(2, .int (x2 + (1 : Int32))), (0, .ref (a 0)), (1, .int x1)]) X dX7_chooseAt_126 hl (j := 2) rfl rfl (by decide) rfl (fun ls hl => ?_)
  refine x_goto (tgt := 96) X dX7_chooseAt_129 rfl ?_
  exact hK96 x1 (x2 + (1 : Int32)) s ls hf (lv_sub hl [1, 2, 0] rfl)
set_option maxHeartbeats 4000000 in
set_option maxRecDepth 100000 in
theorem b_X7_chooseAt_96 {p : Program} {l : Launch} {e : Env} {S0 : State} {m : MethodId} {args : Array Value} {below : List Frame} {meth : Method} {c : Code} {A : Nat → Prop} {D : va_G} {cI cZ cJ : ClassId} {a : Nat → Nat} (X : x_X p S0 m args meth c cX7_chooseAt 5 none RX7 wsX7_chooseAt D (x_tys cI cZ cJ) A) (F : Nat) {r : Int32} {s' : CS}  : ∀ (n : Nat) (x1 x2 : Int32) (s : CS) (ls : Array Slot), r_X7_chooseAt_b96 F n x1 x2 s = some (r, s') → lv_has ls 5 [(0, .ref (a 0)), (1, .int x1), (2, .int x2)] → x_W p l e rm_X7_chooseAt S0 m args below meth c A D (cwld cI a) 0 0 (x_Rv below args S0 A D (cwld cI a) s') s (F0 m 96 ls []) := by
  intro n
  induction n with
  | zero =>
    intro x1 x2 s ls hf hl
    have hf : (none : Option (Int32 × CS)) = some (r, s') := hf
    cases hf
  | succ n ih =>
    intro x1 x2 s ls hf hl
    rw [r_X7_chooseAt_b96_s] at hf
    refine x_iload_n X dX7_chooseAt_96 rfl hl 2 rfl ?_
    refine x_iconst X dX7_chooseAt_97 xk_iconst_5 ?_
    refine x_icmp_ge (tgt := 132) X dX7_chooseAt_98 rfl (fun q5 => ?_) (fun q5 => ?_)
    · have hf := (if_pos q5).symm.trans hf
      exact x_vret X rfl hf dX7_chooseAt_132
    · have hf := (if_neg q5).symm.trans hf
      refine x_aload_n X dX7_chooseAt_101 rfl hl 0 rfl ?_
      refine x_getf X in_X7_chooseAt_X7 (cw_o0 _ _ _) rfl 8 (by decide) lk_X7_chooseAt_67 rfl rfl dX7_chooseAt_102 ?_
      refine x_iload_n X dX7_chooseAt_105 rfl hl 2 rfl ?_
      obtain ⟨v7, s6, c8, hf⟩ := x_ob_of hf
      refine x_cVi X (7 + 2) 5 (cw_row (by decide : 2 < 22)) rfl rfl (c_X5_at l D cI cZ cJ a (k := 2) (by decide) F c8) (cwV 1 X.2.2.2.2.1 gX7_chooseAt_X5_at rfl rfl rfl (by decide +kernel) ⟨Nat.le_of_ble_eq_true rfl, Nat.le_of_ble_eq_true rfl⟩) rfl hl rfl (Nat.le_of_ble_eq_true rfl) ⟨Nat.zero_le _, Nat.zero_le _⟩ dX7_chooseAt_106 ?_
      refine x_if_eq (tgt := 126) X dX7_chooseAt_109 rfl (fun q9 => ?_) (fun q9 => ?_)
      · have hf := (if_pos q9).symm.trans hf
        exact b_X7_chooseAt_126 X F _ ih x1 x2 s6 ls hf (lv_sub hl [0, 1, 2] rfl)
      · have hf := (if_neg q9).symm.trans hf
        refine x_aload_n X dX7_chooseAt_112 rfl hl 0 rfl ?_
        refine x_iload_n X dX7_chooseAt_113 rfl hl 1 rfl ?_
        refine x_iload_n X dX7_chooseAt_114 rfl hl 2 rfl ?_
        refine x_aload_n X dX7_chooseAt_115 rfl hl 0 rfl ?_
        refine x_getf X in_X7_chooseAt_X7 (cw_o0 _ _ _) rfl 8 (by decide) lk_X7_chooseAt_67 rfl rfl dX7_chooseAt_116 ?_
        refine x_iload_n X dX7_chooseAt_119 rfl hl 2 rfl ?_
        obtain ⟨v11, s10, c12, hf⟩ := x_ob_of hf
        refine x_cVi X (7 + 2) 5 (cw_row (by decide : 2 < 22)) rfl rfl (c_X5_at l D cI cZ cJ a (k := 2) (by decide) F c12) (cwV 1 X.2.2.2.2.1 gX7_chooseAt_X5_at rfl rfl rfl (by decide +kernel) ⟨Nat.le_of_ble_eq_true rfl, Nat.le_of_ble_eq_true rfl⟩) rfl hl rfl (Nat.le_of_ble_eq_true rfl) ⟨Nat.zero_le _, Nat.zero_le _⟩ dX7_chooseAt_120 ?_
        obtain ⟨v14, s13, c15, hf⟩ := x_ob_of hf
        refine x_cVv X 0 7 (cw_o0 _ _ _) rfl rfl (c_X7_takeTurn l D cI cZ cJ a F c15) (cwV 3 X.2.2.2.2.1 gX7_chooseAt_X7_takeTurn rfl rfl rfl (by decide +kernel) ⟨Nat.le_of_ble_eq_true rfl, Nat.le_of_ble_eq_true rfl⟩) rfl hl rfl (Nat.le_of_ble_eq_true rfl) ⟨Nat.zero_le _, Nat.zero_le _⟩ dX7_chooseAt_123 ?_
        exact b_X7_chooseAt_126 X F _ ih x1 x2 s13 ls hf (lv_sub hl [0, 1, 2] rfl)
set_option maxHeartbeats 4000000 in
set_option maxRecDepth 100000 in
theorem b_X7_chooseAt_88 {p : Program} {l : Launch} {e : Env} {S0 : State} {m : MethodId} {args : Array Value} {below : List Frame} {meth : Method} {c : Code} {A : Nat → Prop} {D : va_G} {cI cZ cJ : ClassId} {a : Nat → Nat} (X : x_X p S0 m args meth c cX7_chooseAt 5 none RX7 wsX7_chooseAt D (x_tys cI cZ cJ) A) (F : Nat) {r : Int32} {s' : CS} (K10 : Int32 → Int32 → CS → Option (Int32 × CS)) (hK10 : ∀ (x1 x2 : Int32) (s : CS) (ls : Array Slot), K10 x1 x2 s = some (r, s') → lv_has ls 5 [(0, .ref (a 0)), (1, .int x1), (2, .int x2)] → x_W p l e rm_X7_chooseAt S0 m args below meth c A D (cwld cI a) 0 0 (x_Rv below args S0 A D (cwld cI a) s') s (F0 m 10 ls [])) : ∀ (x1 x2 : Int32) (s : CS) (ls : Array Slot), r_X7_chooseAt_b88 K10 F x1 x2 s = some (r, s') → lv_has ls 5 [(0, .ref (a 0)), (1, .int x1), (2, .int x2)] → x_W p l e rm_X7_chooseAt S0 m args below meth c A D (cwld cI a) 0 0 (x_Rv below args S0 A D (cwld cI a) s') s (F0 m 88 ls []) := by
  intro x1 x2 s ls hf hl
  unfold r_X7_chooseAt_b88 at hf
  refine x_iinc (v := (x2 + (1 : Int32))) (lv' := [(2, .int (x2 + (1 : Int32))), (0, .ref (a 0)), (1, .int x1)]) X dX7_chooseAt_88 hl (j := 2) rfl rfl (by decide) rfl (fun ls hl => ?_)
  refine x_goto (tgt := 10) X dX7_chooseAt_91 rfl ?_
  exact hK10 x1 (x2 + (1 : Int32)) s ls hf (lv_sub hl [1, 2, 0] rfl)
set_option maxHeartbeats 4000000 in
set_option maxRecDepth 100000 in
theorem b_X7_chooseAt_10 {p : Program} {l : Launch} {e : Env} {S0 : State} {m : MethodId} {args : Array Value} {below : List Frame} {meth : Method} {c : Code} {A : Nat → Prop} {D : va_G} {cI cZ cJ : ClassId} {a : Nat → Nat} (X : x_X p S0 m args meth c cX7_chooseAt 5 none RX7 wsX7_chooseAt D (x_tys cI cZ cJ) A) (F : Nat) {r : Int32} {s' : CS}  : ∀ (n : Nat) (x1 x2 : Int32) (s : CS) (ls : Array Slot), r_X7_chooseAt_b10 F n x1 x2 s = some (r, s') → lv_has ls 5 [(0, .ref (a 0)), (1, .int x1), (2, .int x2)] → x_W p l e rm_X7_chooseAt S0 m args below meth c A D (cwld cI a) 0 0 (x_Rv below args S0 A D (cwld cI a) s') s (F0 m 10 ls []) := by
  intro n
  induction n with
  | zero =>
    intro x1 x2 s ls hf hl
    have hf : (none : Option (Int32 × CS)) = some (r, s') := hf
    cases hf
  | succ n ih =>
    intro x1 x2 s ls hf hl
    rw [r_X7_chooseAt_b10_s] at hf
    refine x_iload_n X dX7_chooseAt_10 rfl hl 2 rfl ?_
    refine x_bipush X dX7_chooseAt_11 xk_bipush_10 ?_
    refine x_icmp_ge (tgt := 94) X dX7_chooseAt_13 rfl (fun q4 => ?_) (fun q4 => ?_)
    · have hf := (if_pos q4).symm.trans hf
      refine x_iconst X dX7_chooseAt_94 xk_iconst_0 ?_
      refine x_istoreA_n (lv' := [(2, .int (0 : Int32)), (0, .ref (a 0)), (1, .int x1)]) X dX7_chooseAt_95 rfl hl (by decide) rfl (fun ls hl => ?_)
      exact b_X7_chooseAt_96 X F F x1 (0 : Int32) s ls hf (lv_sub hl [1, 2, 0] rfl)
    · have hf := (if_neg q4).symm.trans hf
      refine x_aload_n X dX7_chooseAt_16 rfl hl 0 rfl ?_
      refine x_getf X in_X7_chooseAt_X7 (cw_o0 _ _ _) rfl 2 (by decide) lk_X7_chooseAt_28 rfl rfl dX7_chooseAt_17 ?_
      refine x_iload_n X dX7_chooseAt_20 rfl hl 1 rfl ?_
      refine x_bipush X dX7_chooseAt_21 xk_bipush_10 ?_
      refine x_imul X dX7_chooseAt_23 ?_
      refine x_iload_n X dX7_chooseAt_24 rfl hl 2 rfl ?_
      refine x_iadd X dX7_chooseAt_25 ?_
      obtain ⟨v17, s16, c18, hf⟩ := x_ob_of hf
      refine x_cVi X 3 0 (cw_o3 _ _ _) rfl rfl (c_X0_first l D cI cZ cJ a F c18) (cwV 1 X.2.2.2.2.1 gX7_chooseAt_X0_first rfl rfl rfl (by decide +kernel) ⟨Nat.le_of_ble_eq_true rfl, Nat.le_of_ble_eq_true rfl⟩) rfl hl rfl (Nat.le_of_ble_eq_true rfl) ⟨Nat.zero_le _, Nat.zero_le _⟩ dX7_chooseAt_26 ?_
      refine x_istoreA_n (lv' := [(3, .int v17), (0, .ref (a 0)), (1, .int x1), (2, .int x2)]) X dX7_chooseAt_29 rfl hl (by decide) rfl (fun ls hl => ?_)
      refine x_iload_n X dX7_chooseAt_30 rfl hl 0 rfl ?_
      refine x_iconst X dX7_chooseAt_31 xk_iconst_m1 ?_
      refine x_icmp_eq (tgt := 88) X dX7_chooseAt_32 rfl (fun q19 => ?_) (fun q19 => ?_)
      · have hf := (if_pos q19).symm.trans hf
        exact b_X7_chooseAt_88 X F _ ih x1 x2 s16 ls hf (lv_sub hl [1, 2, 3] rfl)
      · have hf := (if_neg q19).symm.trans hf
        refine x_aload_n X dX7_chooseAt_35 rfl hl 1 rfl ?_
        refine x_getf X in_X7_chooseAt_X7 (cw_o0 _ _ _) rfl 1 (by decide) lk_X7_chooseAt_21 rfl rfl dX7_chooseAt_36 ?_
        refine x_iload_n X dX7_chooseAt_39 rfl hl 0 rfl ?_
        obtain ⟨v21, s20, c22, hf⟩ := x_ob_of hf
        refine x_cVi X 2 4 (cw_o2 _ _ _) rfl rfl (c_X4_outputOf l D cI cZ cJ a F c22) (cwV 1 X.2.2.2.2.1 gX7_chooseAt_X4_outputOf rfl rfl rfl (by decide +kernel) ⟨Nat.le_of_ble_eq_true rfl, Nat.le_of_ble_eq_true rfl⟩) rfl hl rfl (Nat.le_of_ble_eq_true rfl) ⟨Nat.zero_le _, Nat.zero_le _⟩ dX7_chooseAt_40 ?_
        refine x_istoreA (lv' := [(4, .int v21), (3, .int v17), (0, .ref (a 0)), (1, .int x1), (2, .int x2)]) X dX7_chooseAt_43 hl (by decide) rfl (fun ls hl => ?_)
        refine x_aload_n X dX7_chooseAt_45 rfl hl 2 rfl ?_
        refine x_iload_n X dX7_chooseAt_46 rfl hl 3 rfl ?_
        refine x_iload X dX7_chooseAt_47 hl 0 rfl ?_
        refine x_aload_n X dX7_chooseAt_49 rfl hl 2 rfl ?_
        refine x_getf X in_X7_chooseAt_X7 (cw_o0 _ _ _) rfl 1 (by decide) lk_X7_chooseAt_21 rfl rfl dX7_chooseAt_50 ?_
        refine x_getN X in_X7_chooseAt_X4 (cw_o2 _ _ _) rfl 3 (by decide) (by decide +kernel) rfl rfl dX7_chooseAt_53 ?_
        refine x_iload_n X dX7_chooseAt_56 rfl hl 1 rfl ?_
        obtain ⟨v24, s23, c25, hf⟩ := x_ob_of hf
        refine x_cVi X (7 + 8) 5 (cw_row (by decide : 8 < 22)) rfl rfl (c_X5_at l D cI cZ cJ a (k := 8) (by decide) F c25) (cwV 1 X.2.2.2.2.1 gX7_chooseAt_X5_at rfl rfl rfl (by decide +kernel) ⟨Nat.le_of_ble_eq_true rfl, Nat.le_of_ble_eq_true rfl⟩) rfl hl rfl (Nat.le_of_ble_eq_true rfl) ⟨Nat.zero_le _, Nat.zero_le _⟩ dX7_chooseAt_57 ?_
        obtain ⟨v27, s26, c28, hf⟩ := x_ob_of hf
        refine x_cVi X 0 7 (cw_o0 _ _ _) rfl rfl (c_X7_canGo l D cI cZ cJ a F c28) (cwV 3 X.2.2.2.2.1 gX7_chooseAt_X7_canGo rfl rfl rfl (by decide +kernel) ⟨Nat.le_of_ble_eq_true rfl, Nat.le_of_ble_eq_true rfl⟩) rfl hl rfl (Nat.le_of_ble_eq_true rfl) ⟨Nat.zero_le _, Nat.zero_le _⟩ dX7_chooseAt_60 ?_
        refine x_if_eq (tgt := 88) X dX7_chooseAt_63 rfl (fun q29 => ?_) (fun q29 => ?_)
        · have hf := (if_pos q29).symm.trans hf
          exact b_X7_chooseAt_88 X F _ ih x1 x2 s26 ls hf (lv_sub hl [2, 3, 4] rfl)
        · have hf := (if_neg q29).symm.trans hf
          refine x_aload_n X dX7_chooseAt_66 rfl hl 2 rfl ?_
          refine x_getf X in_X7_chooseAt_X7 (cw_o0 _ _ _) rfl 8 (by decide) lk_X7_chooseAt_67 rfl rfl dX7_chooseAt_67 ?_
          refine x_iload X dX7_chooseAt_70 hl 0 rfl ?_
          refine x_aload_n X dX7_chooseAt_72 rfl hl 2 rfl ?_
          refine x_getf X in_X7_chooseAt_X7 (cw_o0 _ _ _) rfl 8 (by decide) lk_X7_chooseAt_67 rfl rfl dX7_chooseAt_73 ?_
          refine x_iload X dX7_chooseAt_76 hl 0 rfl ?_
          obtain ⟨v31, s30, c32, hf⟩ := x_ob_of hf
          refine x_cVi X (7 + 2) 5 (cw_row (by decide : 2 < 22)) rfl rfl (c_X5_at l D cI cZ cJ a (k := 2) (by decide) F c32) (cwV 1 X.2.2.2.2.1 gX7_chooseAt_X5_at rfl rfl rfl (by decide +kernel) ⟨Nat.le_of_ble_eq_true rfl, Nat.le_of_ble_eq_true rfl⟩) rfl hl rfl (Nat.le_of_ble_eq_true rfl) ⟨Nat.zero_le _, Nat.zero_le _⟩ dX7_chooseAt_78 ?_
          refine x_iconst X dX7_chooseAt_81 xk_iconst_1 ?_
          refine x_iload_n X dX7_chooseAt_82 rfl hl 4 rfl ?_
          refine x_ishl X dX7_chooseAt_83 ?_
          refine x_ior X dX7_chooseAt_84 ?_
          obtain ⟨v34, s33, c35, hf⟩ := x_ob_of hf
          refine x_cVv X (7 + 2) 5 (cw_row (by decide : 2 < 22)) rfl rfl (c_X5_put l D cI cZ cJ a (k := 2) (by decide) F c35) (cwV 2 X.2.2.2.2.1 gX7_chooseAt_X5_put rfl rfl rfl (by decide +kernel) ⟨Nat.le_of_ble_eq_true rfl, Nat.le_of_ble_eq_true rfl⟩) rfl hl rfl (Nat.le_of_ble_eq_true rfl) ⟨Nat.zero_le _, Nat.zero_le _⟩ dX7_chooseAt_85 ?_
          exact b_X7_chooseAt_88 X F _ ih x1 x2 s33 ls hf (lv_sub hl [2, 3, 4] rfl)
set_option maxHeartbeats 4000000 in
set_option maxRecDepth 100000 in
theorem c_X7_chooseAt (l : Launch) (D : va_G) (cI cZ cJ : ClassId) (a : Nat → Nat) (F : Nat) {s s' : CS} {r : Int32} {x1 : Int32} (hf : r_X7_chooseAt F x1 s = some (r, s')) : x_Mv l yX7_chooseAt wsX7_chooseAt rm_X7_chooseAt D (x_tys cI cZ cJ) (cwld cI a) [.ref (a 0), .int x1] s s' := by
  refine x_enterv (cc := cX7_chooseAt) (nL := 5) (own := RX7) (by decide) rfl rfl (Nat.le_of_ble_eq_true rfl) ?_
  intro p e S0 m args below meth c A X ls hl
  have hl : lv_has ls 5 [(0, .ref (a 0)), (1, .int x1)] := hl
  unfold r_X7_chooseAt at hf
  refine x_aload_n X dX7_chooseAt_0 rfl hl 0 rfl ?_
  refine x_getf X in_X7_chooseAt_X7 (cw_o0 _ _ _) rfl 8 (by decide) lk_X7_chooseAt_67 rfl rfl dX7_chooseAt_1 ?_
  refine x_iconst X dX7_chooseAt_4 xk_iconst_0 ?_
  obtain ⟨v2, s1, c3, hf⟩ := x_ob_of hf
  refine x_cVv X (7 + 2) 5 (cw_row (by decide : 2 < 22)) rfl rfl (c_X5_fill l D cI cZ cJ a (k := 2) (by decide) F c3) (cwV 1 X.2.2.2.2.1 gX7_chooseAt_X5_fill rfl rfl rfl (by decide +kernel) ⟨Nat.le_of_ble_eq_true rfl, Nat.le_of_ble_eq_true rfl⟩) rfl hl rfl (Nat.le_of_ble_eq_true rfl) ⟨Nat.zero_le _, Nat.zero_le _⟩ dX7_chooseAt_5 ?_
  refine x_iconst X dX7_chooseAt_8 xk_iconst_0 ?_
  refine x_istoreA_n (lv' := [(2, .int (0 : Int32)), (0, .ref (a 0)), (1, .int x1)]) X dX7_chooseAt_9 rfl hl (by decide) rfl (fun ls hl => ?_)
  exact b_X7_chooseAt_10 X F F x1 (0 : Int32) s1 ls hf (lv_sub hl [1, 2, 0] rfl)
def rm_X7_move : Room := { frames := 3, cells := 0, slots := 0, locals := 70 }
theorem in_X7_move_X4 : ∀ w ∈ wsX40, w ∈ wsX7_move := by decide +kernel
theorem in_X7_move_X7 : ∀ w ∈ wsX70, w ∈ wsX7_move := by decide +kernel
theorem lk_X7_move_12 : Cond.fieldLink RX7 12 "Creditfabric" "grid" "LCreditfabric$Grid;" ∈ wsX7_move := by decide +kernel
theorem lk_X7_move_21 : Cond.fieldLink RX7 21 "Creditfabric" "traffic" "LCreditfabric$Packets;" ∈ wsX7_move := by decide +kernel
theorem lk_X7_move_28 : Cond.fieldLink RX7 28 "Creditfabric" "buffers" "LCreditfabric$Buffers;" ∈ wsX7_move := by decide +kernel
theorem lk_X7_move_35 : Cond.fieldLink RX7 35 "Creditfabric" "purse" "LCreditfabric$Credits;" ∈ wsX7_move := by decide +kernel
theorem lk_X7_move_42 : Cond.fieldLink RX7 42 "Creditfabric" "senders" "LCreditfabric$Senders;" ∈ wsX7_move := by decide +kernel
theorem lk_X7_move_115 : Cond.fieldLink RX7 115 "Creditfabric" "now" "I" ∈ wsX7_move := by decide +kernel
set_option maxHeartbeats 4000000 in
set_option maxRecDepth 100000 in
theorem b_X7_move_134 {p : Program} {l : Launch} {e : Env} {S0 : State} {m : MethodId} {args : Array Value} {below : List Frame} {meth : Method} {c : Code} {A : Nat → Prop} {D : va_G} {cI cZ cJ : ClassId} {a : Nat → Nat} (X : x_X p S0 m args meth c cX7_move 7 none RX7 wsX7_move D (x_tys cI cZ cJ) A) (F : Nat) {r : Int32} {s' : CS}  : ∀ (t0 t1 : Int32) (s : CS) (ls : Array Slot), r_X7_move_b134 F t0 t1 s = some (r, s') → lv_has ls 7 [] → x_W p l e rm_X7_move S0 m args below meth c A D (cwld cI a) 0 0 (x_Rv below args S0 A D (cwld cI a) s') s (F0 m 134 ls [.int t0, .int t1, .ref (a 5)]) := by
  intro t0 t1 s ls hf hl
  unfold r_X7_move_b134 at hf
  obtain ⟨v50, s49, c51, hf⟩ := x_ob_of hf
  refine x_cVv X 5 6 (cw_o5 _ _ _) rfl rfl (c_X6_adapt l D cI cZ cJ a F c51) (cwV 2 X.2.2.2.2.1 gX7_move_X6_adapt rfl rfl rfl (by decide +kernel) ⟨Nat.le_of_ble_eq_true rfl, Nat.le_of_ble_eq_true rfl⟩) rfl hl rfl (Nat.le_of_ble_eq_true rfl) ⟨Nat.zero_le _, Nat.zero_le _⟩ dX7_move_134 ?_
  exact x_vret X rfl hf dX7_move_137
set_option maxHeartbeats 4000000 in
set_option maxRecDepth 100000 in
theorem b_X7_move_87 {p : Program} {l : Launch} {e : Env} {S0 : State} {m : MethodId} {args : Array Value} {below : List Frame} {meth : Method} {c : Code} {A : Nat → Prop} {D : va_G} {cI cZ cJ : ClassId} {a : Nat → Nat} (X : x_X p S0 m args meth c cX7_move 7 none RX7 wsX7_move D (x_tys cI cZ cJ) A) (F : Nat) {r : Int32} {s' : CS}  : ∀ (x1 x2 x3 x5 : Int32) (s : CS) (ls : Array Slot), r_X7_move_b87 F x1 x2 x3 x5 s = some (r, s') → lv_has ls 7 [(0, .ref (a 0)), (1, .int x1), (2, .int x2), (3, .int x3), (5, .int x5)] → x_W p l e rm_X7_move S0 m args below meth c A D (cwld cI a) 0 0 (x_Rv below args S0 A D (cwld cI a) s') s (F0 m 87 ls []) := by
  intro x1 x2 x3 x5 s ls hf hl
  unfold r_X7_move_b87 at hf
  refine x_iload_n X dX7_move_87 rfl hl 2 rfl ?_
  refine x_iconst X dX7_move_88 xk_iconst_4 ?_
  refine x_icmp_ne (tgt := 138) X dX7_move_89 rfl (fun q20 => ?_) (fun q20 => ?_)
  · have hf := (if_neg q20).symm.trans hf
    refine x_aload_n X dX7_move_138 rfl hl 0 rfl ?_
    refine x_getf X in_X7_move_X7 (cw_o0 _ _ _) rfl 0 (by decide) lk_X7_move_12 rfl rfl dX7_move_139 ?_
    refine x_iload_n X dX7_move_142 rfl hl 3 rfl ?_
    refine x_iload_n X dX7_move_143 rfl hl 2 rfl ?_
    obtain ⟨v22, s21, c23, hf⟩ := x_ob_of hf
    refine x_cVi X 1 3 (cw_o1 _ _ _) rfl rfl (c_X3_behind l D cI cZ cJ a F c23) (cwV 2 X.2.2.2.2.1 gX7_move_X3_behind rfl rfl rfl (by decide +kernel) ⟨Nat.le_of_ble_eq_true rfl, Nat.le_of_ble_eq_true rfl⟩) rfl hl rfl (Nat.le_of_ble_eq_true rfl) ⟨Nat.zero_le _, Nat.zero_le _⟩ dX7_move_144 ?_
    refine x_istoreA (lv' := [(6, .int v22), (0, .ref (a 0)), (1, .int x1), (2, .int x2), (3, .int x3), (5, .int x5)]) X dX7_move_147 hl (by decide) rfl (fun ls hl => ?_)
    refine x_aload_n X dX7_move_149 rfl hl 1 rfl ?_
    refine x_getf X in_X7_move_X7 (cw_o0 _ _ _) rfl 3 (by decide) lk_X7_move_35 rfl rfl dX7_move_150 ?_
    refine x_iload X dX7_move_153 hl 0 rfl ?_
    refine x_iload_n X dX7_move_155 rfl hl 3 rfl ?_
    refine x_iload X dX7_move_156 hl 5 rfl ?_
    obtain ⟨v25, s24, c26, hf⟩ := x_ob_of hf
    refine x_cSi X (c_X7_bufferOf l D cI cZ cJ a F c26) (va_cwS 3 X.2.2.2.2.1 gX7_move_X7_bufferOf rfl rfl rfl (by decide +kernel) ⟨Nat.le_of_ble_eq_true rfl, Nat.le_of_ble_eq_true rfl⟩) rfl hl rfl (Nat.le_of_ble_eq_true rfl) ⟨Nat.zero_le _, Nat.zero_le _⟩ dX7_move_158 ?_
    obtain ⟨v28, s27, c29, hf⟩ := x_ob_of hf
    refine x_cVv X 4 2 (cw_o4 _ _ _) rfl rfl (c_X2_take l D cI cZ cJ a F c29) (cwV 1 X.2.2.2.2.1 gX7_move_X2_take rfl rfl rfl (by decide +kernel) ⟨Nat.le_of_ble_eq_true rfl, Nat.le_of_ble_eq_true rfl⟩) rfl hl rfl (Nat.le_of_ble_eq_true rfl) ⟨Nat.zero_le _, Nat.zero_le _⟩ dX7_move_161 ?_
    refine x_aload_n X dX7_move_164 rfl hl 1 rfl ?_
    refine x_getf X in_X7_move_X7 (cw_o0 _ _ _) rfl 2 (by decide) lk_X7_move_28 rfl rfl dX7_move_165 ?_
    refine x_iload X dX7_move_168 hl 0 rfl ?_
    refine x_iload_n X dX7_move_170 rfl hl 3 rfl ?_
    refine x_iload X dX7_move_171 hl 5 rfl ?_
    obtain ⟨v31, s30, c32, hf⟩ := x_ob_of hf
    refine x_cSi X (c_X7_bufferOf l D cI cZ cJ a F c32) (va_cwS 3 X.2.2.2.2.1 gX7_move_X7_bufferOf rfl rfl rfl (by decide +kernel) ⟨Nat.le_of_ble_eq_true rfl, Nat.le_of_ble_eq_true rfl⟩) rfl hl rfl (Nat.le_of_ble_eq_true rfl) ⟨Nat.zero_le _, Nat.zero_le _⟩ dX7_move_173 ?_
    refine x_iload_n X dX7_move_176 rfl hl 2 rfl ?_
    obtain ⟨v34, s33, c35, hf⟩ := x_ob_of hf
    refine x_cVv X 3 0 (cw_o3 _ _ _) rfl rfl (c_X0_append l D cI cZ cJ a F c35) (cwV 2 X.2.2.2.2.1 gX7_move_X0_append rfl rfl rfl (by decide +kernel) ⟨Nat.le_of_ble_eq_true rfl, Nat.le_of_ble_eq_true rfl⟩) rfl hl rfl (Nat.le_of_ble_eq_true rfl) ⟨Nat.zero_le _, Nat.zero_le _⟩ dX7_move_177 ?_
    refine x_aload_n X dX7_move_180 rfl hl 1 rfl ?_
    refine x_getf X in_X7_move_X7 (cw_o0 _ _ _) rfl 1 (by decide) lk_X7_move_21 rfl rfl dX7_move_181 ?_
    refine x_iload_n X dX7_move_184 rfl hl 2 rfl ?_
    refine x_iload X dX7_move_185 hl 0 rfl ?_
    refine x_iload_n X dX7_move_187 rfl hl 3 rfl ?_
    obtain ⟨v37, s36, c38, hf⟩ := x_ob_of hf
    refine x_cVv X 2 4 (cw_o2 _ _ _) rfl rfl (c_X4_goOver l D cI cZ cJ a F c38) (cwV 3 X.2.2.2.2.1 gX7_move_X4_goOver rfl rfl rfl (by decide +kernel) ⟨Nat.le_of_ble_eq_true rfl, Nat.le_of_ble_eq_true rfl⟩) rfl hl rfl (Nat.le_of_ble_eq_true rfl) ⟨Nat.zero_le _, Nat.zero_le _⟩ dX7_move_188 ?_
    exact x_vret X rfl hf dX7_move_191
  · have hf := (if_pos q20).symm.trans hf
    refine x_aload_n X dX7_move_92 rfl hl 0 rfl ?_
    refine x_getf X in_X7_move_X7 (cw_o0 _ _ _) rfl 1 (by decide) lk_X7_move_21 rfl rfl dX7_move_93 ?_
    refine x_iload_n X dX7_move_96 rfl hl 1 rfl ?_
    obtain ⟨v40, s39, c41, hf⟩ := x_ob_of hf
    refine x_cVv X 2 4 (cw_o2 _ _ _) rfl rfl (c_X4_goOut l D cI cZ cJ a F c41) (cwV 1 X.2.2.2.2.1 gX7_move_X4_goOut rfl rfl rfl (by decide +kernel) ⟨Nat.le_of_ble_eq_true rfl, Nat.le_of_ble_eq_true rfl⟩) rfl hl rfl (Nat.le_of_ble_eq_true rfl) ⟨Nat.zero_le _, Nat.zero_le _⟩ dX7_move_97 ?_
    refine x_aload_n X dX7_move_100 rfl hl 0 rfl ?_
    refine x_getf X in_X7_move_X7 (cw_o0 _ _ _) rfl 4 (by decide) lk_X7_move_42 rfl rfl dX7_move_101 ?_
    refine x_aload_n X dX7_move_104 rfl hl 0 rfl ?_
    refine x_getf X in_X7_move_X7 (cw_o0 _ _ _) rfl 1 (by decide) lk_X7_move_21 rfl rfl dX7_move_105 ?_
    refine x_getN X in_X7_move_X4 (cw_o2 _ _ _) rfl 1 (by decide) (by decide +kernel) rfl rfl dX7_move_108 ?_
    refine x_iload_n X dX7_move_111 rfl hl 1 rfl ?_
    obtain ⟨v43, s42, c44, hf⟩ := x_ob_of hf
    refine x_cVi X (7 + 6) 5 (cw_row (by decide : 6 < 22)) rfl rfl (c_X5_at l D cI cZ cJ a (k := 6) (by decide) F c44) (cwV 1 X.2.2.2.2.1 gX7_move_X5_at rfl rfl rfl (by decide +kernel) ⟨Nat.le_of_ble_eq_true rfl, Nat.le_of_ble_eq_true rfl⟩) rfl hl rfl (Nat.le_of_ble_eq_true rfl) ⟨Nat.zero_le _, Nat.zero_le _⟩ dX7_move_112 ?_
    refine x_aload_n X dX7_move_115 rfl hl 0 rfl ?_
    refine x_getf X in_X7_move_X7 (cw_o0 _ _ _) rfl 1 (by decide) lk_X7_move_21 rfl rfl dX7_move_116 ?_
    refine x_getN X in_X7_move_X4 (cw_o2 _ _ _) rfl 8 (by decide) (by decide +kernel) rfl rfl dX7_move_119 ?_
    refine x_iload_n X dX7_move_122 rfl hl 1 rfl ?_
    obtain ⟨v46, s45, c47, hf⟩ := x_ob_of hf
    refine x_cVi X (7 + 13) 5 (cw_row (by decide : 13 < 22)) rfl rfl (c_X5_at l D cI cZ cJ a (k := 13) (by decide) F c47) (cwV 1 X.2.2.2.2.1 gX7_move_X5_at rfl rfl rfl (by decide +kernel) ⟨Nat.le_of_ble_eq_true rfl, Nat.le_of_ble_eq_true rfl⟩) rfl hl rfl (Nat.le_of_ble_eq_true rfl) ⟨Nat.zero_le _, Nat.zero_le _⟩ dX7_move_123 ?_
    refine x_if_eq (tgt := 133) X dX7_move_126 rfl (fun q48 => ?_) (fun q48 => ?_)
    · have hf := (if_pos q48).symm.trans hf
      refine x_iconst X dX7_move_133 xk_iconst_0 ?_
      exact b_X7_move_134 X F (0 : Int32) v43 s45 ls hf (lv_sub hl [] rfl)
    · have hf := (if_neg q48).symm.trans hf
      refine x_iconst X dX7_move_129 xk_iconst_1 ?_
      refine x_goto (tgt := 134) X dX7_move_130 rfl ?_
      exact b_X7_move_134 X F (1 : Int32) v43 s45 ls hf (lv_sub hl [] rfl)
set_option maxHeartbeats 4000000 in
set_option maxRecDepth 100000 in
theorem c_X7_move (l : Launch) (D : va_G) (cI cZ cJ : ClassId) (a : Nat → Nat) (F : Nat) {s s' : CS} {r : Int32} {x1 : Int32} (hf : r_X7_move F x1 s = some (r, s')) : x_Mv l yX7_move wsX7_move rm_X7_move D (x_tys cI cZ cJ) (cwld cI a) [.ref (a 0), .int x1] s s' := by
  refine x_enterv (cc := cX7_move) (nL := 7) (own := RX7) (by decide) rfl rfl (Nat.le_of_ble_eq_true rfl) ?_
  intro p e S0 m args below meth c A X ls hl
  have hl : lv_has ls 7 [(0, .ref (a 0)), (1, .int x1)] := hl
  unfold r_X7_move at hf
  refine x_aload_n X dX7_move_0 rfl hl 0 rfl ?_
  refine x_getf X in_X7_move_X7 (cw_o0 _ _ _) rfl 1 (by decide) lk_X7_move_21 rfl rfl dX7_move_1 ?_
  refine x_iload_n X dX7_move_4 rfl hl 1 rfl ?_
  obtain ⟨v2, s1, c3, hf⟩ := x_ob_of hf
  refine x_cVi X 2 4 (cw_o2 _ _ _) rfl rfl (c_X4_outputOf l D cI cZ cJ a F c3) (cwV 1 X.2.2.2.2.1 gX7_move_X4_outputOf rfl rfl rfl (by decide +kernel) ⟨Nat.le_of_ble_eq_true rfl, Nat.le_of_ble_eq_true rfl⟩) rfl hl rfl (Nat.le_of_ble_eq_true rfl) ⟨Nat.zero_le _, Nat.zero_le _⟩ dX7_move_5 ?_
  refine x_istoreA_n (lv' := [(2, .int v2), (0, .ref (a 0)), (1, .int x1)]) X dX7_move_8 rfl hl (by decide) rfl (fun ls hl => ?_)
  refine x_aload_n X dX7_move_9 rfl hl 1 rfl ?_
  refine x_getf X in_X7_move_X7 (cw_o0 _ _ _) rfl 1 (by decide) lk_X7_move_21 rfl rfl dX7_move_10 ?_
  refine x_getN X in_X7_move_X4 (cw_o2 _ _ _) rfl 5 (by decide) (by decide +kernel) rfl rfl dX7_move_13 ?_
  refine x_iload_n X dX7_move_16 rfl hl 2 rfl ?_
  obtain ⟨v5, s4, c6, hf⟩ := x_ob_of hf
  refine x_cVi X (7 + 10) 5 (cw_row (by decide : 10 < 22)) rfl rfl (c_X5_at l D cI cZ cJ a (k := 10) (by decide) F c6) (cwV 1 X.2.2.2.2.1 gX7_move_X5_at rfl rfl rfl (by decide +kernel) ⟨Nat.le_of_ble_eq_true rfl, Nat.le_of_ble_eq_true rfl⟩) rfl hl rfl (Nat.le_of_ble_eq_true rfl) ⟨Nat.zero_le _, Nat.zero_le _⟩ dX7_move_17 ?_
  refine x_istoreA_n (lv' := [(3, .int v5), (2, .int v2), (0, .ref (a 0)), (1, .int x1)]) X dX7_move_20 rfl hl (by decide) rfl (fun ls hl => ?_)
  refine x_aload_n X dX7_move_21 rfl hl 2 rfl ?_
  refine x_getf X in_X7_move_X7 (cw_o0 _ _ _) rfl 1 (by decide) lk_X7_move_21 rfl rfl dX7_move_22 ?_
  refine x_getN X in_X7_move_X4 (cw_o2 _ _ _) rfl 6 (by decide) (by decide +kernel) rfl rfl dX7_move_25 ?_
  refine x_iload_n X dX7_move_28 rfl hl 3 rfl ?_
  obtain ⟨v8, s7, c9, hf⟩ := x_ob_of hf
  refine x_cVi X (7 + 11) 5 (cw_row (by decide : 11 < 22)) rfl rfl (c_X5_at l D cI cZ cJ a (k := 11) (by decide) F c9) (cwV 1 X.2.2.2.2.1 gX7_move_X5_at rfl rfl rfl (by decide +kernel) ⟨Nat.le_of_ble_eq_true rfl, Nat.le_of_ble_eq_true rfl⟩) rfl hl rfl (Nat.le_of_ble_eq_true rfl) ⟨Nat.zero_le _, Nat.zero_le _⟩ dX7_move_29 ?_
  refine x_istoreA (lv' := [(4, .int v8), (3, .int v5), (2, .int v2), (0, .ref (a 0)), (1, .int x1)]) X dX7_move_32 hl (by decide) rfl (fun ls hl => ?_)
  refine x_aload_n X dX7_move_34 rfl hl 3 rfl ?_
  refine x_getf X in_X7_move_X7 (cw_o0 _ _ _) rfl 1 (by decide) lk_X7_move_21 rfl rfl dX7_move_35 ?_
  refine x_getN X in_X7_move_X4 (cw_o2 _ _ _) rfl 3 (by decide) (by decide +kernel) rfl rfl dX7_move_38 ?_
  refine x_iload_n X dX7_move_41 rfl hl 4 rfl ?_
  obtain ⟨v11, s10, c12, hf⟩ := x_ob_of hf
  refine x_cVi X (7 + 8) 5 (cw_row (by decide : 8 < 22)) rfl rfl (c_X5_at l D cI cZ cJ a (k := 8) (by decide) F c12) (cwV 1 X.2.2.2.2.1 gX7_move_X5_at rfl rfl rfl (by decide +kernel) ⟨Nat.le_of_ble_eq_true rfl, Nat.le_of_ble_eq_true rfl⟩) rfl hl rfl (Nat.le_of_ble_eq_true rfl) ⟨Nat.zero_le _, Nat.zero_le _⟩ dX7_move_42 ?_
  refine x_istoreA (lv' := [(5, .int v11), (4, .int v8), (3, .int v5), (2, .int v2), (0, .ref (a 0)), (1, .int x1)]) X dX7_move_45 hl (by decide) rfl (fun ls hl => ?_)
  refine x_aload_n X dX7_move_47 rfl hl 4 rfl ?_
  refine x_getf X in_X7_move_X7 (cw_o0 _ _ _) rfl 2 (by decide) lk_X7_move_28 rfl rfl dX7_move_48 ?_
  refine x_iload_n X dX7_move_51 rfl hl 2 rfl ?_
  refine x_iload X dX7_move_52 hl 1 rfl ?_
  refine x_iload X dX7_move_54 hl 0 rfl ?_
  obtain ⟨v14, s13, c15, hf⟩ := x_ob_of hf
  refine x_cSi X (c_X7_bufferOf l D cI cZ cJ a F c15) (va_cwS 3 X.2.2.2.2.1 gX7_move_X7_bufferOf rfl rfl rfl (by decide +kernel) ⟨Nat.le_of_ble_eq_true rfl, Nat.le_of_ble_eq_true rfl⟩) rfl hl rfl (Nat.le_of_ble_eq_true rfl) ⟨Nat.zero_le _, Nat.zero_le _⟩ dX7_move_56 ?_
  obtain ⟨v17, s16, c18, hf⟩ := x_ob_of hf
  refine x_cVv X 3 0 (cw_o3 _ _ _) rfl rfl (c_X0_removeFirst l D cI cZ cJ a F c18) (cwV 1 X.2.2.2.2.1 gX7_move_X0_removeFirst rfl rfl rfl (by decide +kernel) ⟨Nat.le_of_ble_eq_true rfl, Nat.le_of_ble_eq_true rfl⟩) rfl hl rfl (Nat.le_of_ble_eq_true rfl) ⟨Nat.zero_le _, Nat.zero_le _⟩ dX7_move_59 ?_
  refine x_iload X dX7_move_62 hl 1 rfl ?_
  refine x_iconst X dX7_move_64 xk_iconst_4 ?_
  refine x_icmp_eq (tgt := 87) X dX7_move_65 rfl (fun q19 => ?_) (fun q19 => ?_)
  · have hf := (if_pos q19).symm.trans hf
    exact b_X7_move_87 X F x1 v2 v5 v11 s16 ls hf (lv_sub hl [4, 5, 3, 2, 0] rfl)
  · have hf := (if_neg q19).symm.trans hf
    refine x_aload_n X dX7_move_68 rfl hl 4 rfl ?_
    refine x_getf X in_X7_move_X7 (cw_o0 _ _ _) rfl 3 (by decide) lk_X7_move_35 rfl rfl dX7_move_69 ?_
    refine x_iload_n X dX7_move_72 rfl hl 2 rfl ?_
    refine x_iload X dX7_move_73 hl 1 rfl ?_
    refine x_iload X dX7_move_75 hl 0 rfl ?_
    obtain ⟨v53, s52, c54, hf⟩ := x_ob_of hf
    refine x_cSi X (c_X7_bufferOf l D cI cZ cJ a F c54) (va_cwS 3 X.2.2.2.2.1 gX7_move_X7_bufferOf rfl rfl rfl (by decide +kernel) ⟨Nat.le_of_ble_eq_true rfl, Nat.le_of_ble_eq_true rfl⟩) rfl hl rfl (Nat.le_of_ble_eq_true rfl) ⟨Nat.zero_le _, Nat.zero_le _⟩ dX7_move_77 ?_
    refine x_aload_n X dX7_move_80 rfl hl 4 rfl ?_
    refine x_getf X in_X7_move_X7 (cw_o0 _ _ _) rfl 11 (by decide) lk_X7_move_115 rfl rfl dX7_move_81 ?_
    obtain ⟨v56, s55, c57, hf⟩ := x_ob_of hf
    refine x_cVv X 4 2 (cw_o4 _ _ _) rfl rfl (c_X2_giveBack l D cI cZ cJ a F c57) (cwV 2 X.2.2.2.2.1 gX7_move_X2_giveBack rfl rfl rfl (by decide +kernel) ⟨Nat.le_of_ble_eq_true rfl, Nat.le_of_ble_eq_true rfl⟩) rfl hl rfl (Nat.le_of_ble_eq_true rfl) ⟨Nat.zero_le _, Nat.zero_le _⟩ dX7_move_84 ?_
    exact b_X7_move_87 X F x1 v2 v5 v11 s55 ls hf (lv_sub hl [4, 5, 3, 2, 0] rfl)
def rm_X7_markInCrowd : Room := { frames := 2, cells := 0, slots := 0, locals := 44 }
theorem in_X7_markInCrowd_X4 : ∀ w ∈ wsX40, w ∈ wsX7_markInCrowd := by decide +kernel
theorem in_X7_markInCrowd_X7 : ∀ w ∈ wsX70, w ∈ wsX7_markInCrowd := by decide +kernel
theorem lk_X7_markInCrowd_21 : Cond.fieldLink RX7 21 "Creditfabric" "traffic" "LCreditfabric$Packets;" ∈ wsX7_markInCrowd := by decide +kernel
theorem lk_X7_markInCrowd_28 : Cond.fieldLink RX7 28 "Creditfabric" "buffers" "LCreditfabric$Buffers;" ∈ wsX7_markInCrowd := by decide +kernel
set_option maxHeartbeats 4000000 in
set_option maxRecDepth 100000 in
theorem b_X7_markInCrowd_41 {p : Program} {l : Launch} {e : Env} {S0 : State} {m : MethodId} {args : Array Value} {below : List Frame} {meth : Method} {c : Code} {A : Nat → Prop} {D : va_G} {cI cZ cJ : ClassId} {a : Nat → Nat} (X : x_X p S0 m args meth c cX7_markInCrowd 3 none RX7 wsX7_markInCrowd D (x_tys cI cZ cJ) A) (F : Nat) {r : Int32} {s' : CS}  : ∀ (s : CS) (ls : Array Slot), r_X7_markInCrowd_b41 F s = some (r, s') → lv_has ls 3 [] → x_W p l e rm_X7_markInCrowd S0 m args below meth c A D (cwld cI a) 0 0 (x_Rv below args S0 A D (cwld cI a) s') s (F0 m 41 ls []) := by
  intro s ls hf hl
  unfold r_X7_markInCrowd_b41 at hf
  exact x_vret X rfl hf dX7_markInCrowd_41
set_option maxHeartbeats 4000000 in
set_option maxRecDepth 100000 in
theorem c_X7_markInCrowd (l : Launch) (D : va_G) (cI cZ cJ : ClassId) (a : Nat → Nat) (F : Nat) {s s' : CS} {r : Int32} {x1 : Int32} (hf : r_X7_markInCrowd F x1 s = some (r, s')) : x_Mv l yX7_markInCrowd wsX7_markInCrowd rm_X7_markInCrowd D (x_tys cI cZ cJ) (cwld cI a) [.ref (a 0), .int x1] s s' := by
  refine x_enterv (cc := cX7_markInCrowd) (nL := 3) (own := RX7) (by decide) rfl rfl (Nat.le_of_ble_eq_true rfl) ?_
  intro p e S0 m args below meth c A X ls hl
  have hl : lv_has ls 3 [(0, .ref (a 0)), (1, .int x1)] := hl
  unfold r_X7_markInCrowd at hf
  refine x_aload_n X dX7_markInCrowd_0 rfl hl 0 rfl ?_
  refine x_getf X in_X7_markInCrowd_X7 (cw_o0 _ _ _) rfl 1 (by decide) lk_X7_markInCrowd_21 rfl rfl dX7_markInCrowd_1 ?_
  refine x_getN X in_X7_markInCrowd_X4 (cw_o2 _ _ _) rfl 5 (by decide) (by decide +kernel) rfl rfl dX7_markInCrowd_4 ?_
  refine x_iload_n X dX7_markInCrowd_7 rfl hl 1 rfl ?_
  obtain ⟨v2, s1, c3, hf⟩ := x_ob_of hf
  refine x_cVi X (7 + 10) 5 (cw_row (by decide : 10 < 22)) rfl rfl (c_X5_at l D cI cZ cJ a (k := 10) (by decide) F c3) (cwV 1 X.2.2.2.2.1 gX7_markInCrowd_X5_at rfl rfl rfl (by decide +kernel) ⟨Nat.le_of_ble_eq_true rfl, Nat.le_of_ble_eq_true rfl⟩) rfl hl rfl (Nat.le_of_ble_eq_true rfl) ⟨Nat.zero_le _, Nat.zero_le _⟩ dX7_markInCrowd_8 ?_
  refine x_istoreA_n (lv' := [(2, .int v2), (0, .ref (a 0)), (1, .int x1)]) X dX7_markInCrowd_11 rfl hl (by decide) rfl (fun ls hl => ?_)
  refine x_iload_n X dX7_markInCrowd_12 rfl hl 0 rfl ?_
  refine x_iconst X dX7_markInCrowd_13 xk_iconst_m1 ?_
  refine x_icmp_eq (tgt := 41) X dX7_markInCrowd_14 rfl (fun q4 => ?_) (fun q4 => ?_)
  · have hf := (if_pos q4).symm.trans hf
    exact b_X7_markInCrowd_41 X F s1 ls hf (lv_sub hl [] rfl)
  · have hf := (if_neg q4).symm.trans hf
    refine x_aload_n X dX7_markInCrowd_17 rfl hl 1 rfl ?_
    refine x_getf X in_X7_markInCrowd_X7 (cw_o0 _ _ _) rfl 2 (by decide) lk_X7_markInCrowd_28 rfl rfl dX7_markInCrowd_18 ?_
    refine x_iload_n X dX7_markInCrowd_21 rfl hl 0 rfl ?_
    obtain ⟨v6, s5, c7, hf⟩ := x_ob_of hf
    refine x_cVi X 3 0 (cw_o3 _ _ _) rfl rfl (c_X0_load l D cI cZ cJ a F c7) (cwV 1 X.2.2.2.2.1 gX7_markInCrowd_X0_load rfl rfl rfl (by decide +kernel) ⟨Nat.le_of_ble_eq_true rfl, Nat.le_of_ble_eq_true rfl⟩) rfl hl rfl (Nat.le_of_ble_eq_true rfl) ⟨Nat.zero_le _, Nat.zero_le _⟩ dX7_markInCrowd_22 ?_
    refine x_iconst X dX7_markInCrowd_25 xk_iconst_4 ?_
    refine x_icmp_lt (tgt := 41) X dX7_markInCrowd_26 rfl (fun q8 => ?_) (fun q8 => ?_)
    · have hf := (if_pos q8).symm.trans hf
      exact b_X7_markInCrowd_41 X F s5 ls hf (lv_sub hl [] rfl)
    · have hf := (if_neg q8).symm.trans hf
      refine x_aload_n X dX7_markInCrowd_29 rfl hl 1 rfl ?_
      refine x_getf X in_X7_markInCrowd_X7 (cw_o0 _ _ _) rfl 1 (by decide) lk_X7_markInCrowd_21 rfl rfl dX7_markInCrowd_30 ?_
      refine x_getN X in_X7_markInCrowd_X4 (cw_o2 _ _ _) rfl 8 (by decide) (by decide +kernel) rfl rfl dX7_markInCrowd_33 ?_
      refine x_iload_n X dX7_markInCrowd_36 rfl hl 2 rfl ?_
      refine x_iconst X dX7_markInCrowd_37 xk_iconst_1 ?_
      obtain ⟨v10, s9, c11, hf⟩ := x_ob_of hf
      refine x_cVv X (7 + 13) 5 (cw_row (by decide : 13 < 22)) rfl rfl (c_X5_put l D cI cZ cJ a (k := 13) (by decide) F c11) (cwV 2 X.2.2.2.2.1 gX7_markInCrowd_X5_put rfl rfl rfl (by decide +kernel) ⟨Nat.le_of_ble_eq_true rfl, Nat.le_of_ble_eq_true rfl⟩) rfl hl rfl (Nat.le_of_ble_eq_true rfl) ⟨Nat.zero_le _, Nat.zero_le _⟩ dX7_markInCrowd_38 ?_
      exact b_X7_markInCrowd_41 X F s9 ls hf (lv_sub hl [] rfl)
def rm_X7_runOne : Room := { frames := 4, cells := 0, slots := 0, locals := 96 }
theorem in_X7_runOne_X7 : ∀ w ∈ wsX70, w ∈ wsX7_runOne := by decide +kernel
theorem lk_X7_runOne_12 : Cond.fieldLink RX7 12 "Creditfabric" "grid" "LCreditfabric$Grid;" ∈ wsX7_runOne := by decide +kernel
theorem lk_X7_runOne_35 : Cond.fieldLink RX7 35 "Creditfabric" "purse" "LCreditfabric$Credits;" ∈ wsX7_runOne := by decide +kernel
theorem lk_X7_runOne_70 : Cond.fieldLink RX7 70 "Creditfabric" "chosen" "LCreditfabric$Row;" ∈ wsX7_runOne := by decide +kernel
theorem lk_X7_runOne_115 : Cond.fieldLink RX7 115 "Creditfabric" "now" "I" ∈ wsX7_runOne := by decide +kernel
theorem lk_X7_runOne_240 : Cond.fieldLink RX7 240 "Creditfabric" "chosenCount" "I" ∈ wsX7_runOne := by decide +kernel
set_option maxHeartbeats 4000000 in
set_option maxRecDepth 100000 in
theorem b_X7_runOne_70 {p : Program} {l : Launch} {e : Env} {S0 : State} {m : MethodId} {args : Array Value} {below : List Frame} {meth : Method} {c : Code} {A : Nat → Prop} {D : va_G} {cI cZ cJ : ClassId} {a : Nat → Nat} (X : x_X p S0 m args meth c cX7_runOne 2 none RX7 wsX7_runOne D (x_tys cI cZ cJ) A) (F : Nat) {r : Int32} {s' : CS}  : ∀ (n : Nat) (x1 : Int32) (s : CS) (ls : Array Slot), r_X7_runOne_b70 F n x1 s = some (r, s') → lv_has ls 2 [(0, .ref (a 0)), (1, .int x1)] → x_W p l e rm_X7_runOne S0 m args below meth c A D (cwld cI a) 0 0 (x_Rv below args S0 A D (cwld cI a) s') s (F0 m 70 ls []) := by
  intro n
  induction n with
  | zero =>
    intro x1 s ls hf hl
    have hf : (none : Option (Int32 × CS)) = some (r, s') := hf
    cases hf
  | succ n ih =>
    intro x1 s ls hf hl
    rw [r_X7_runOne_b70_s] at hf
    refine x_iload_n X dX7_runOne_70 rfl hl 1 rfl ?_
    refine x_aload_n X dX7_runOne_71 rfl hl 0 rfl ?_
    refine x_getf X in_X7_runOne_X7 (cw_o0 _ _ _) rfl 10 (by decide) lk_X7_runOne_240 rfl rfl dX7_runOne_72 ?_
    refine x_icmp_ge (tgt := 96) X dX7_runOne_75 rfl (fun q10 => ?_) (fun q10 => ?_)
    · have hf := (if_pos q10).symm.trans hf
      refine x_aload_n X dX7_runOne_96 rfl hl 0 rfl ?_
      refine x_dup X dX7_runOne_97 rfl ?_
      refine x_getf X in_X7_runOne_X7 (cw_o0 _ _ _) rfl 11 (by decide) lk_X7_runOne_115 rfl rfl dX7_runOne_98 ?_
      refine x_iconst X dX7_runOne_101 xk_iconst_1 ?_
      refine x_iadd X dX7_runOne_102 ?_
      refine x_puti X in_X7_runOne_X7 (cw_o0 _ _ _) rfl 11 (by decide) tyX7 tyX7_ok nmX7 lk_X7_runOne_115 rfl rfl (by decide +kernel) (Nat.le_of_ble_eq_true rfl) (cw_s1 _ _ _ _) dX7_runOne_103 (fun s11 es11 => ?_)
      have hf := x_os_of es11 hf
      exact x_vret X rfl hf dX7_runOne_106
    · have hf := (if_neg q10).symm.trans hf
      refine x_aload_n X dX7_runOne_78 rfl hl 0 rfl ?_
      refine x_aload_n X dX7_runOne_79 rfl hl 0 rfl ?_
      refine x_getf X in_X7_runOne_X7 (cw_o0 _ _ _) rfl 9 (by decide) lk_X7_runOne_70 rfl rfl dX7_runOne_80 ?_
      refine x_iload_n X dX7_runOne_83 rfl hl 1 rfl ?_
      obtain ⟨v13, s12, c14, hf⟩ := x_ob_of hf
      refine x_cVi X (7 + 3) 5 (cw_row (by decide : 3 < 22)) rfl rfl (c_X5_at l D cI cZ cJ a (k := 3) (by decide) F c14) (cwV 1 X.2.2.2.2.1 gX7_runOne_X5_at rfl rfl rfl (by decide +kernel) ⟨Nat.le_of_ble_eq_true rfl, Nat.le_of_ble_eq_true rfl⟩) rfl hl rfl (Nat.le_of_ble_eq_true rfl) ⟨Nat.zero_le _, Nat.zero_le _⟩ dX7_runOne_84 ?_
      obtain ⟨v16, s15, c17, hf⟩ := x_ob_of hf
      refine x_cVv X 0 7 (cw_o0 _ _ _) rfl rfl (c_X7_markInCrowd l D cI cZ cJ a F c17) (cwV 1 X.2.2.2.2.1 gX7_runOne_X7_markInCrowd rfl rfl rfl (by decide +kernel) ⟨Nat.le_of_ble_eq_true rfl, Nat.le_of_ble_eq_true rfl⟩) rfl hl rfl (Nat.le_of_ble_eq_true rfl) ⟨Nat.zero_le _, Nat.zero_le _⟩ dX7_runOne_87 ?_
      refine x_iinc (v := (x1 + (1 : Int32))) (lv' := [(1, .int (x1 + (1 : Int32))), (0, .ref (a 0))]) X dX7_runOne_90 hl (j := 1) rfl rfl (by decide) rfl (fun ls hl => ?_)
      refine x_goto (tgt := 70) X dX7_runOne_93 rfl ?_
      exact ih (x1 + (1 : Int32)) s15 ls hf (lv_sub hl [1, 0] rfl)
set_option maxHeartbeats 4000000 in
set_option maxRecDepth 100000 in
theorem b_X7_runOne_42 {p : Program} {l : Launch} {e : Env} {S0 : State} {m : MethodId} {args : Array Value} {below : List Frame} {meth : Method} {c : Code} {A : Nat → Prop} {D : va_G} {cI cZ cJ : ClassId} {a : Nat → Nat} (X : x_X p S0 m args meth c cX7_runOne 2 none RX7 wsX7_runOne D (x_tys cI cZ cJ) A) (F : Nat) {r : Int32} {s' : CS}  : ∀ (n : Nat) (x1 : Int32) (s : CS) (ls : Array Slot), r_X7_runOne_b42 F n x1 s = some (r, s') → lv_has ls 2 [(0, .ref (a 0)), (1, .int x1)] → x_W p l e rm_X7_runOne S0 m args below meth c A D (cwld cI a) 0 0 (x_Rv below args S0 A D (cwld cI a) s') s (F0 m 42 ls []) := by
  intro n
  induction n with
  | zero =>
    intro x1 s ls hf hl
    have hf : (none : Option (Int32 × CS)) = some (r, s') := hf
    cases hf
  | succ n ih =>
    intro x1 s ls hf hl
    rw [r_X7_runOne_b42_s] at hf
    refine x_iload_n X dX7_runOne_42 rfl hl 1 rfl ?_
    refine x_aload_n X dX7_runOne_43 rfl hl 0 rfl ?_
    refine x_getf X in_X7_runOne_X7 (cw_o0 _ _ _) rfl 10 (by decide) lk_X7_runOne_240 rfl rfl dX7_runOne_44 ?_
    refine x_icmp_ge (tgt := 68) X dX7_runOne_47 rfl (fun q9 => ?_) (fun q9 => ?_)
    · have hf := (if_pos q9).symm.trans hf
      refine x_iconst X dX7_runOne_68 xk_iconst_0 ?_
      refine x_istoreA_n (lv' := [(1, .int (0 : Int32)), (0, .ref (a 0))]) X dX7_runOne_69 rfl hl (by decide) rfl (fun ls hl => ?_)
      exact b_X7_runOne_70 X F F (0 : Int32) s ls hf (lv_sub hl [1, 0] rfl)
    · have hf := (if_neg q9).symm.trans hf
      refine x_aload_n X dX7_runOne_50 rfl hl 0 rfl ?_
      refine x_aload_n X dX7_runOne_51 rfl hl 0 rfl ?_
      refine x_getf X in_X7_runOne_X7 (cw_o0 _ _ _) rfl 9 (by decide) lk_X7_runOne_70 rfl rfl dX7_runOne_52 ?_
      refine x_iload_n X dX7_runOne_55 rfl hl 1 rfl ?_
      obtain ⟨v19, s18, c20, hf⟩ := x_ob_of hf
      refine x_cVi X (7 + 3) 5 (cw_row (by decide : 3 < 22)) rfl rfl (c_X5_at l D cI cZ cJ a (k := 3) (by decide) F c20) (cwV 1 X.2.2.2.2.1 gX7_runOne_X5_at rfl rfl rfl (by decide +kernel) ⟨Nat.le_of_ble_eq_true rfl, Nat.le_of_ble_eq_true rfl⟩) rfl hl rfl (Nat.le_of_ble_eq_true rfl) ⟨Nat.zero_le _, Nat.zero_le _⟩ dX7_runOne_56 ?_
      obtain ⟨v22, s21, c23, hf⟩ := x_ob_of hf
      refine x_cVv X 0 7 (cw_o0 _ _ _) rfl rfl (c_X7_move l D cI cZ cJ a F c23) (cwV 1 X.2.2.2.2.1 gX7_runOne_X7_move rfl rfl rfl (by decide +kernel) ⟨Nat.le_of_ble_eq_true rfl, Nat.le_of_ble_eq_true rfl⟩) rfl hl rfl (Nat.le_of_ble_eq_true rfl) ⟨Nat.zero_le _, Nat.zero_le _⟩ dX7_runOne_59 ?_
      refine x_iinc (v := (x1 + (1 : Int32))) (lv' := [(1, .int (x1 + (1 : Int32))), (0, .ref (a 0))]) X dX7_runOne_62 hl (j := 1) rfl rfl (by decide) rfl (fun ls hl => ?_)
      refine x_goto (tgt := 42) X dX7_runOne_65 rfl ?_
      exact ih (x1 + (1 : Int32)) s21 ls hf (lv_sub hl [1, 0] rfl)
set_option maxHeartbeats 4000000 in
set_option maxRecDepth 100000 in
theorem b_X7_runOne_18 {p : Program} {l : Launch} {e : Env} {S0 : State} {m : MethodId} {args : Array Value} {below : List Frame} {meth : Method} {c : Code} {A : Nat → Prop} {D : va_G} {cI cZ cJ : ClassId} {a : Nat → Nat} (X : x_X p S0 m args meth c cX7_runOne 2 none RX7 wsX7_runOne D (x_tys cI cZ cJ) A) (F : Nat) {r : Int32} {s' : CS}  : ∀ (n : Nat) (x1 : Int32) (s : CS) (ls : Array Slot), r_X7_runOne_b18 F n x1 s = some (r, s') → lv_has ls 2 [(0, .ref (a 0)), (1, .int x1)] → x_W p l e rm_X7_runOne S0 m args below meth c A D (cwld cI a) 0 0 (x_Rv below args S0 A D (cwld cI a) s') s (F0 m 18 ls []) := by
  intro n
  induction n with
  | zero =>
    intro x1 s ls hf hl
    have hf : (none : Option (Int32 × CS)) = some (r, s') := hf
    cases hf
  | succ n ih =>
    intro x1 s ls hf hl
    rw [r_X7_runOne_b18_s] at hf
    refine x_iload_n X dX7_runOne_18 rfl hl 1 rfl ?_
    refine x_aload_n X dX7_runOne_19 rfl hl 0 rfl ?_
    refine x_getf X in_X7_runOne_X7 (cw_o0 _ _ _) rfl 0 (by decide) lk_X7_runOne_12 rfl rfl dX7_runOne_20 ?_
    obtain ⟨v6, s5, c7, hf⟩ := x_ob_of hf
    refine x_cVi X 1 3 (cw_o1 _ _ _) rfl rfl (c_X3_size l D cI cZ cJ a F c7) (cwV 0 X.2.2.2.2.1 gX7_runOne_X3_size rfl rfl rfl (by decide +kernel) ⟨Nat.le_of_ble_eq_true rfl, Nat.le_of_ble_eq_true rfl⟩) rfl hl rfl (Nat.le_of_ble_eq_true rfl) ⟨Nat.zero_le _, Nat.zero_le _⟩ dX7_runOne_23 ?_
    refine x_icmp_ge (tgt := 40) X dX7_runOne_26 rfl (fun q8 => ?_) (fun q8 => ?_)
    · have hf := (if_pos q8).symm.trans hf
      refine x_iconst X dX7_runOne_40 xk_iconst_0 ?_
      refine x_istoreA_n (lv' := [(1, .int (0 : Int32)), (0, .ref (a 0))]) X dX7_runOne_41 rfl hl (by decide) rfl (fun ls hl => ?_)
      exact b_X7_runOne_42 X F F (0 : Int32) s5 ls hf (lv_sub hl [1, 0] rfl)
    · have hf := (if_neg q8).symm.trans hf
      refine x_aload_n X dX7_runOne_29 rfl hl 0 rfl ?_
      refine x_iload_n X dX7_runOne_30 rfl hl 1 rfl ?_
      obtain ⟨v25, s24, c26, hf⟩ := x_ob_of hf
      refine x_cVv X 0 7 (cw_o0 _ _ _) rfl rfl (c_X7_chooseAt l D cI cZ cJ a F c26) (cwV 1 X.2.2.2.2.1 gX7_runOne_X7_chooseAt rfl rfl rfl (by decide +kernel) ⟨Nat.le_of_ble_eq_true rfl, Nat.le_of_ble_eq_true rfl⟩) rfl hl rfl (Nat.le_of_ble_eq_true rfl) ⟨Nat.zero_le _, Nat.zero_le _⟩ dX7_runOne_31 ?_
      refine x_iinc (v := (x1 + (1 : Int32))) (lv' := [(1, .int (x1 + (1 : Int32))), (0, .ref (a 0))]) X dX7_runOne_34 hl (j := 1) rfl rfl (by decide) rfl (fun ls hl => ?_)
      refine x_goto (tgt := 18) X dX7_runOne_37 rfl ?_
      exact ih (x1 + (1 : Int32)) s24 ls hf (lv_sub hl [1, 0] rfl)
set_option maxHeartbeats 4000000 in
set_option maxRecDepth 100000 in
theorem c_X7_runOne (l : Launch) (D : va_G) (cI cZ cJ : ClassId) (a : Nat → Nat) (F : Nat) {s s' : CS} {r : Int32} (hf : r_X7_runOne F s = some (r, s')) : x_Mv l yX7_runOne wsX7_runOne rm_X7_runOne D (x_tys cI cZ cJ) (cwld cI a) [.ref (a 0)] s s' := by
  refine x_enterv (cc := cX7_runOne) (nL := 2) (own := RX7) (by decide) rfl rfl (Nat.le_of_ble_eq_true rfl) ?_
  intro p e S0 m args below meth c A X ls hl
  have hl : lv_has ls 2 [(0, .ref (a 0))] := hl
  unfold r_X7_runOne at hf
  refine x_aload_n X dX7_runOne_0 rfl hl 0 rfl ?_
  refine x_getf X in_X7_runOne_X7 (cw_o0 _ _ _) rfl 3 (by decide) lk_X7_runOne_35 rfl rfl dX7_runOne_1 ?_
  refine x_aload_n X dX7_runOne_4 rfl hl 0 rfl ?_
  refine x_getf X in_X7_runOne_X7 (cw_o0 _ _ _) rfl 11 (by decide) lk_X7_runOne_115 rfl rfl dX7_runOne_5 ?_
  obtain ⟨v2, s1, c3, hf⟩ := x_ob_of hf
  refine x_cVv X 4 2 (cw_o4 _ _ _) rfl rfl (c_X2_comeBack l D cI cZ cJ a F c3) (cwV 1 X.2.2.2.2.1 gX7_runOne_X2_comeBack rfl rfl rfl (by decide +kernel) ⟨Nat.le_of_ble_eq_true rfl, Nat.le_of_ble_eq_true rfl⟩) rfl hl rfl (Nat.le_of_ble_eq_true rfl) ⟨Nat.zero_le _, Nat.zero_le _⟩ dX7_runOne_8 ?_
  refine x_aload_n X dX7_runOne_11 rfl hl 0 rfl ?_
  refine x_iconst X dX7_runOne_12 xk_iconst_0 ?_
  refine x_puti X in_X7_runOne_X7 (cw_o0 _ _ _) rfl 10 (by decide) tyX7 tyX7_ok nmX7 lk_X7_runOne_240 rfl rfl (by decide +kernel) (Nat.le_of_ble_eq_true rfl) (cw_s0 _ _ _ _) dX7_runOne_13 (fun s4 es4 => ?_)
  have hf := x_os_of es4 hf
  refine x_iconst X dX7_runOne_16 xk_iconst_0 ?_
  refine x_istoreA_n (lv' := [(1, .int (0 : Int32)), (0, .ref (a 0))]) X dX7_runOne_17 rfl hl (by decide) rfl (fun ls hl => ?_)
  exact b_X7_runOne_18 X F F (0 : Int32) s4 ls hf (lv_sub hl [1, 0] rfl)
def rm_X7_bufferBehind : Room := { frames := 2, cells := 0, slots := 0, locals := 43 }
theorem in_X7_bufferBehind_X7 : ∀ w ∈ wsX70, w ∈ wsX7_bufferBehind := by decide +kernel
theorem lk_X7_bufferBehind_12 : Cond.fieldLink RX7 12 "Creditfabric" "grid" "LCreditfabric$Grid;" ∈ wsX7_bufferBehind := by decide +kernel
set_option maxHeartbeats 4000000 in
set_option maxRecDepth 100000 in
theorem c_X7_bufferBehind (l : Launch) (D : va_G) (cI cZ cJ : ClassId) (a : Nat → Nat) (F : Nat) {s s' : CS} {r : Int32} {x1 x2 x3 : Int32} (hf : r_X7_bufferBehind F x1 x2 x3 s = some (r, s')) : x_Mi l yX7_bufferBehind wsX7_bufferBehind rm_X7_bufferBehind D (x_tys cI cZ cJ) (cwld cI a) [.ref (a 0), .int x1, .int x2, .int x3] s r s' := by
  refine x_enteri (cc := cX7_bufferBehind) (nL := 4) (ty := .int) (own := RX7) (by decide) rfl rfl (Nat.le_of_ble_eq_true rfl) ?_
  intro p e S0 m args below meth c A X ls hl
  have hl : lv_has ls 4 [(0, .ref (a 0)), (1, .int x1), (2, .int x2), (3, .int x3)] := hl
  unfold r_X7_bufferBehind at hf
  refine x_aload_n X dX7_bufferBehind_0 rfl hl 0 rfl ?_
  refine x_getf X in_X7_bufferBehind_X7 (cw_o0 _ _ _) rfl 0 (by decide) lk_X7_bufferBehind_12 rfl rfl dX7_bufferBehind_1 ?_
  refine x_iload_n X dX7_bufferBehind_4 rfl hl 1 rfl ?_
  refine x_iload_n X dX7_bufferBehind_5 rfl hl 2 rfl ?_
  obtain ⟨v2, s1, c3, hf⟩ := x_ob_of hf
  refine x_cVi X 1 3 (cw_o1 _ _ _) rfl rfl (c_X3_behind l D cI cZ cJ a F c3) (cwV 2 X.2.2.2.2.1 gX7_bufferBehind_X3_behind rfl rfl rfl (by decide +kernel) ⟨Nat.le_of_ble_eq_true rfl, Nat.le_of_ble_eq_true rfl⟩) rfl hl rfl (Nat.le_of_ble_eq_true rfl) ⟨Nat.zero_le _, Nat.zero_le _⟩ dX7_bufferBehind_6 ?_
  refine x_iload_n X dX7_bufferBehind_9 rfl hl 2 rfl ?_
  refine x_iload_n X dX7_bufferBehind_10 rfl hl 3 rfl ?_
  obtain ⟨v5, s4, c6, hf⟩ := x_ob_of hf
  refine x_cSi X (c_X7_bufferOf l D cI cZ cJ a F c6) (va_cwS 3 X.2.2.2.2.1 gX7_bufferBehind_X7_bufferOf rfl rfl rfl (by decide +kernel) ⟨Nat.le_of_ble_eq_true rfl, Nat.le_of_ble_eq_true rfl⟩) rfl hl rfl (Nat.le_of_ble_eq_true rfl) ⟨Nat.zero_le _, Nat.zero_le _⟩ dX7_bufferBehind_11 ?_
  exact x_iret X rfl rfl hf dX7_bufferBehind_14
def rm_X7_recover : Room := { frames := 2, cells := 0, slots := 0, locals := 46 }
theorem in_X7_recover_X7 : ∀ w ∈ wsX70, w ∈ wsX7_recover := by decide +kernel
theorem lk_X7_recover_12 : Cond.fieldLink RX7 12 "Creditfabric" "grid" "LCreditfabric$Grid;" ∈ wsX7_recover := by decide +kernel
theorem lk_X7_recover_28 : Cond.fieldLink RX7 28 "Creditfabric" "buffers" "LCreditfabric$Buffers;" ∈ wsX7_recover := by decide +kernel
theorem lk_X7_recover_35 : Cond.fieldLink RX7 35 "Creditfabric" "purse" "LCreditfabric$Credits;" ∈ wsX7_recover := by decide +kernel
set_option maxHeartbeats 4000000 in
set_option maxRecDepth 100000 in
theorem b_X7_recover_17 {p : Program} {l : Launch} {e : Env} {S0 : State} {m : MethodId} {args : Array Value} {below : List Frame} {meth : Method} {c : Code} {A : Nat → Prop} {D : va_G} {cI cZ cJ : ClassId} {a : Nat → Nat} (X : x_X p S0 m args meth c cX7_recover 5 (some .int) RX7 wsX7_recover D (x_tys cI cZ cJ) A) (F : Nat) {r : Int32} {s' : CS} (K4 : Int32 → Int32 → CS → Option (Int32 × CS)) (hK4 : ∀ (x1 x2 : Int32) (s : CS) (ls : Array Slot), K4 x1 x2 s = some (r, s') → lv_has ls 5 [(0, .ref (a 0)), (1, .int x1), (2, .int x2)] → x_W p l e rm_X7_recover S0 m args below meth c A D (cwld cI a) 0 0 (x_Ri below args S0 A D (cwld cI a) r s') s (F0 m 4 ls [])) : ∀ (n : Nat) (x1 x2 x3 : Int32) (s : CS) (ls : Array Slot), r_X7_recover_b17 K4 F n x1 x2 x3 s = some (r, s') → lv_has ls 5 [(0, .ref (a 0)), (1, .int x1), (2, .int x2), (3, .int x3)] → x_W p l e rm_X7_recover S0 m args below meth c A D (cwld cI a) 0 0 (x_Ri below args S0 A D (cwld cI a) r s') s (F0 m 17 ls []) := by
  intro n
  induction n with
  | zero =>
    intro x1 x2 x3 s ls hf hl
    have hf : (none : Option (Int32 × CS)) = some (r, s') := hf
    cases hf
  | succ n ih =>
    intro x1 x2 x3 s ls hf hl
    rw [r_X7_recover_b17_s] at hf
    refine x_iload_n X dX7_recover_17 rfl hl 3 rfl ?_
    refine x_bipush X dX7_recover_18 xk_bipush_8 ?_
    refine x_icmp_ge (tgt := 58) X dX7_recover_20 rfl (fun q5 => ?_) (fun q5 => ?_)
    · have hf := (if_pos q5).symm.trans hf
      refine x_iinc (v := (x2 + (1 : Int32))) (lv' := [(2, .int (x2 + (1 : Int32))), (0, .ref (a 0)), (1, .int x1), (3, .int x3)]) X dX7_recover_58 hl (j := 2) rfl rfl (by decide) rfl (fun ls hl => ?_)
      refine x_goto (tgt := 4) X dX7_recover_61 rfl ?_
      exact hK4 x1 (x2 + (1 : Int32)) s ls hf (lv_sub hl [1, 2, 0] rfl)
    · have hf := (if_neg q5).symm.trans hf
      refine x_iload_n X dX7_recover_23 rfl hl 2 rfl ?_
      refine x_bipush X dX7_recover_24 xk_bipush_10 ?_
      refine x_imul X dX7_recover_26 ?_
      refine x_iload_n X dX7_recover_27 rfl hl 3 rfl ?_
      refine x_iadd X dX7_recover_28 ?_
      refine x_istore (lv' := [(0, .ref (a 0)), (1, .int x1), (2, .int x2), (3, .int x3)]) X dX7_recover_29 hl (by decide) (fun _ => rfl) (fun x4_6 ls ex4_6 hl => ?_)
      have hf := x_oi_of ex4_6 hf
      refine x_iload_n X dX7_recover_31 rfl hl 2 rfl ?_
      refine x_aload_n X dX7_recover_32 rfl hl 1 rfl ?_
      refine x_getf X in_X7_recover_X7 (cw_o0 _ _ _) rfl 3 (by decide) lk_X7_recover_35 rfl rfl dX7_recover_33 ?_
      refine x_iload X dX7_recover_36 hl 0 rfl ?_
      refine x_aload_n X dX7_recover_38 rfl hl 1 rfl ?_
      refine x_getf X in_X7_recover_X7 (cw_o0 _ _ _) rfl 2 (by decide) lk_X7_recover_28 rfl rfl dX7_recover_39 ?_
      refine x_iload X dX7_recover_42 hl 0 rfl ?_
      obtain ⟨v8, s7, c9, hf⟩ := x_ob_of hf
      refine x_cVi X 3 0 (cw_o3 _ _ _) rfl rfl (c_X0_free l D cI cZ cJ a F c9) (cwV 1 X.2.2.2.2.1 gX7_recover_X0_free rfl rfl rfl (by decide +kernel) ⟨Nat.le_of_ble_eq_true rfl, Nat.le_of_ble_eq_true rfl⟩) rfl hl rfl (Nat.le_of_ble_eq_true rfl) ⟨Nat.zero_le _, Nat.zero_le _⟩ dX7_recover_44 ?_
      obtain ⟨v11, s10, c12, hf⟩ := x_ob_of hf
      refine x_cVi X 4 2 (cw_o4 _ _ _) rfl rfl (c_X2_settle l D cI cZ cJ a F c12) (cwV 2 X.2.2.2.2.1 gX7_recover_X2_settle rfl rfl rfl (by decide +kernel) ⟨Nat.le_of_ble_eq_true rfl, Nat.le_of_ble_eq_true rfl⟩) rfl hl rfl (Nat.le_of_ble_eq_true rfl) ⟨Nat.zero_le _, Nat.zero_le _⟩ dX7_recover_47 ?_
      refine x_iadd X dX7_recover_50 ?_
      refine x_istore_n (lv' := [(4, .int x4_6), (0, .ref (a 0)), (2, .int x2), (3, .int x3)]) X dX7_recover_51 rfl hl (by decide) (fun _ => rfl) (fun x1_13 ls ex1_13 hl => ?_)
      have hf := x_oi_of ex1_13 hf
      refine x_iinc (v := (x3 + (1 : Int32))) (lv' := [(3, .int (x3 + (1 : Int32))), (1, .int x1_13), (4, .int x4_6), (0, .ref (a 0)), (2, .int x2)]) X dX7_recover_52 hl (j := 4) rfl rfl (by decide) rfl (fun ls hl => ?_)
      refine x_goto (tgt := 17) X dX7_recover_55 rfl ?_
      exact ih x1_13 x2 (x3 + (1 : Int32)) s10 ls hf (lv_sub hl [3, 1, 4, 0] rfl)
set_option maxHeartbeats 4000000 in
set_option maxRecDepth 100000 in
theorem b_X7_recover_4 {p : Program} {l : Launch} {e : Env} {S0 : State} {m : MethodId} {args : Array Value} {below : List Frame} {meth : Method} {c : Code} {A : Nat → Prop} {D : va_G} {cI cZ cJ : ClassId} {a : Nat → Nat} (X : x_X p S0 m args meth c cX7_recover 5 (some .int) RX7 wsX7_recover D (x_tys cI cZ cJ) A) (F : Nat) {r : Int32} {s' : CS}  : ∀ (n : Nat) (x1 x2 : Int32) (s : CS) (ls : Array Slot), r_X7_recover_b4 F n x1 x2 s = some (r, s') → lv_has ls 5 [(0, .ref (a 0)), (1, .int x1), (2, .int x2)] → x_W p l e rm_X7_recover S0 m args below meth c A D (cwld cI a) 0 0 (x_Ri below args S0 A D (cwld cI a) r s') s (F0 m 4 ls []) := by
  intro n
  induction n with
  | zero =>
    intro x1 x2 s ls hf hl
    have hf : (none : Option (Int32 × CS)) = some (r, s') := hf
    cases hf
  | succ n ih =>
    intro x1 x2 s ls hf hl
    rw [r_X7_recover_b4_s] at hf
    refine x_iload_n X dX7_recover_4 rfl hl 2 rfl ?_
    refine x_aload_n X dX7_recover_5 rfl hl 0 rfl ?_
    refine x_getf X in_X7_recover_X7 (cw_o0 _ _ _) rfl 0 (by decide) lk_X7_recover_12 rfl rfl dX7_recover_6 ?_
    obtain ⟨v2, s1, c3, hf⟩ := x_ob_of hf
    refine x_cVi X 1 3 (cw_o1 _ _ _) rfl rfl (c_X3_size l D cI cZ cJ a F c3) (cwV 0 X.2.2.2.2.1 gX7_recover_X3_size rfl rfl rfl (by decide +kernel) ⟨Nat.le_of_ble_eq_true rfl, Nat.le_of_ble_eq_true rfl⟩) rfl hl rfl (Nat.le_of_ble_eq_true rfl) ⟨Nat.zero_le _, Nat.zero_le _⟩ dX7_recover_9 ?_
    refine x_icmp_ge (tgt := 64) X dX7_recover_12 rfl (fun q4 => ?_) (fun q4 => ?_)
    · have hf := (if_pos q4).symm.trans hf
      refine x_iload_n X dX7_recover_64 rfl hl 1 rfl ?_
      exact x_iret X rfl rfl hf dX7_recover_65
    · have hf := (if_neg q4).symm.trans hf
      refine x_iconst X dX7_recover_15 xk_iconst_0 ?_
      refine x_istoreA_n (lv' := [(3, .int (0 : Int32)), (0, .ref (a 0)), (1, .int x1), (2, .int x2)]) X dX7_recover_16 rfl hl (by decide) rfl (fun ls hl => ?_)
      exact b_X7_recover_17 X F _ ih F x1 x2 (0 : Int32) s1 ls hf (lv_sub hl [1, 2, 3, 0] rfl)
set_option maxHeartbeats 4000000 in
set_option maxRecDepth 100000 in
theorem c_X7_recover (l : Launch) (D : va_G) (cI cZ cJ : ClassId) (a : Nat → Nat) (F : Nat) {s s' : CS} {r : Int32} (hf : r_X7_recover F s = some (r, s')) : x_Mi l yX7_recover wsX7_recover rm_X7_recover D (x_tys cI cZ cJ) (cwld cI a) [.ref (a 0)] s r s' := by
  refine x_enteri (cc := cX7_recover) (nL := 5) (ty := .int) (own := RX7) (by decide) rfl rfl (Nat.le_of_ble_eq_true rfl) ?_
  intro p e S0 m args below meth c A X ls hl
  have hl : lv_has ls 5 [(0, .ref (a 0))] := hl
  unfold r_X7_recover at hf
  refine x_iconst X dX7_recover_0 xk_iconst_0 ?_
  refine x_istoreA_n (lv' := [(1, .int (0 : Int32)), (0, .ref (a 0))]) X dX7_recover_1 rfl hl (by decide) rfl (fun ls hl => ?_)
  refine x_iconst X dX7_recover_2 xk_iconst_0 ?_
  refine x_istoreA_n (lv' := [(2, .int (0 : Int32)), (1, .int (0 : Int32)), (0, .ref (a 0))]) X dX7_recover_3 rfl hl (by decide) rfl (fun ls hl => ?_)
  exact b_X7_recover_4 X F F (0 : Int32) (0 : Int32) s ls hf (lv_sub hl [2, 1, 0] rfl)
def rm_X7_tick : Room := { frames := 0, cells := 0, slots := 0, locals := 0 }
theorem in_X7_tick_X7 : ∀ w ∈ wsX70, w ∈ wsX7_tick := by decide +kernel
theorem lk_X7_tick_115 : Cond.fieldLink RX7 115 "Creditfabric" "now" "I" ∈ wsX7_tick := by decide +kernel
set_option maxHeartbeats 4000000 in
set_option maxRecDepth 100000 in
theorem c_X7_tick (l : Launch) (D : va_G) (cI cZ cJ : ClassId) (a : Nat → Nat) (F : Nat) {s s' : CS} {r : Int32} (hf : r_X7_tick F s = some (r, s')) : x_Mi l yX7_tick wsX7_tick rm_X7_tick D (x_tys cI cZ cJ) (cwld cI a) [.ref (a 0)] s r s' := by
  refine x_enteri (cc := cX7_tick) (nL := 1) (ty := .int) (own := RX7) (by decide) rfl rfl (Nat.le_of_ble_eq_true rfl) ?_
  intro p e S0 m args below meth c A X ls hl
  have hl : lv_has ls 1 [(0, .ref (a 0))] := hl
  unfold r_X7_tick at hf
  refine x_aload_n X dX7_tick_0 rfl hl 0 rfl ?_
  refine x_getf X in_X7_tick_X7 (cw_o0 _ _ _) rfl 11 (by decide) lk_X7_tick_115 rfl rfl dX7_tick_1 ?_
  exact x_iret X rfl rfl hf dX7_tick_4
def rm_X7_packets : Room := { frames := 0, cells := 0, slots := 0, locals := 0 }
theorem in_X7_packets_X4 : ∀ w ∈ wsX40, w ∈ wsX7_packets := by decide +kernel
theorem in_X7_packets_X7 : ∀ w ∈ wsX70, w ∈ wsX7_packets := by decide +kernel
theorem lk_X7_packets_21 : Cond.fieldLink RX7 21 "Creditfabric" "traffic" "LCreditfabric$Packets;" ∈ wsX7_packets := by decide +kernel
set_option maxHeartbeats 4000000 in
set_option maxRecDepth 100000 in
theorem c_X7_packets (l : Launch) (D : va_G) (cI cZ cJ : ClassId) (a : Nat → Nat) (F : Nat) {s s' : CS} {r : Int32} (hf : r_X7_packets F s = some (r, s')) : x_Mi l yX7_packets wsX7_packets rm_X7_packets D (x_tys cI cZ cJ) (cwld cI a) [.ref (a 0)] s r s' := by
  refine x_enteri (cc := cX7_packets) (nL := 1) (ty := .int) (own := RX7) (by decide) rfl rfl (Nat.le_of_ble_eq_true rfl) ?_
  intro p e S0 m args below meth c A X ls hl
  have hl : lv_has ls 1 [(0, .ref (a 0))] := hl
  unfold r_X7_packets at hf
  refine x_aload_n X dX7_packets_0 rfl hl 0 rfl ?_
  refine x_getf X in_X7_packets_X7 (cw_o0 _ _ _) rfl 1 (by decide) lk_X7_packets_21 rfl rfl dX7_packets_1 ?_
  refine x_getN X in_X7_packets_X4 (cw_o2 _ _ _) rfl 9 (by decide) (by decide +kernel) rfl rfl dX7_packets_4 ?_
  exact x_iret X rfl rfl hf dX7_packets_7
def rm_X7_arrived : Room := { frames := 0, cells := 0, slots := 0, locals := 0 }
theorem in_X7_arrived_X4 : ∀ w ∈ wsX40, w ∈ wsX7_arrived := by decide +kernel
theorem in_X7_arrived_X7 : ∀ w ∈ wsX70, w ∈ wsX7_arrived := by decide +kernel
theorem lk_X7_arrived_21 : Cond.fieldLink RX7 21 "Creditfabric" "traffic" "LCreditfabric$Packets;" ∈ wsX7_arrived := by decide +kernel
set_option maxHeartbeats 4000000 in
set_option maxRecDepth 100000 in
theorem c_X7_arrived (l : Launch) (D : va_G) (cI cZ cJ : ClassId) (a : Nat → Nat) (F : Nat) {s s' : CS} {r : Int32} (hf : r_X7_arrived F s = some (r, s')) : x_Mi l yX7_arrived wsX7_arrived rm_X7_arrived D (x_tys cI cZ cJ) (cwld cI a) [.ref (a 0)] s r s' := by
  refine x_enteri (cc := cX7_arrived) (nL := 1) (ty := .int) (own := RX7) (by decide) rfl rfl (Nat.le_of_ble_eq_true rfl) ?_
  intro p e S0 m args below meth c A X ls hl
  have hl : lv_has ls 1 [(0, .ref (a 0))] := hl
  unfold r_X7_arrived at hf
  refine x_aload_n X dX7_arrived_0 rfl hl 0 rfl ?_
  refine x_getf X in_X7_arrived_X7 (cw_o0 _ _ _) rfl 1 (by decide) lk_X7_arrived_21 rfl rfl dX7_arrived_1 ?_
  refine x_getN X in_X7_arrived_X4 (cw_o2 _ _ _) rfl 10 (by decide) (by decide +kernel) rfl rfl dX7_arrived_4 ?_
  exact x_iret X rfl rfl hf dX7_arrived_7
def rm_X7_circle : Room := { frames := 5, cells := 0, slots := 0, locals := 116 }
theorem in_X7_circle_X7 : ∀ w ∈ wsX70, w ∈ wsX7_circle := by decide +kernel
theorem lk_X7_circle_51 : Cond.fieldLink RX7 51 "Creditfabric" "circles" "LCreditfabric$Circles;" ∈ wsX7_circle := by decide +kernel
set_option maxHeartbeats 4000000 in
set_option maxRecDepth 100000 in
theorem c_X7_circle (l : Launch) (D : va_G) (cI cZ cJ : ClassId) (a : Nat → Nat) (F : Nat) {s s' : CS} {r : Int32} (hf : r_X7_circle F s = some (r, s')) : x_Mi l yX7_circle wsX7_circle rm_X7_circle D (x_tys cI cZ cJ) (cwld cI a) [.ref (a 0)] s r s' := by
  refine x_enteri (cc := cX7_circle) (nL := 1) (ty := .int) (own := RX7) (by decide) rfl rfl (Nat.le_of_ble_eq_true rfl) ?_
  intro p e S0 m args below meth c A X ls hl
  have hl : lv_has ls 1 [(0, .ref (a 0))] := hl
  unfold r_X7_circle at hf
  refine x_aload_n X dX7_circle_0 rfl hl 0 rfl ?_
  refine x_getf X in_X7_circle_X7 (cw_o0 _ _ _) rfl 5 (by decide) lk_X7_circle_51 rfl rfl dX7_circle_1 ?_
  obtain ⟨v2, s1, c3, hf⟩ := x_ob_of hf
  refine x_cVi X 6 1 (cw_o6 _ _ _) rfl rfl (c_X1_countWaiting l D cI cZ cJ a F c3) (cwV 0 X.2.2.2.2.1 gX7_circle_X1_countWaiting rfl rfl rfl (by decide +kernel) ⟨Nat.le_of_ble_eq_true rfl, Nat.le_of_ble_eq_true rfl⟩) rfl hl rfl (Nat.le_of_ble_eq_true rfl) ⟨Nat.zero_le _, Nat.zero_le _⟩ dX7_circle_4 ?_
  exact x_iret X rfl rfl hf dX7_circle_7
def rm_X7_mayCircle : Room := { frames := 6, cells := 0, slots := 0, locals := 138 }
theorem in_X7_mayCircle_X7 : ∀ w ∈ wsX70, w ∈ wsX7_mayCircle := by decide +kernel
theorem lk_X7_mayCircle_51 : Cond.fieldLink RX7 51 "Creditfabric" "circles" "LCreditfabric$Circles;" ∈ wsX7_mayCircle := by decide +kernel
set_option maxHeartbeats 4000000 in
set_option maxRecDepth 100000 in
theorem c_X7_mayCircle (l : Launch) (D : va_G) (cI cZ cJ : ClassId) (a : Nat → Nat) (F : Nat) {s s' : CS} {r : Int32} (hf : r_X7_mayCircle F s = some (r, s')) : x_Mi l yX7_mayCircle wsX7_mayCircle rm_X7_mayCircle D (x_tys cI cZ cJ) (cwld cI a) [.ref (a 0)] s r s' := by
  refine x_enteri (cc := cX7_mayCircle) (nL := 1) (ty := .boolean) (own := RX7) (by decide) rfl rfl (Nat.le_of_ble_eq_true rfl) ?_
  intro p e S0 m args below meth c A X ls hl
  have hl : lv_has ls 1 [(0, .ref (a 0))] := hl
  unfold r_X7_mayCircle at hf
  refine x_aload_n X dX7_mayCircle_0 rfl hl 0 rfl ?_
  refine x_getf X in_X7_mayCircle_X7 (cw_o0 _ _ _) rfl 5 (by decide) lk_X7_mayCircle_51 rfl rfl dX7_mayCircle_1 ?_
  obtain ⟨v2, s1, c3, hf⟩ := x_ob_of hf
  refine x_cVi X 6 1 (cw_o6 _ _ _) rfl rfl (c_X1_hangsTogether l D cI cZ cJ a F c3) (cwV 0 X.2.2.2.2.1 gX7_mayCircle_X1_hangsTogether rfl rfl rfl (by decide +kernel) ⟨Nat.le_of_ble_eq_true rfl, Nat.le_of_ble_eq_true rfl⟩) rfl hl rfl (Nat.le_of_ble_eq_true rfl) ⟨Nat.zero_le _, Nat.zero_le _⟩ dX7_mayCircle_4 ?_
  obtain ⟨g4, hf⟩ := x_og_of hf
  exact x_iret X rfl (x_bo_of g4) hf dX7_mayCircle_7
