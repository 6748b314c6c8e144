/-! the law -/
abbrev l_S : Type := CS × CS × (Nat → Int64)
def lwld (cI cZ cJ : ClassId) (a b : Nat → Nat) (o : Nat) (z : l_S) : va_W := mwld cI cZ b z.2.1 ++ (cwld cI a z.1 ++ [(o, .inl (cJ, 1, .inr (.inl z.2.2)))])
def l_out (cJ : ClassId) (o : Nat) (g : Nat → Int64) : va_W := [(o, .inl (cJ, 1, .inr (.inl g)))]
theorem lw_o (cI cZ cJ : ClassId) (a b : Nat → Nat) (o : Nat) (z : l_S) : (lwld cI cZ cJ a b o z)[70]? = some (o, .inl (cJ, 1, .inr (.inl z.2.2))) := rfl
section LWR
variable {p : Program} {l : Launch} {e : Env} {R : Room} {s : State} {m : MethodId} {args : Array Value} {below : List Frame} {meth : Method} {c : Code} {k n : Nat} {Q : State → Prop} {cc : ByteArray} {nL : Nat} {ret : Option FieldType} {own : String} {Ts : List Cond} {D : va_G} {tys : List (ClassId × FieldType)} {A : Nat → Prop} {S : Type} {wld : S → va_W} {σ σ' : S} {pc : Nat} {ls : Array Slot} {rest : List Value} {lv lv' : List (Nat × Value)}
theorem x_sld (X : x_X p s m args meth c cc nL ret own Ts D tys A) {sb L : Nat} {xs : Nat → Int32} (hX : va_X sb L xs s s.heap) (hsb : sb < s.heap.size) (hbA : ¬ A sb) {i : Int32} (hin : vp_in i L) (hdg : decode cc pc = .ok (.iaload, 1)) (kk : x_W p l e R s m args below meth c A D wld k n Q σ (F0 m (pc + 1) ls (.int (xs i.toNatClampNeg) :: rest))) : x_W p l e R s m args below meth c A D wld k n Q σ (F0 m pc ls (.int i :: .ref sb :: rest)) := fun H locs hP hD hS => va_sld X.1 X.2.1 hX hsb hbA hS hin hdg (kk H locs hP hD hS)
theorem x_slen (X : x_X p s m args meth c cc nL ret own Ts D tys A) {sb L : Nat} {xs : Nat → Int32} (hX : va_X sb L xs s s.heap) (hsb : sb < s.heap.size) (hbA : ¬ A sb) (hdg : decode cc pc = .ok (.arraylength, 1)) (kk : x_W p l e R s m args below meth c A D wld k n Q σ (F0 m (pc + 1) ls (.int (nI L) :: rest))) : x_W p l e R s m args below meth c A D wld k n Q σ (F0 m pc ls (.ref sb :: rest)) := fun H locs hP hD hS => va_slen X.1 X.2.1 hX hsb hbA hS hdg (kk H locs hP hD hS)
/-- a plain call on a part of the world -/
theorem f_cV (X : x_X p s m args meth c cc nL ret own Ts D tys A) {y : MethodName} {bytes : ByteArray} {maxL index nn : Nat} {rt : Option FieldType} {ws : List Cond} {rm : Room} {As st : List Value} {b : Nat} {C : String} {wc : CS → va_W} {w1 w2 : va_W} {τ τ' : CS} {r : Int32} (q0 ci : Nat) {fs : List Value} {q : vw_C} (he : (wc τ)[q0]? = some (b, .inr (ci, fs))) (hc : vwCl[ci]? = some q) (hC : q.1 = C) (hM : x_Mi l y ws rm D tys wc (.ref b :: As) τ r τ') (cw : CallW R s args own C index y bytes maxL rt ws rm 0 0 nn) (hn : As.length = nn) (hl : lv_has ls nL lv) (hst : st = As.reverse ++ .ref b :: rest) (hrm : (rest.map fun v => v.category).sum ≤ 8) (hkn : k ≤ R.cells ∧ n ≤ R.slots) (hdg : decode cc pc = .ok (.invokevirtual index, 3)) (ha : wld σ = w1 ++ (wc τ ++ w2)) (hb : wld σ' = w1 ++ (wc τ' ++ w2)) (kk : x_W p l e R s m args below meth c A D wld k n Q σ' (F0 m (pc + 3) ls (.int r :: rest))) : x_W p l e R s m args below meth c A D wld k n Q σ (F0 m pc ls st) := by
  intro H locs hP hD hS
  subst hC
  rw [ha] at hP hD
  obtain ⟨hPc, hDc⟩ := y_sub hP hD
  have hFc : ∀ q, va_A (wc τ) H.size q → A q := fun q h => by
    rcases h with ⟨j, x, h⟩ | h
    · exact hDc.2 j _ h
    · exact X.2.2.2.2.2.2.1 q (Nat.le_trans hS.1 h)
  refine va_calli (va_runV (As := As) (rest := rest) ⟨X.1, X.2.1, X.2.2.1, X.2.2.2.1, X.2.2.2.2.1⟩ (hM H.size) cw ⟨x_blind, va_recv X.2.2.2.2.2.1.1 hPc hc he, fun U hU hW => ⟨rfl, by rw [hU], by rw [hU]; exact hPc, X.2.2.2.2.2.1.warm hW, hDc.weaken (fun _ _ _ _ => trivial)⟩⟩ rfl hn hl.1 hst (lv_room hrm) hdg hkn) hS (fun q _ h => hFc q h) hFc (fun r1 u t H1 locs1 ht hvm hw hB hz1 hk1 hS1 => ?_)
  obtain ⟨hP1, hD1⟩ := hB
  rw [ht] at hP1
  subst hw
  obtain ⟨hP2, hD2⟩ := y_frame hP hD hk1 hFc hP1 hD1
  rw [← hb] at hP2 hD2
  exact kk H1 locs1 hP2 hD2 hS1
/-- a wrapper's call on a part of the world -/
theorem f_cw (X : x_X p s m args meth c cc nL ret own Ts D tys A) (LX : x_S s ∧ x_Z A s s.heap ∧ x_N s) {y : MethodName} {bytes : ByteArray} {maxL index nn : Nat} {rt : Option FieldType} {hh : List (Nat × Nat × Nat × Nat)} {ws : List Cond} {rm : Room} {As st : List Value} {S2 : Type} {wc : S2 → va_W} {w1 w2 : va_W} {τ τ' : S2} {r : Int32} (hM : f_Mw l y ws rm D tys wc As τ r τ') (cw : vx_CSW R s args own index y bytes maxL rt hh ws rm 1 6 nn) (hn : As.length = nn) (hl : lv_has ls nL lv) (hst : st = As.reverse ++ rest) (hrm : (rest.map fun v => v.category).sum ≤ 8) (hkn : k + 1 ≤ R.cells ∧ n + 6 ≤ R.slots) (hdg : decode cc pc = .ok (.invokestatic index, 3)) (ha : wld σ = w1 ++ (wc τ ++ w2)) (hb : wld σ' = w1 ++ (wc τ' ++ w2)) (kk : x_W p l e R s m args below meth c A D wld (k + 1) (n + 6) Q σ' (F0 m (pc + 3) ls (.int r :: rest))) : x_W p l e R s m args below meth c A D wld k n Q σ (F0 m pc ls st) := by
  intro H locs hP hD hS
  rw [ha] at hP hD
  obtain ⟨hPc, hDc⟩ := y_sub hP hD
  have hFc : ∀ q, va_A (wc τ) H.size q → A q := fun q h => by
    rcases h with ⟨j, x, h⟩ | h
    · exact hDc.2 j _ h
    · exact X.2.2.2.2.2.2.1 q (Nat.le_trans hS.1 h)
  refine va_calli (vx_runSW (As := As) (rest := rest) ⟨X.1, X.2.1, X.2.2.1, X.2.2.2.1, X.2.2.2.2.1⟩ (hM H.size) cw ⟨f_blind, fun U hU hW => ⟨rfl, ⟨by rw [hU], by rw [hU]; exact hPc, X.2.2.2.2.2.1.warm hW, hDc.weaken (fun _ _ _ _ => trivial)⟩, LX.1.warm hW, by rw [hU]; exact ⟨vx_Zq.moved hW.alike ((LX.2.1.1.kept hS.2.1).narrow hFc), vx_Zq.moved hW.alike ((LX.2.1.2.kept hS.2.1).narrow hFc)⟩, x_N.moved hW.alike LX.2.2⟩⟩ rfl hn hl.1 hst (lv_room hrm) hdg hkn) hS (fun q _ h => hFc q h) hFc (fun r1 u t H1 locs1 ht hvm hw hB hz1 hk1 hS1 => ?_)
  obtain ⟨hP1, hD1⟩ := hB
  rw [ht] at hP1
  subst hw
  obtain ⟨hP2, hD2⟩ := y_frame hP hD hk1 hFc hP1 hD1
  rw [← hb] at hP2 hD2
  exact kk H1 locs1 hP2 hD2 hS1
end LWR
def l_kk : Prop := True
set_option maxHeartbeats 4000000 in
set_option maxRecDepth 100000 in
theorem l_begin {p : Program} {l : Launch} {e : Env} {s : State} {m : MethodId} {args : Array Value} {below : List Frame} {meth : Method} {c : Code} {k n : Nat} {Q : State → Prop} {D : va_G} {A : Nat → Prop} {cI cZ cJ : ClassId} {a b : Nat → Nat} {o sb L : Nat} {xs : Nat → Int32} (X : x_X p s m args meth c cL_law 7 (some .boolean) RL wsL_law D (x_tys cI cZ cJ) A) (hX : va_X sb L xs s s.heap) (hsb : sb < s.heap.size) (hbA : ¬ A sb) (LX : x_S s ∧ x_Z A s s.heap ∧ x_N s) (hst : l.stackTraces = false) (F : Nat) {σ τ τ1 : CS} {g : Nat → Int64} {i bb rk : Int32} {r : XR} (h1 : vp_in (i + (1 : Int32)) L) (h2 : vp_in (i + (2 : Int32)) L) (h3 : vp_in (i + (3 : Int32)) L) (h4 : vp_in (i + (4 : Int32)) L) (hf : r_X7_begin F (xs (i + (1 : Int32)).toNatClampNeg) (xs (i + (2 : Int32)).toNatClampNeg) (xs (i + (3 : Int32)).toNatClampNeg) (xs (i + (4 : Int32)).toNatClampNeg) σ = some r) (hm : r_X8_begin F (xs (i + (1 : Int32)).toNatClampNeg) (xs (i + (2 : Int32)).toNatClampNeg) (xs (i + (3 : Int32)).toNatClampNeg) (xs (i + (4 : Int32)).toNatClampNeg) τ = some (bb, τ1)) (ht : τ1 18 7 = rk) (hk : (r.1 = 0 ∧ rk = 0 ∧ r.2.1 = bb) ∨ (r.1 = 2 ∧ rk = 1)) (hkn : k + 1 ≤ 1110 ∧ n + 6 ≤ 36308) (kk : ∀ (g : Nat → Int64) (ls : Array Slot), lv_has ls 7 [(0, .ref sb), (1, .ref (a 0)), (2, .ref (b 0)), (3, .ref o), (4, .int i)] → x_W p l e room_1 s m args below meth c A D (lwld cI cZ cJ a b o) (k + 1) (n + 6) Q (r.2.2, τ1, g) (F0 m 1060 ls [])) : ∀ ls : Array Slot, lv_has ls 7 [(0, .ref sb), (1, .ref (a 0)), (2, .ref (b 0)), (3, .ref o), (4, .int i)] → x_W p l e room_1 s m args below meth c A D (lwld cI cZ cJ a b o) k n Q (σ, τ, g) (F0 m 124 ls []) := by
  intro ls hl
  rcases hk with ⟨h0, rfl, hbb⟩ | ⟨h0, rfl⟩
  · have KK := kk (vp_updL g 0 r.2.1.toInt64)
    refine x_aload_n X dL_law_124 rfl hl 1 rfl ?_
    refine x_aload_n X dL_law_125 rfl hl 0 rfl ?_
    refine x_iload X dL_law_126 hl 4 rfl ?_
    refine x_iconst X dL_law_128 xk_iconst_1 ?_
    refine x_iadd X dL_law_129 ?_
    refine x_sld X hX hsb hbA h1 dL_law_130 ?_
    refine x_aload_n X dL_law_131 rfl hl 0 rfl ?_
    refine x_iload X dL_law_132 hl 4 rfl ?_
    refine x_iconst X dL_law_134 xk_iconst_2 ?_
    refine x_iadd X dL_law_135 ?_
    refine x_sld X hX hsb hbA h2 dL_law_136 ?_
    refine x_aload_n X dL_law_137 rfl hl 0 rfl ?_
    refine x_iload X dL_law_138 hl 4 rfl ?_
    refine x_iconst X dL_law_140 xk_iconst_3 ?_
    refine x_iadd X dL_law_141 ?_
    refine x_sld X hX hsb hbA h3 dL_law_142 ?_
    refine x_aload_n X dL_law_143 rfl hl 0 rfl ?_
    refine x_iload X dL_law_144 hl 4 rfl ?_
    refine x_iconst X dL_law_146 xk_iconst_4 ?_
    refine x_iadd X dL_law_147 ?_
    refine x_sld X hX hsb hbA h4 dL_law_148 ?_
    refine x_aload_n X dL_law_149 rfl hl 3 rfl ?_
    refine f_cw (w1 := mwld cI cZ b τ) (w2 := []) (wc := wwld cI cJ a o) (τ := (σ, g)) (τ' := (r.2.2, (vp_updL g 0 r.2.1.toInt64))) (σ' := (r.2.2, τ, (vp_updL g 0 r.2.1.toInt64))) X LX (c_L_begin l hst D cI cZ cJ a o F σ g (xs (i + (1 : Int32)).toNatClampNeg) (xs (i + (2 : Int32)).toNatClampNeg) (xs (i + (3 : Int32)).toNatClampNeg) (xs (i + (4 : Int32)).toNatClampNeg) hf 0 (r.2.2, (vp_updL g 0 r.2.1.toInt64)) (Or.inl ⟨h0, rfl, rfl⟩)) (vx_cwSW 6 X.2.2.2.2.1 gL_law_L_begin rfl rfl rfl (by decide +kernel) ⟨Nat.le_of_ble_eq_true rfl, Nat.le_of_ble_eq_true rfl⟩) rfl hl rfl (Nat.le_of_ble_eq_true rfl) hkn dL_law_150 rfl rfl ?_
    refine x_istoreA (lv' := [(5, .int (0 : Int32)), (0, .ref sb), (1, .ref (a 0)), (2, .ref (b 0)), (3, .ref o), (4, .int i)]) X dL_law_153 hl (by decide) rfl (fun ls hl => ?_)
    refine x_aload_n X dL_law_155 rfl hl 3 rfl ?_
    refine x_aload_n X dL_law_156 rfl hl 1 rfl ?_
    refine x_iload X dL_law_157 hl 5 rfl ?_
    refine x_iconst X dL_law_159 xk_iconst_1 ?_
    refine x_iadd X dL_law_160 ?_
    refine x_sld X hX hsb hbA h1 dL_law_161 ?_
    refine x_aload_n X dL_law_162 rfl hl 1 rfl ?_
    refine x_iload X dL_law_163 hl 5 rfl ?_
    refine x_iconst X dL_law_165 xk_iconst_2 ?_
    refine x_iadd X dL_law_166 ?_
    refine x_sld X hX hsb hbA h2 dL_law_167 ?_
    refine x_aload_n X dL_law_168 rfl hl 1 rfl ?_
    refine x_iload X dL_law_169 hl 5 rfl ?_
    refine x_iconst X dL_law_171 xk_iconst_3 ?_
    refine x_iadd X dL_law_172 ?_
    refine x_sld X hX hsb hbA h3 dL_law_173 ?_
    refine x_aload_n X dL_law_174 rfl hl 1 rfl ?_
    refine x_iload X dL_law_175 hl 5 rfl ?_
    refine x_iconst X dL_law_177 xk_iconst_4 ?_
    refine x_iadd X dL_law_178 ?_
    refine x_sld X hX hsb hbA h4 dL_law_179 ?_
    refine f_cV (w1 := []) (w2 := cwld cI a r.2.2 ++ l_out cJ o ((vp_updL g 0 r.2.1.toInt64))) (wc := mwld cI cZ b) (τ := τ) (τ' := τ1) (σ' := (r.2.2, τ1, (vp_updL g 0 r.2.1.toInt64))) X 0 8 (mw_o cI cZ b τ) rfl rfl (c_X8_begin l D cI cZ cJ b F hm) (cwV 4 X.2.2.2.2.1 gL_law_X8_begin rfl rfl rfl (by decide +kernel) ⟨Nat.le_of_ble_eq_true rfl, Nat.le_of_ble_eq_true rfl⟩) rfl hl rfl (Nat.le_of_ble_eq_true rfl) hkn dL_law_180 rfl rfl ?_
    refine x_istoreA (lv' := [(6, .int bb), (5, .int (0 : Int32)), (0, .ref sb), (1, .ref (a 0)), (2, .ref (b 0)), (3, .ref o), (4, .int i)]) X dL_law_183 hl (by decide) rfl (fun ls hl => ?_)
    refine x_aload_n X dL_law_185 rfl hl 4 rfl ?_
    refine f_cV (w1 := []) (w2 := cwld cI a r.2.2 ++ l_out cJ o ((vp_updL g 0 r.2.1.toInt64))) (wc := mwld cI cZ b) (τ := τ1) (τ' := τ1) (σ' := (r.2.2, τ1, (vp_updL g 0 r.2.1.toInt64))) X 0 8 (mw_o cI cZ b τ1) rfl rfl (c_X8_thrown l D cI cZ cJ b F (r := τ1 18 7) rfl) (cwV 0 X.2.2.2.2.1 gL_law_X8_thrown rfl rfl rfl (by decide +kernel) ⟨Nat.le_of_ble_eq_true rfl, Nat.le_of_ble_eq_true rfl⟩) rfl hl rfl (Nat.le_of_ble_eq_true rfl) hkn dL_law_186 rfl rfl ?_
    refine x_iload X dL_law_189 hl 1 rfl ?_
    refine x_icmp_eq (tgt := 196) X dL_law_191 rfl (fun _ => ?_) (fun h9 => absurd ht h9)
    refine x_iload X dL_law_196 hl 1 rfl ?_
    refine x_if_ne (tgt := 213) X dL_law_198 rfl (fun h9 => absurd (by decide : ((0 : Int32)) = 0) h9) (fun _ => ?_)
    refine x_aload_n X dL_law_201 rfl hl 5 rfl ?_
    refine x_iconst X dL_law_202 xk_iconst_0 ?_
    refine x_lald X 70 2 (lw_o cI cZ cJ a b o (r.2.2, τ1, (vp_updL g 0 r.2.1.toInt64))) rfl (x_in_of (by decide)) dL_law_203 ?_
    refine x_iload X dL_law_204 hl 0 rfl ?_
    refine x_i2l X dL_law_206 ?_
    refine x_lcmp X dL_law_207 ?_
    refine x_if_eq (tgt := 213) X dL_law_208 rfl (fun _ => ?_) (fun h9 => absurd ((lg_cmp_eq _ _).mpr (by show r.2.1.toInt64 = bb.toInt64; rw [hbb])) h9)
    refine x_goto (tgt := 1060) X dL_law_213 rfl ?_
    exact KK _ (lv_sub hl [2, 3, 4, 5, 6] rfl)
  · have KK := kk g
    refine x_aload_n X dL_law_124 rfl hl 1 rfl ?_
    refine x_aload_n X dL_law_125 rfl hl 0 rfl ?_
    refine x_iload X dL_law_126 hl 4 rfl ?_
    refine x_iconst X dL_law_128 xk_iconst_1 ?_
    refine x_iadd X dL_law_129 ?_
    refine x_sld X hX hsb hbA h1 dL_law_130 ?_
    refine x_aload_n X dL_law_131 rfl hl 0 rfl ?_
    refine x_iload X dL_law_132 hl 4 rfl ?_
    refine x_iconst X dL_law_134 xk_iconst_2 ?_
    refine x_iadd X dL_law_135 ?_
    refine x_sld X hX hsb hbA h2 dL_law_136 ?_
    refine x_aload_n X dL_law_137 rfl hl 0 rfl ?_
    refine x_iload X dL_law_138 hl 4 rfl ?_
    refine x_iconst X dL_law_140 xk_iconst_3 ?_
    refine x_iadd X dL_law_141 ?_
    refine x_sld X hX hsb hbA h3 dL_law_142 ?_
    refine x_aload_n X dL_law_143 rfl hl 0 rfl ?_
    refine x_iload X dL_law_144 hl 4 rfl ?_
    refine x_iconst X dL_law_146 xk_iconst_4 ?_
    refine x_iadd X dL_law_147 ?_
    refine x_sld X hX hsb hbA h4 dL_law_148 ?_
    refine x_aload_n X dL_law_149 rfl hl 3 rfl ?_
    refine f_cw (w1 := mwld cI cZ b τ) (w2 := []) (wc := wwld cI cJ a o) (τ := (σ, g)) (τ' := (r.2.2, g)) (σ' := (r.2.2, τ, g)) X LX (c_L_begin l hst D cI cZ cJ a o F σ g (xs (i + (1 : Int32)).toNatClampNeg) (xs (i + (2 : Int32)).toNatClampNeg) (xs (i + (3 : Int32)).toNatClampNeg) (xs (i + (4 : Int32)).toNatClampNeg) hf 1 (r.2.2, g) (Or.inr ⟨h0, rfl, rfl⟩)) (vx_cwSW 6 X.2.2.2.2.1 gL_law_L_begin rfl rfl rfl (by decide +kernel) ⟨Nat.le_of_ble_eq_true rfl, Nat.le_of_ble_eq_true rfl⟩) rfl hl rfl (Nat.le_of_ble_eq_true rfl) hkn dL_law_150 rfl rfl ?_
    refine x_istoreA (lv' := [(5, .int (1 : Int32)), (0, .ref sb), (1, .ref (a 0)), (2, .ref (b 0)), (3, .ref o), (4, .int i)]) X dL_law_153 hl (by decide) rfl (fun ls hl => ?_)
    refine x_aload_n X dL_law_155 rfl hl 3 rfl ?_
    refine x_aload_n X dL_law_156 rfl hl 1 rfl ?_
    refine x_iload X dL_law_157 hl 5 rfl ?_
    refine x_iconst X dL_law_159 xk_iconst_1 ?_
    refine x_iadd X dL_law_160 ?_
    refine x_sld X hX hsb hbA h1 dL_law_161 ?_
    refine x_aload_n X dL_law_162 rfl hl 1 rfl ?_
    refine x_iload X dL_law_163 hl 5 rfl ?_
    refine x_iconst X dL_law_165 xk_iconst_2 ?_
    refine x_iadd X dL_law_166 ?_
    refine x_sld X hX hsb hbA h2 dL_law_167 ?_
    refine x_aload_n X dL_law_168 rfl hl 1 rfl ?_
    refine x_iload X dL_law_169 hl 5 rfl ?_
    refine x_iconst X dL_law_171 xk_iconst_3 ?_
    refine x_iadd X dL_law_172 ?_
    refine x_sld X hX hsb hbA h3 dL_law_173 ?_
    refine x_aload_n X dL_law_174 rfl hl 1 rfl ?_
    refine x_iload X dL_law_175 hl 5 rfl ?_
    refine x_iconst X dL_law_177 xk_iconst_4 ?_
    refine x_iadd X dL_law_178 ?_
    refine x_sld X hX hsb hbA h4 dL_law_179 ?_
    refine f_cV (w1 := []) (w2 := cwld cI a r.2.2 ++ l_out cJ o (g)) (wc := mwld cI cZ b) (τ := τ) (τ' := τ1) (σ' := (r.2.2, τ1, g)) X 0 8 (mw_o cI cZ b τ) rfl rfl (c_X8_begin l D cI cZ cJ b F hm) (cwV 4 X.2.2.2.2.1 gL_law_X8_begin rfl rfl rfl (by decide +kernel) ⟨Nat.le_of_ble_eq_true rfl, Nat.le_of_ble_eq_true rfl⟩) rfl hl rfl (Nat.le_of_ble_eq_true rfl) hkn dL_law_180 rfl rfl ?_
    refine x_istoreA (lv' := [(6, .int bb), (5, .int (1 : Int32)), (0, .ref sb), (1, .ref (a 0)), (2, .ref (b 0)), (3, .ref o), (4, .int i)]) X dL_law_183 hl (by decide) rfl (fun ls hl => ?_)
    refine x_aload_n X dL_law_185 rfl hl 4 rfl ?_
    refine f_cV (w1 := []) (w2 := cwld cI a r.2.2 ++ l_out cJ o (g)) (wc := mwld cI cZ b) (τ := τ1) (τ' := τ1) (σ' := (r.2.2, τ1, g)) X 0 8 (mw_o cI cZ b τ1) rfl rfl (c_X8_thrown l D cI cZ cJ b F (r := τ1 18 7) rfl) (cwV 0 X.2.2.2.2.1 gL_law_X8_thrown rfl rfl rfl (by decide +kernel) ⟨Nat.le_of_ble_eq_true rfl, Nat.le_of_ble_eq_true rfl⟩) rfl hl rfl (Nat.le_of_ble_eq_true rfl) hkn dL_law_186 rfl rfl ?_
    refine x_iload X dL_law_189 hl 1 rfl ?_
    refine x_icmp_eq (tgt := 196) X dL_law_191 rfl (fun _ => ?_) (fun h9 => absurd ht h9)
    refine x_iload X dL_law_196 hl 1 rfl ?_
    refine x_if_ne (tgt := 213) X dL_law_198 rfl (fun _ => ?_) (fun h9 => absurd h9 (by decide : ¬ ((1 : Int32)) = 0))
    refine x_goto (tgt := 1060) X dL_law_213 rfl ?_
    exact KK _ (lv_sub hl [2, 3, 4, 5, 6] rfl)
set_option maxHeartbeats 4000000 in
set_option maxRecDepth 100000 in
theorem l_send {p : Program} {l : Launch} {e : Env} {s : State} {m : MethodId} {args : Array Value} {below : List Frame} {meth : Method} {c : Code} {k n : Nat} {Q : State → Prop} {D : va_G} {A : Nat → Prop} {cI cZ cJ : ClassId} {a b : Nat → Nat} {o sb L : Nat} {xs : Nat → Int32} (X : x_X p s m args meth c cL_law 7 (some .boolean) RL wsL_law D (x_tys cI cZ cJ) A) (hX : va_X sb L xs s s.heap) (hsb : sb < s.heap.size) (hbA : ¬ A sb) (LX : x_S s ∧ x_Z A s s.heap ∧ x_N s) (hst : l.stackTraces = false) (F : Nat) {σ τ τ1 : CS} {g : Nat → Int64} {i bb rk : Int32} {r : XR} (h1 : vp_in (i + (1 : Int32)) L) (h2 : vp_in (i + (2 : Int32)) L) (h3 : vp_in (i + (3 : Int32)) L) (h4 : vp_in (i + (4 : Int32)) L) (hf : r_X7_send F (xs (i + (1 : Int32)).toNatClampNeg) (xs (i + (2 : Int32)).toNatClampNeg) (xs (i + (3 : Int32)).toNatClampNeg) (xs (i + (4 : Int32)).toNatClampNeg) σ = some r) (hm : r_X8_send F (xs (i + (1 : Int32)).toNatClampNeg) (xs (i + (2 : Int32)).toNatClampNeg) (xs (i + (3 : Int32)).toNatClampNeg) (xs (i + (4 : Int32)).toNatClampNeg) τ = some (bb, τ1)) (ht : τ1 18 7 = rk) (hk : (r.1 = 0 ∧ rk = 0 ∧ r.2.1 = bb) ∨ (r.1 = 1 ∧ rk = 1) ∨ (r.1 = 2 ∧ rk = 2) ∨ (r.1 = 3 ∧ rk = 3)) (hkn : k + 1 ≤ 1110 ∧ n + 6 ≤ 36308) (kk : ∀ (g : Nat → Int64) (ls : Array Slot), lv_has ls 7 [(0, .ref sb), (1, .ref (a 0)), (2, .ref (b 0)), (3, .ref o), (4, .int i)] → x_W p l e room_1 s m args below meth c A D (lwld cI cZ cJ a b o) (k + 1) (n + 6) Q (r.2.2, τ1, g) (F0 m 1060 ls [])) : ∀ ls : Array Slot, lv_has ls 7 [(0, .ref sb), (1, .ref (a 0)), (2, .ref (b 0)), (3, .ref o), (4, .int i)] → x_W p l e room_1 s m args below meth c A D (lwld cI cZ cJ a b o) k n Q (σ, τ, g) (F0 m 216 ls []) := by
  intro ls hl
  rcases hk with ⟨h0, rfl, hbb⟩ | ⟨h0, rfl⟩ | ⟨h0, rfl⟩ | ⟨h0, rfl⟩
  · have KK := kk (vp_updL g 0 r.2.1.toInt64)
    refine x_aload_n X dL_law_216 rfl hl 1 rfl ?_
    refine x_aload_n X dL_law_217 rfl hl 0 rfl ?_
    refine x_iload X dL_law_218 hl 4 rfl ?_
    refine x_iconst X dL_law_220 xk_iconst_1 ?_
    refine x_iadd X dL_law_221 ?_
    refine x_sld X hX hsb hbA h1 dL_law_222 ?_
    refine x_aload_n X dL_law_223 rfl hl 0 rfl ?_
    refine x_iload X dL_law_224 hl 4 rfl ?_
    refine x_iconst X dL_law_226 xk_iconst_2 ?_
    refine x_iadd X dL_law_227 ?_
    refine x_sld X hX hsb hbA h2 dL_law_228 ?_
    refine x_aload_n X dL_law_229 rfl hl 0 rfl ?_
    refine x_iload X dL_law_230 hl 4 rfl ?_
    refine x_iconst X dL_law_232 xk_iconst_3 ?_
    refine x_iadd X dL_law_233 ?_
    refine x_sld X hX hsb hbA h3 dL_law_234 ?_
    refine x_aload_n X dL_law_235 rfl hl 0 rfl ?_
    refine x_iload X dL_law_236 hl 4 rfl ?_
    refine x_iconst X dL_law_238 xk_iconst_4 ?_
    refine x_iadd X dL_law_239 ?_
    refine x_sld X hX hsb hbA h4 dL_law_240 ?_
    refine x_aload_n X dL_law_241 rfl hl 3 rfl ?_
    refine f_cw (w1 := mwld cI cZ b τ) (w2 := []) (wc := wwld cI cJ a o) (τ := (σ, g)) (τ' := (r.2.2, (vp_updL g 0 r.2.1.toInt64))) (σ' := (r.2.2, τ, (vp_updL g 0 r.2.1.toInt64))) X LX (c_L_send l hst D cI cZ cJ a o F σ g (xs (i + (1 : Int32)).toNatClampNeg) (xs (i + (2 : Int32)).toNatClampNeg) (xs (i + (3 : Int32)).toNatClampNeg) (xs (i + (4 : Int32)).toNatClampNeg) hf 0 (r.2.2, (vp_updL g 0 r.2.1.toInt64)) (Or.inl ⟨h0, rfl, rfl⟩)) (vx_cwSW 6 X.2.2.2.2.1 gL_law_L_send rfl rfl rfl (by decide +kernel) ⟨Nat.le_of_ble_eq_true rfl, Nat.le_of_ble_eq_true rfl⟩) rfl hl rfl (Nat.le_of_ble_eq_true rfl) hkn dL_law_242 rfl rfl ?_
    refine x_istoreA (lv' := [(5, .int (0 : Int32)), (0, .ref sb), (1, .ref (a 0)), (2, .ref (b 0)), (3, .ref o), (4, .int i)]) X dL_law_245 hl (by decide) rfl (fun ls hl => ?_)
    refine x_aload_n X dL_law_247 rfl hl 3 rfl ?_
    refine x_aload_n X dL_law_248 rfl hl 1 rfl ?_
    refine x_iload X dL_law_249 hl 5 rfl ?_
    refine x_iconst X dL_law_251 xk_iconst_1 ?_
    refine x_iadd X dL_law_252 ?_
    refine x_sld X hX hsb hbA h1 dL_law_253 ?_
    refine x_aload_n X dL_law_254 rfl hl 1 rfl ?_
    refine x_iload X dL_law_255 hl 5 rfl ?_
    refine x_iconst X dL_law_257 xk_iconst_2 ?_
    refine x_iadd X dL_law_258 ?_
    refine x_sld X hX hsb hbA h2 dL_law_259 ?_
    refine x_aload_n X dL_law_260 rfl hl 1 rfl ?_
    refine x_iload X dL_law_261 hl 5 rfl ?_
    refine x_iconst X dL_law_263 xk_iconst_3 ?_
    refine x_iadd X dL_law_264 ?_
    refine x_sld X hX hsb hbA h3 dL_law_265 ?_
    refine x_aload_n X dL_law_266 rfl hl 1 rfl ?_
    refine x_iload X dL_law_267 hl 5 rfl ?_
    refine x_iconst X dL_law_269 xk_iconst_4 ?_
    refine x_iadd X dL_law_270 ?_
    refine x_sld X hX hsb hbA h4 dL_law_271 ?_
    refine f_cV (w1 := []) (w2 := cwld cI a r.2.2 ++ l_out cJ o ((vp_updL g 0 r.2.1.toInt64))) (wc := mwld cI cZ b) (τ := τ) (τ' := τ1) (σ' := (r.2.2, τ1, (vp_updL g 0 r.2.1.toInt64))) X 0 8 (mw_o cI cZ b τ) rfl rfl (c_X8_send l D cI cZ cJ b F hm) (cwV 4 X.2.2.2.2.1 gL_law_X8_send rfl rfl rfl (by decide +kernel) ⟨Nat.le_of_ble_eq_true rfl, Nat.le_of_ble_eq_true rfl⟩) rfl hl rfl (Nat.le_of_ble_eq_true rfl) hkn dL_law_272 rfl rfl ?_
    refine x_istoreA (lv' := [(6, .int bb), (5, .int (0 : Int32)), (0, .ref sb), (1, .ref (a 0)), (2, .ref (b 0)), (3, .ref o), (4, .int i)]) X dL_law_275 hl (by decide) rfl (fun ls hl => ?_)
    refine x_aload_n X dL_law_277 rfl hl 4 rfl ?_
    refine f_cV (w1 := []) (w2 := cwld cI a r.2.2 ++ l_out cJ o ((vp_updL g 0 r.2.1.toInt64))) (wc := mwld cI cZ b) (τ := τ1) (τ' := τ1) (σ' := (r.2.2, τ1, (vp_updL g 0 r.2.1.toInt64))) X 0 8 (mw_o cI cZ b τ1) rfl rfl (c_X8_thrown l D cI cZ cJ b F (r := τ1 18 7) rfl) (cwV 0 X.2.2.2.2.1 gL_law_X8_thrown rfl rfl rfl (by decide +kernel) ⟨Nat.le_of_ble_eq_true rfl, Nat.le_of_ble_eq_true rfl⟩) rfl hl rfl (Nat.le_of_ble_eq_true rfl) hkn dL_law_278 rfl rfl ?_
    refine x_iload X dL_law_281 hl 1 rfl ?_
    refine x_icmp_eq (tgt := 288) X dL_law_283 rfl (fun _ => ?_) (fun h9 => absurd ht h9)
    refine x_iload X dL_law_288 hl 1 rfl ?_
    refine x_if_ne (tgt := 305) X dL_law_290 rfl (fun h9 => absurd (by decide : ((0 : Int32)) = 0) h9) (fun _ => ?_)
    refine x_aload_n X dL_law_293 rfl hl 5 rfl ?_
    refine x_iconst X dL_law_294 xk_iconst_0 ?_
    refine x_lald X 70 2 (lw_o cI cZ cJ a b o (r.2.2, τ1, (vp_updL g 0 r.2.1.toInt64))) rfl (x_in_of (by decide)) dL_law_295 ?_
    refine x_iload X dL_law_296 hl 0 rfl ?_
    refine x_i2l X dL_law_298 ?_
    refine x_lcmp X dL_law_299 ?_
    refine x_if_eq (tgt := 305) X dL_law_300 rfl (fun _ => ?_) (fun h9 => absurd ((lg_cmp_eq _ _).mpr (by show r.2.1.toInt64 = bb.toInt64; rw [hbb])) h9)
    refine x_goto (tgt := 1060) X dL_law_305 rfl ?_
    exact KK _ (lv_sub hl [2, 3, 4, 5, 6] rfl)
  · have KK := kk g
    refine x_aload_n X dL_law_216 rfl hl 1 rfl ?_
    refine x_aload_n X dL_law_217 rfl hl 0 rfl ?_
    refine x_iload X dL_law_218 hl 4 rfl ?_
    refine x_iconst X dL_law_220 xk_iconst_1 ?_
    refine x_iadd X dL_law_221 ?_
    refine x_sld X hX hsb hbA h1 dL_law_222 ?_
    refine x_aload_n X dL_law_223 rfl hl 0 rfl ?_
    refine x_iload X dL_law_224 hl 4 rfl ?_
    refine x_iconst X dL_law_226 xk_iconst_2 ?_
    refine x_iadd X dL_law_227 ?_
    refine x_sld X hX hsb hbA h2 dL_law_228 ?_
    refine x_aload_n X dL_law_229 rfl hl 0 rfl ?_
    refine x_iload X dL_law_230 hl 4 rfl ?_
    refine x_iconst X dL_law_232 xk_iconst_3 ?_
    refine x_iadd X dL_law_233 ?_
    refine x_sld X hX hsb hbA h3 dL_law_234 ?_
    refine x_aload_n X dL_law_235 rfl hl 0 rfl ?_
    refine x_iload X dL_law_236 hl 4 rfl ?_
    refine x_iconst X dL_law_238 xk_iconst_4 ?_
    refine x_iadd X dL_law_239 ?_
    refine x_sld X hX hsb hbA h4 dL_law_240 ?_
    refine x_aload_n X dL_law_241 rfl hl 3 rfl ?_
    refine f_cw (w1 := mwld cI cZ b τ) (w2 := []) (wc := wwld cI cJ a o) (τ := (σ, g)) (τ' := (r.2.2, g)) (σ' := (r.2.2, τ, g)) X LX (c_L_send l hst D cI cZ cJ a o F σ g (xs (i + (1 : Int32)).toNatClampNeg) (xs (i + (2 : Int32)).toNatClampNeg) (xs (i + (3 : Int32)).toNatClampNeg) (xs (i + (4 : Int32)).toNatClampNeg) hf 1 (r.2.2, g) (Or.inr (Or.inl ⟨h0, rfl, rfl⟩))) (vx_cwSW 6 X.2.2.2.2.1 gL_law_L_send rfl rfl rfl (by decide +kernel) ⟨Nat.le_of_ble_eq_true rfl, Nat.le_of_ble_eq_true rfl⟩) rfl hl rfl (Nat.le_of_ble_eq_true rfl) hkn dL_law_242 rfl rfl ?_
    refine x_istoreA (lv' := [(5, .int (1 : Int32)), (0, .ref sb), (1, .ref (a 0)), (2, .ref (b 0)), (3, .ref o), (4, .int i)]) X dL_law_245 hl (by decide) rfl (fun ls hl => ?_)
    refine x_aload_n X dL_law_247 rfl hl 3 rfl ?_
    refine x_aload_n X dL_law_248 rfl hl 1 rfl ?_
    refine x_iload X dL_law_249 hl 5 rfl ?_
    refine x_iconst X dL_law_251 xk_iconst_1 ?_
    refine x_iadd X dL_law_252 ?_
    refine x_sld X hX hsb hbA h1 dL_law_253 ?_
    refine x_aload_n X dL_law_254 rfl hl 1 rfl ?_
    refine x_iload X dL_law_255 hl 5 rfl ?_
    refine x_iconst X dL_law_257 xk_iconst_2 ?_
    refine x_iadd X dL_law_258 ?_
    refine x_sld X hX hsb hbA h2 dL_law_259 ?_
    refine x_aload_n X dL_law_260 rfl hl 1 rfl ?_
    refine x_iload X dL_law_261 hl 5 rfl ?_
    refine x_iconst X dL_law_263 xk_iconst_3 ?_
    refine x_iadd X dL_law_264 ?_
    refine x_sld X hX hsb hbA h3 dL_law_265 ?_
    refine x_aload_n X dL_law_266 rfl hl 1 rfl ?_
    refine x_iload X dL_law_267 hl 5 rfl ?_
    refine x_iconst X dL_law_269 xk_iconst_4 ?_
    refine x_iadd X dL_law_270 ?_
    refine x_sld X hX hsb hbA h4 dL_law_271 ?_
    refine f_cV (w1 := []) (w2 := cwld cI a r.2.2 ++ l_out cJ o (g)) (wc := mwld cI cZ b) (τ := τ) (τ' := τ1) (σ' := (r.2.2, τ1, g)) X 0 8 (mw_o cI cZ b τ) rfl rfl (c_X8_send l D cI cZ cJ b F hm) (cwV 4 X.2.2.2.2.1 gL_law_X8_send rfl rfl rfl (by decide +kernel) ⟨Nat.le_of_ble_eq_true rfl, Nat.le_of_ble_eq_true rfl⟩) rfl hl rfl (Nat.le_of_ble_eq_true rfl) hkn dL_law_272 rfl rfl ?_
    refine x_istoreA (lv' := [(6, .int bb), (5, .int (1 : Int32)), (0, .ref sb), (1, .ref (a 0)), (2, .ref (b 0)), (3, .ref o), (4, .int i)]) X dL_law_275 hl (by decide) rfl (fun ls hl => ?_)
    refine x_aload_n X dL_law_277 rfl hl 4 rfl ?_
    refine f_cV (w1 := []) (w2 := cwld cI a r.2.2 ++ l_out cJ o (g)) (wc := mwld cI cZ b) (τ := τ1) (τ' := τ1) (σ' := (r.2.2, τ1, g)) X 0 8 (mw_o cI cZ b τ1) rfl rfl (c_X8_thrown l D cI cZ cJ b F (r := τ1 18 7) rfl) (cwV 0 X.2.2.2.2.1 gL_law_X8_thrown rfl rfl rfl (by decide +kernel) ⟨Nat.le_of_ble_eq_true rfl, Nat.le_of_ble_eq_true rfl⟩) rfl hl rfl (Nat.le_of_ble_eq_true rfl) hkn dL_law_278 rfl rfl ?_
    refine x_iload X dL_law_281 hl 1 rfl ?_
    refine x_icmp_eq (tgt := 288) X dL_law_283 rfl (fun _ => ?_) (fun h9 => absurd ht h9)
    refine x_iload X dL_law_288 hl 1 rfl ?_
    refine x_if_ne (tgt := 305) X dL_law_290 rfl (fun _ => ?_) (fun h9 => absurd h9 (by decide : ¬ ((1 : Int32)) = 0))
    refine x_goto (tgt := 1060) X dL_law_305 rfl ?_
    exact KK _ (lv_sub hl [2, 3, 4, 5, 6] rfl)
  · have KK := kk g
    refine x_aload_n X dL_law_216 rfl hl 1 rfl ?_
    refine x_aload_n X dL_law_217 rfl hl 0 rfl ?_
    refine x_iload X dL_law_218 hl 4 rfl ?_
    refine x_iconst X dL_law_220 xk_iconst_1 ?_
    refine x_iadd X dL_law_221 ?_
    refine x_sld X hX hsb hbA h1 dL_law_222 ?_
    refine x_aload_n X dL_law_223 rfl hl 0 rfl ?_
    refine x_iload X dL_law_224 hl 4 rfl ?_
    refine x_iconst X dL_law_226 xk_iconst_2 ?_
    refine x_iadd X dL_law_227 ?_
    refine x_sld X hX hsb hbA h2 dL_law_228 ?_
    refine x_aload_n X dL_law_229 rfl hl 0 rfl ?_
    refine x_iload X dL_law_230 hl 4 rfl ?_
    refine x_iconst X dL_law_232 xk_iconst_3 ?_
    refine x_iadd X dL_law_233 ?_
    refine x_sld X hX hsb hbA h3 dL_law_234 ?_
    refine x_aload_n X dL_law_235 rfl hl 0 rfl ?_
    refine x_iload X dL_law_236 hl 4 rfl ?_
    refine x_iconst X dL_law_238 xk_iconst_4 ?_
    refine x_iadd X dL_law_239 ?_
    refine x_sld X hX hsb hbA h4 dL_law_240 ?_
    refine x_aload_n X dL_law_241 rfl hl 3 rfl ?_
    refine f_cw (w1 := mwld cI cZ b τ) (w2 := []) (wc := wwld cI cJ a o) (τ := (σ, g)) (τ' := (r.2.2, g)) (σ' := (r.2.2, τ, g)) X LX (c_L_send l hst D cI cZ cJ a o F σ g (xs (i + (1 : Int32)).toNatClampNeg) (xs (i + (2 : Int32)).toNatClampNeg) (xs (i + (3 : Int32)).toNatClampNeg) (xs (i + (4 : Int32)).toNatClampNeg) hf 2 (r.2.2, g) (Or.inr (Or.inr (Or.inl ⟨h0, rfl, rfl⟩)))) (vx_cwSW 6 X.2.2.2.2.1 gL_law_L_send rfl rfl rfl (by decide +kernel) ⟨Nat.le_of_ble_eq_true rfl, Nat.le_of_ble_eq_true rfl⟩) rfl hl rfl (Nat.le_of_ble_eq_true rfl) hkn dL_law_242 rfl rfl ?_
    refine x_istoreA (lv' := [(5, .int (2 : Int32)), (0, .ref sb), (1, .ref (a 0)), (2, .ref (b 0)), (3, .ref o), (4, .int i)]) X dL_law_245 hl (by decide) rfl (fun ls hl => ?_)
    refine x_aload_n X dL_law_247 rfl hl 3 rfl ?_
    refine x_aload_n X dL_law_248 rfl hl 1 rfl ?_
    refine x_iload X dL_law_249 hl 5 rfl ?_
    refine x_iconst X dL_law_251 xk_iconst_1 ?_
    refine x_iadd X dL_law_252 ?_
    refine x_sld X hX hsb hbA h1 dL_law_253 ?_
    refine x_aload_n X dL_law_254 rfl hl 1 rfl ?_
    refine x_iload X dL_law_255 hl 5 rfl ?_
    refine x_iconst X dL_law_257 xk_iconst_2 ?_
    refine x_iadd X dL_law_258 ?_
    refine x_sld X hX hsb hbA h2 dL_law_259 ?_
    refine x_aload_n X dL_law_260 rfl hl 1 rfl ?_
    refine x_iload X dL_law_261 hl 5 rfl ?_
    refine x_iconst X dL_law_263 xk_iconst_3 ?_
    refine x_iadd X dL_law_264 ?_
    refine x_sld X hX hsb hbA h3 dL_law_265 ?_
    refine x_aload_n X dL_law_266 rfl hl 1 rfl ?_
    refine x_iload X dL_law_267 hl 5 rfl ?_
    refine x_iconst X dL_law_269 xk_iconst_4 ?_
    refine x_iadd X dL_law_270 ?_
    refine x_sld X hX hsb hbA h4 dL_law_271 ?_
    refine f_cV (w1 := []) (w2 := cwld cI a r.2.2 ++ l_out cJ o (g)) (wc := mwld cI cZ b) (τ := τ) (τ' := τ1) (σ' := (r.2.2, τ1, g)) X 0 8 (mw_o cI cZ b τ) rfl rfl (c_X8_send l D cI cZ cJ b F hm) (cwV 4 X.2.2.2.2.1 gL_law_X8_send rfl rfl rfl (by decide +kernel) ⟨Nat.le_of_ble_eq_true rfl, Nat.le_of_ble_eq_true rfl⟩) rfl hl rfl (Nat.le_of_ble_eq_true rfl) hkn dL_law_272 rfl rfl ?_
    refine x_istoreA (lv' := [(6, .int bb), (5, .int (2 : Int32)), (0, .ref sb), (1, .ref (a 0)), (2, .ref (b 0)), (3, .ref o), (4, .int i)]) X dL_law_275 hl (by decide) rfl (fun ls hl => ?_)
    refine x_aload_n X dL_law_277 rfl hl 4 rfl ?_
    refine f_cV (w1 := []) (w2 := cwld cI a r.2.2 ++ l_out cJ o (g)) (wc := mwld cI cZ b) (τ := τ1) (τ' := τ1) (σ' := (r.2.2, τ1, g)) X 0 8 (mw_o cI cZ b τ1) rfl rfl (c_X8_thrown l D cI cZ cJ b F (r := τ1 18 7) rfl) (cwV 0 X.2.2.2.2.1 gL_law_X8_thrown rfl rfl rfl (by decide +kernel) ⟨Nat.le_of_ble_eq_true rfl, Nat.le_of_ble_eq_true rfl⟩) rfl hl rfl (Nat.le_of_ble_eq_true rfl) hkn dL_law_278 rfl rfl ?_
    refine x_iload X dL_law_281 hl 1 rfl ?_
    refine x_icmp_eq (tgt := 288) X dL_law_283 rfl (fun _ => ?_) (fun h9 => absurd ht h9)
    refine x_iload X dL_law_288 hl 1 rfl ?_
    refine x_if_ne (tgt := 305) X dL_law_290 rfl (fun _ => ?_) (fun h9 => absurd h9 (by decide : ¬ ((2 : Int32)) = 0))
    refine x_goto (tgt := 1060) X dL_law_305 rfl ?_
    exact KK _ (lv_sub hl [2, 3, 4, 5, 6] rfl)
  · have KK := kk g
    refine x_aload_n X dL_law_216 rfl hl 1 rfl ?_
    refine x_aload_n X dL_law_217 rfl hl 0 rfl ?_
    refine x_iload X dL_law_218 hl 4 rfl ?_
    refine x_iconst X dL_law_220 xk_iconst_1 ?_
    refine x_iadd X dL_law_221 ?_
    refine x_sld X hX hsb hbA h1 dL_law_222 ?_
    refine x_aload_n X dL_law_223 rfl hl 0 rfl ?_
    refine x_iload X dL_law_224 hl 4 rfl ?_
    refine x_iconst X dL_law_226 xk_iconst_2 ?_
    refine x_iadd X dL_law_227 ?_
    refine x_sld X hX hsb hbA h2 dL_law_228 ?_
    refine x_aload_n X dL_law_229 rfl hl 0 rfl ?_
    refine x_iload X dL_law_230 hl 4 rfl ?_
    refine x_iconst X dL_law_232 xk_iconst_3 ?_
    refine x_iadd X dL_law_233 ?_
    refine x_sld X hX hsb hbA h3 dL_law_234 ?_
    refine x_aload_n X dL_law_235 rfl hl 0 rfl ?_
    refine x_iload X dL_law_236 hl 4 rfl ?_
    refine x_iconst X dL_law_238 xk_iconst_4 ?_
    refine x_iadd X dL_law_239 ?_
    refine x_sld X hX hsb hbA h4 dL_law_240 ?_
    refine x_aload_n X dL_law_241 rfl hl 3 rfl ?_
    refine f_cw (w1 := mwld cI cZ b τ) (w2 := []) (wc := wwld cI cJ a o) (τ := (σ, g)) (τ' := (r.2.2, g)) (σ' := (r.2.2, τ, g)) X LX (c_L_send l hst D cI cZ cJ a o F σ g (xs (i + (1 : Int32)).toNatClampNeg) (xs (i + (2 : Int32)).toNatClampNeg) (xs (i + (3 : Int32)).toNatClampNeg) (xs (i + (4 : Int32)).toNatClampNeg) hf 3 (r.2.2, g) (Or.inr (Or.inr (Or.inr ⟨h0, rfl, rfl⟩)))) (vx_cwSW 6 X.2.2.2.2.1 gL_law_L_send rfl rfl rfl (by decide +kernel) ⟨Nat.le_of_ble_eq_true rfl, Nat.le_of_ble_eq_true rfl⟩) rfl hl rfl (Nat.le_of_ble_eq_true rfl) hkn dL_law_242 rfl rfl ?_
    refine x_istoreA (lv' := [(5, .int (3 : Int32)), (0, .ref sb), (1, .ref (a 0)), (2, .ref (b 0)), (3, .ref o), (4, .int i)]) X dL_law_245 hl (by decide) rfl (fun ls hl => ?_)
    refine x_aload_n X dL_law_247 rfl hl 3 rfl ?_
    refine x_aload_n X dL_law_248 rfl hl 1 rfl ?_
    refine x_iload X dL_law_249 hl 5 rfl ?_
    refine x_iconst X dL_law_251 xk_iconst_1 ?_
    refine x_iadd X dL_law_252 ?_
    refine x_sld X hX hsb hbA h1 dL_law_253 ?_
    refine x_aload_n X dL_law_254 rfl hl 1 rfl ?_
    refine x_iload X dL_law_255 hl 5 rfl ?_
    refine x_iconst X dL_law_257 xk_iconst_2 ?_
    refine x_iadd X dL_law_258 ?_
    refine x_sld X hX hsb hbA h2 dL_law_259 ?_
    refine x_aload_n X dL_law_260 rfl hl 1 rfl ?_
    refine x_iload X dL_law_261 hl 5 rfl ?_
    refine x_iconst X dL_law_263 xk_iconst_3 ?_
    refine x_iadd X dL_law_264 ?_
    refine x_sld X hX hsb hbA h3 dL_law_265 ?_
    refine x_aload_n X dL_law_266 rfl hl 1 rfl ?_
    refine x_iload X dL_law_267 hl 5 rfl ?_
    refine x_iconst X dL_law_269 xk_iconst_4 ?_
    refine x_iadd X dL_law_270 ?_
    refine x_sld X hX hsb hbA h4 dL_law_271 ?_
    refine f_cV (w1 := []) (w2 := cwld cI a r.2.2 ++ l_out cJ o (g)) (wc := mwld cI cZ b) (τ := τ) (τ' := τ1) (σ' := (r.2.2, τ1, g)) X 0 8 (mw_o cI cZ b τ) rfl rfl (c_X8_send l D cI cZ cJ b F hm) (cwV 4 X.2.2.2.2.1 gL_law_X8_send rfl rfl rfl (by decide +kernel) ⟨Nat.le_of_ble_eq_true rfl, Nat.le_of_ble_eq_true rfl⟩) rfl hl rfl (Nat.le_of_ble_eq_true rfl) hkn dL_law_272 rfl rfl ?_
    refine x_istoreA (lv' := [(6, .int bb), (5, .int (3 : Int32)), (0, .ref sb), (1, .ref (a 0)), (2, .ref (b 0)), (3, .ref o), (4, .int i)]) X dL_law_275 hl (by decide) rfl (fun ls hl => ?_)
    refine x_aload_n X dL_law_277 rfl hl 4 rfl ?_
    refine f_cV (w1 := []) (w2 := cwld cI a r.2.2 ++ l_out cJ o (g)) (wc := mwld cI cZ b) (τ := τ1) (τ' := τ1) (σ' := (r.2.2, τ1, g)) X 0 8 (mw_o cI cZ b τ1) rfl rfl (c_X8_thrown l D cI cZ cJ b F (r := τ1 18 7) rfl) (cwV 0 X.2.2.2.2.1 gL_law_X8_thrown rfl rfl rfl (by decide +kernel) ⟨Nat.le_of_ble_eq_true rfl, Nat.le_of_ble_eq_true rfl⟩) rfl hl rfl (Nat.le_of_ble_eq_true rfl) hkn dL_law_278 rfl rfl ?_
    refine x_iload X dL_law_281 hl 1 rfl ?_
    refine x_icmp_eq (tgt := 288) X dL_law_283 rfl (fun _ => ?_) (fun h9 => absurd ht h9)
    refine x_iload X dL_law_288 hl 1 rfl ?_
    refine x_if_ne (tgt := 305) X dL_law_290 rfl (fun _ => ?_) (fun h9 => absurd h9 (by decide : ¬ ((3 : Int32)) = 0))
    refine x_goto (tgt := 1060) X dL_law_305 rfl ?_
    exact KK _ (lv_sub hl [2, 3, 4, 5, 6] rfl)
set_option maxHeartbeats 4000000 in
set_option maxRecDepth 100000 in
theorem l_run {p : Program} {l : Launch} {e : Env} {s : State} {m : MethodId} {args : Array Value} {below : List Frame} {meth : Method} {c : Code} {k n : Nat} {Q : State → Prop} {D : va_G} {A : Nat → Prop} {cI cZ cJ : ClassId} {a b : Nat → Nat} {o sb L : Nat} {xs : Nat → Int32} (X : x_X p s m args meth c cL_law 7 (some .boolean) RL wsL_law D (x_tys cI cZ cJ) A) (hX : va_X sb L xs s s.heap) (hsb : sb < s.heap.size) (hbA : ¬ A sb) (LX : x_S s ∧ x_Z A s s.heap ∧ x_N s) (hst : l.stackTraces = false) (F : Nat) {σ τ τ1 : CS} {g : Nat → Int64} {i bb rk : Int32} {r : XR} (h1 : vp_in (i + (1 : Int32)) L) (hf : r_X7_run F (xs (i + (1 : Int32)).toNatClampNeg) σ = some r) (hm : r_X8_run F (xs (i + (1 : Int32)).toNatClampNeg) τ = some (bb, τ1)) (ht : τ1 18 7 = rk) (hk : (r.1 = 0 ∧ rk = 0 ∧ r.2.1 = bb) ∨ (r.1 = 2 ∧ rk = 1)) (hkn : k + 1 ≤ 1110 ∧ n + 6 ≤ 36308) (kk : ∀ (g : Nat → Int64) (ls : Array Slot), lv_has ls 7 [(0, .ref sb), (1, .ref (a 0)), (2, .ref (b 0)), (3, .ref o), (4, .int i)] → x_W p l e room_1 s m args below meth c A D (lwld cI cZ cJ a b o) (k + 1) (n + 6) Q (r.2.2, τ1, g) (F0 m 1060 ls [])) : ∀ ls : Array Slot, lv_has ls 7 [(0, .ref sb), (1, .ref (a 0)), (2, .ref (b 0)), (3, .ref o), (4, .int i)] → x_W p l e room_1 s m args below meth c A D (lwld cI cZ cJ a b o) k n Q (σ, τ, g) (F0 m 308 ls []) := by
  intro ls hl
  rcases hk with ⟨h0, rfl, hbb⟩ | ⟨h0, rfl⟩
  · have KK := kk (vp_updL g 0 r.2.1.toInt64)
    refine x_aload_n X dL_law_308 rfl hl 1 rfl ?_
    refine x_aload_n X dL_law_309 rfl hl 0 rfl ?_
    refine x_iload X dL_law_310 hl 4 rfl ?_
    refine x_iconst X dL_law_312 xk_iconst_1 ?_
    refine x_iadd X dL_law_313 ?_
    refine x_sld X hX hsb hbA h1 dL_law_314 ?_
    refine x_aload_n X dL_law_315 rfl hl 3 rfl ?_
    refine f_cw (w1 := mwld cI cZ b τ) (w2 := []) (wc := wwld cI cJ a o) (τ := (σ, g)) (τ' := (r.2.2, (vp_updL g 0 r.2.1.toInt64))) (σ' := (r.2.2, τ, (vp_updL g 0 r.2.1.toInt64))) X LX (c_L_run l hst D cI cZ cJ a o F σ g (xs (i + (1 : Int32)).toNatClampNeg) hf 0 (r.2.2, (vp_updL g 0 r.2.1.toInt64)) (Or.inl ⟨h0, rfl, rfl⟩)) (vx_cwSW 3 X.2.2.2.2.1 gL_law_L_run rfl rfl rfl (by decide +kernel) ⟨Nat.le_of_ble_eq_true rfl, Nat.le_of_ble_eq_true rfl⟩) rfl hl rfl (Nat.le_of_ble_eq_true rfl) hkn dL_law_316 rfl rfl ?_
    refine x_istoreA (lv' := [(5, .int (0 : Int32)), (0, .ref sb), (1, .ref (a 0)), (2, .ref (b 0)), (3, .ref o), (4, .int i)]) X dL_law_319 hl (by decide) rfl (fun ls hl => ?_)
    refine x_aload_n X dL_law_321 rfl hl 3 rfl ?_
    refine x_aload_n X dL_law_322 rfl hl 1 rfl ?_
    refine x_iload X dL_law_323 hl 5 rfl ?_
    refine x_iconst X dL_law_325 xk_iconst_1 ?_
    refine x_iadd X dL_law_326 ?_
    refine x_sld X hX hsb hbA h1 dL_law_327 ?_
    refine f_cV (w1 := []) (w2 := cwld cI a r.2.2 ++ l_out cJ o ((vp_updL g 0 r.2.1.toInt64))) (wc := mwld cI cZ b) (τ := τ) (τ' := τ1) (σ' := (r.2.2, τ1, (vp_updL g 0 r.2.1.toInt64))) X 0 8 (mw_o cI cZ b τ) rfl rfl (c_X8_run l D cI cZ cJ b F hm) (cwV 1 X.2.2.2.2.1 gL_law_X8_run rfl rfl rfl (by decide +kernel) ⟨Nat.le_of_ble_eq_true rfl, Nat.le_of_ble_eq_true rfl⟩) rfl hl rfl (Nat.le_of_ble_eq_true rfl) hkn dL_law_328 rfl rfl ?_
    refine x_istoreA (lv' := [(6, .int bb), (5, .int (0 : Int32)), (0, .ref sb), (1, .ref (a 0)), (2, .ref (b 0)), (3, .ref o), (4, .int i)]) X dL_law_331 hl (by decide) rfl (fun ls hl => ?_)
    refine x_aload_n X dL_law_333 rfl hl 4 rfl ?_
    refine f_cV (w1 := []) (w2 := cwld cI a r.2.2 ++ l_out cJ o ((vp_updL g 0 r.2.1.toInt64))) (wc := mwld cI cZ b) (τ := τ1) (τ' := τ1) (σ' := (r.2.2, τ1, (vp_updL g 0 r.2.1.toInt64))) X 0 8 (mw_o cI cZ b τ1) rfl rfl (c_X8_thrown l D cI cZ cJ b F (r := τ1 18 7) rfl) (cwV 0 X.2.2.2.2.1 gL_law_X8_thrown rfl rfl rfl (by decide +kernel) ⟨Nat.le_of_ble_eq_true rfl, Nat.le_of_ble_eq_true rfl⟩) rfl hl rfl (Nat.le_of_ble_eq_true rfl) hkn dL_law_334 rfl rfl ?_
    refine x_iload X dL_law_337 hl 1 rfl ?_
    refine x_icmp_eq (tgt := 344) X dL_law_339 rfl (fun _ => ?_) (fun h9 => absurd ht h9)
    refine x_iload X dL_law_344 hl 1 rfl ?_
    refine x_if_ne (tgt := 361) X dL_law_346 rfl (fun h9 => absurd (by decide : ((0 : Int32)) = 0) h9) (fun _ => ?_)
    refine x_aload_n X dL_law_349 rfl hl 5 rfl ?_
    refine x_iconst X dL_law_350 xk_iconst_0 ?_
    refine x_lald X 70 2 (lw_o cI cZ cJ a b o (r.2.2, τ1, (vp_updL g 0 r.2.1.toInt64))) rfl (x_in_of (by decide)) dL_law_351 ?_
    refine x_iload X dL_law_352 hl 0 rfl ?_
    refine x_i2l X dL_law_354 ?_
    refine x_lcmp X dL_law_355 ?_
    refine x_if_eq (tgt := 361) X dL_law_356 rfl (fun _ => ?_) (fun h9 => absurd ((lg_cmp_eq _ _).mpr (by show r.2.1.toInt64 = bb.toInt64; rw [hbb])) h9)
    refine x_goto (tgt := 1060) X dL_law_361 rfl ?_
    exact KK _ (lv_sub hl [2, 3, 4, 5, 6] rfl)
  · have KK := kk g
    refine x_aload_n X dL_law_308 rfl hl 1 rfl ?_
    refine x_aload_n X dL_law_309 rfl hl 0 rfl ?_
    refine x_iload X dL_law_310 hl 4 rfl ?_
    refine x_iconst X dL_law_312 xk_iconst_1 ?_
    refine x_iadd X dL_law_313 ?_
    refine x_sld X hX hsb hbA h1 dL_law_314 ?_
    refine x_aload_n X dL_law_315 rfl hl 3 rfl ?_
    refine f_cw (w1 := mwld cI cZ b τ) (w2 := []) (wc := wwld cI cJ a o) (τ := (σ, g)) (τ' := (r.2.2, g)) (σ' := (r.2.2, τ, g)) X LX (c_L_run l hst D cI cZ cJ a o F σ g (xs (i + (1 : Int32)).toNatClampNeg) hf 1 (r.2.2, g) (Or.inr ⟨h0, rfl, rfl⟩)) (vx_cwSW 3 X.2.2.2.2.1 gL_law_L_run rfl rfl rfl (by decide +kernel) ⟨Nat.le_of_ble_eq_true rfl, Nat.le_of_ble_eq_true rfl⟩) rfl hl rfl (Nat.le_of_ble_eq_true rfl) hkn dL_law_316 rfl rfl ?_
    refine x_istoreA (lv' := [(5, .int (1 : Int32)), (0, .ref sb), (1, .ref (a 0)), (2, .ref (b 0)), (3, .ref o), (4, .int i)]) X dL_law_319 hl (by decide) rfl (fun ls hl => ?_)
    refine x_aload_n X dL_law_321 rfl hl 3 rfl ?_
    refine x_aload_n X dL_law_322 rfl hl 1 rfl ?_
    refine x_iload X dL_law_323 hl 5 rfl ?_
    refine x_iconst X dL_law_325 xk_iconst_1 ?_
    refine x_iadd X dL_law_326 ?_
    refine x_sld X hX hsb hbA h1 dL_law_327 ?_
    refine f_cV (w1 := []) (w2 := cwld cI a r.2.2 ++ l_out cJ o (g)) (wc := mwld cI cZ b) (τ := τ) (τ' := τ1) (σ' := (r.2.2, τ1, g)) X 0 8 (mw_o cI cZ b τ) rfl rfl (c_X8_run l D cI cZ cJ b F hm) (cwV 1 X.2.2.2.2.1 gL_law_X8_run rfl rfl rfl (by decide +kernel) ⟨Nat.le_of_ble_eq_true rfl, Nat.le_of_ble_eq_true rfl⟩) rfl hl rfl (Nat.le_of_ble_eq_true rfl) hkn dL_law_328 rfl rfl ?_
    refine x_istoreA (lv' := [(6, .int bb), (5, .int (1 : Int32)), (0, .ref sb), (1, .ref (a 0)), (2, .ref (b 0)), (3, .ref o), (4, .int i)]) X dL_law_331 hl (by decide) rfl (fun ls hl => ?_)
    refine x_aload_n X dL_law_333 rfl hl 4 rfl ?_
    refine f_cV (w1 := []) (w2 := cwld cI a r.2.2 ++ l_out cJ o (g)) (wc := mwld cI cZ b) (τ := τ1) (τ' := τ1) (σ' := (r.2.2, τ1, g)) X 0 8 (mw_o cI cZ b τ1) rfl rfl (c_X8_thrown l D cI cZ cJ b F (r := τ1 18 7) rfl) (cwV 0 X.2.2.2.2.1 gL_law_X8_thrown rfl rfl rfl (by decide +kernel) ⟨Nat.le_of_ble_eq_true rfl, Nat.le_of_ble_eq_true rfl⟩) rfl hl rfl (Nat.le_of_ble_eq_true rfl) hkn dL_law_334 rfl rfl ?_
    refine x_iload X dL_law_337 hl 1 rfl ?_
    refine x_icmp_eq (tgt := 344) X dL_law_339 rfl (fun _ => ?_) (fun h9 => absurd ht h9)
    refine x_iload X dL_law_344 hl 1 rfl ?_
    refine x_if_ne (tgt := 361) X dL_law_346 rfl (fun _ => ?_) (fun h9 => absurd h9 (by decide : ¬ ((1 : Int32)) = 0))
    refine x_goto (tgt := 1060) X dL_law_361 rfl ?_
    exact KK _ (lv_sub hl [2, 3, 4, 5, 6] rfl)
set_option maxHeartbeats 4000000 in
set_option maxRecDepth 100000 in
theorem l_pause {p : Program} {l : Launch} {e : Env} {s : State} {m : MethodId} {args : Array Value} {below : List Frame} {meth : Method} {c : Code} {k n : Nat} {Q : State → Prop} {D : va_G} {A : Nat → Prop} {cI cZ cJ : ClassId} {a b : Nat → Nat} {o sb L : Nat} {xs : Nat → Int32} (X : x_X p s m args meth c cL_law 7 (some .boolean) RL wsL_law D (x_tys cI cZ cJ) A) (hX : va_X sb L xs s s.heap) (hsb : sb < s.heap.size) (hbA : ¬ A sb) (LX : x_S s ∧ x_Z A s s.heap ∧ x_N s) (hst : l.stackTraces = false) (F : Nat) {σ τ τ1 : CS} {g : Nat → Int64} {i bb rk : Int32} {r : XR} (h1 : vp_in (i + (1 : Int32)) L) (h2 : vp_in (i + (2 : Int32)) L) {pb : Int32} (hpb : ((xs (i + (2 : Int32)).toNatClampNeg) = 0 ∧ pb = 0) ∨ (¬ (xs (i + (2 : Int32)).toNatClampNeg) = 0 ∧ pb = 1)) (hf : r_X7_pause F (xs (i + (1 : Int32)).toNatClampNeg) pb σ = some r) (hm : r_X8_pause F (xs (i + (1 : Int32)).toNatClampNeg) pb τ = some (bb, τ1)) (ht : τ1 18 7 = rk) (hk : (r.1 = 0 ∧ rk = 0 ∧ r.2.1 = bb) ∨ (r.1 = 1 ∧ rk = 1)) (hkn : k + 1 ≤ 1110 ∧ n + 6 ≤ 36308) (kk : ∀ (g : Nat → Int64) (ls : Array Slot), lv_has ls 7 [(0, .ref sb), (1, .ref (a 0)), (2, .ref (b 0)), (3, .ref o), (4, .int i)] → x_W p l e room_1 s m args below meth c A D (lwld cI cZ cJ a b o) (k + 1) (n + 6) Q (r.2.2, τ1, g) (F0 m 1060 ls [])) : ∀ ls : Array Slot, lv_has ls 7 [(0, .ref sb), (1, .ref (a 0)), (2, .ref (b 0)), (3, .ref o), (4, .int i)] → x_W p l e room_1 s m args below meth c A D (lwld cI cZ cJ a b o) k n Q (σ, τ, g) (F0 m 364 ls []) := by
  intro ls hl
  rcases hk with ⟨h0, rfl, hbb⟩ | ⟨h0, rfl⟩
  · have KK := kk (vp_updL g 0 (if r.2.1 = 0 then 0 else 1))
    rcases hpb with ⟨hq, rfl⟩ | ⟨hq, rfl⟩
    · by_cases hz : bb = 0
      · refine x_aload_n X dL_law_364 rfl hl 1 rfl ?_
        refine x_aload_n X dL_law_365 rfl hl 0 rfl ?_
        refine x_iload X dL_law_366 hl 4 rfl ?_
        refine x_iconst X dL_law_368 xk_iconst_1 ?_
        refine x_iadd X dL_law_369 ?_
        refine x_sld X hX hsb hbA h1 dL_law_370 ?_
        refine x_aload_n X dL_law_371 rfl hl 0 rfl ?_
        refine x_iload X dL_law_372 hl 4 rfl ?_
        refine x_iconst X dL_law_374 xk_iconst_2 ?_
        refine x_iadd X dL_law_375 ?_
        refine x_sld X hX hsb hbA h2 dL_law_376 ?_
        refine x_if_eq (tgt := 384) X dL_law_377 rfl (fun _ => ?_) (fun h9 => absurd hq h9)
        refine x_iconst X dL_law_384 xk_iconst_0 ?_
        refine x_aload_n X dL_law_385 rfl hl 3 rfl ?_
        refine f_cw (w1 := mwld cI cZ b τ) (w2 := []) (wc := wwld cI cJ a o) (τ := (σ, g)) (τ' := (r.2.2, (vp_updL g 0 (if r.2.1 = 0 then 0 else 1)))) (σ' := (r.2.2, τ, (vp_updL g 0 (if r.2.1 = 0 then 0 else 1)))) X LX (c_L_pause l hst D cI cZ cJ a o F σ g (xs (i + (1 : Int32)).toNatClampNeg) (0 : Int32) hf 0 (r.2.2, (vp_updL g 0 (if r.2.1 = 0 then 0 else 1))) (Or.inl ⟨h0, rfl, rfl⟩)) (vx_cwSW 4 X.2.2.2.2.1 gL_law_L_pause rfl rfl rfl (by decide +kernel) ⟨Nat.le_of_ble_eq_true rfl, Nat.le_of_ble_eq_true rfl⟩) rfl hl rfl (Nat.le_of_ble_eq_true rfl) hkn dL_law_386 rfl rfl ?_
        refine x_istoreA (lv' := [(5, .int (0 : Int32)), (0, .ref sb), (1, .ref (a 0)), (2, .ref (b 0)), (3, .ref o), (4, .int i)]) X dL_law_389 hl (by decide) rfl (fun ls hl => ?_)
        refine x_aload_n X dL_law_391 rfl hl 3 rfl ?_
        refine x_aload_n X dL_law_392 rfl hl 1 rfl ?_
        refine x_iload X dL_law_393 hl 5 rfl ?_
        refine x_iconst X dL_law_395 xk_iconst_1 ?_
        refine x_iadd X dL_law_396 ?_
        refine x_sld X hX hsb hbA h1 dL_law_397 ?_
        refine x_aload_n X dL_law_398 rfl hl 1 rfl ?_
        refine x_iload X dL_law_399 hl 5 rfl ?_
        refine x_iconst X dL_law_401 xk_iconst_2 ?_
        refine x_iadd X dL_law_402 ?_
        refine x_sld X hX hsb hbA h2 dL_law_403 ?_
        refine x_if_eq (tgt := 411) X dL_law_404 rfl (fun _ => ?_) (fun h9 => absurd hq h9)
        refine x_iconst X dL_law_411 xk_iconst_0 ?_
        refine f_cV (w1 := []) (w2 := cwld cI a r.2.2 ++ l_out cJ o ((vp_updL g 0 (if r.2.1 = 0 then 0 else 1)))) (wc := mwld cI cZ b) (τ := τ) (τ' := τ1) (σ' := (r.2.2, τ1, (vp_updL g 0 (if r.2.1 = 0 then 0 else 1)))) X 0 8 (mw_o cI cZ b τ) rfl rfl (c_X8_pause l D cI cZ cJ b F hm) (cwV 2 X.2.2.2.2.1 gL_law_X8_pause rfl rfl rfl (by decide +kernel) ⟨Nat.le_of_ble_eq_true rfl, Nat.le_of_ble_eq_true rfl⟩) rfl hl rfl (Nat.le_of_ble_eq_true rfl) hkn dL_law_412 rfl rfl ?_
        refine x_istoreA (lv' := [(6, .int bb), (5, .int (0 : Int32)), (0, .ref sb), (1, .ref (a 0)), (2, .ref (b 0)), (3, .ref o), (4, .int i)]) X dL_law_415 hl (by decide) rfl (fun ls hl => ?_)
        refine x_aload_n X dL_law_417 rfl hl 4 rfl ?_
        refine f_cV (w1 := []) (w2 := cwld cI a r.2.2 ++ l_out cJ o ((vp_updL g 0 (if r.2.1 = 0 then 0 else 1)))) (wc := mwld cI cZ b) (τ := τ1) (τ' := τ1) (σ' := (r.2.2, τ1, (vp_updL g 0 (if r.2.1 = 0 then 0 else 1)))) X 0 8 (mw_o cI cZ b τ1) rfl rfl (c_X8_thrown l D cI cZ cJ b F (r := τ1 18 7) rfl) (cwV 0 X.2.2.2.2.1 gL_law_X8_thrown rfl rfl rfl (by decide +kernel) ⟨Nat.le_of_ble_eq_true rfl, Nat.le_of_ble_eq_true rfl⟩) rfl hl rfl (Nat.le_of_ble_eq_true rfl) hkn dL_law_418 rfl rfl ?_
        refine x_iload X dL_law_421 hl 1 rfl ?_
        refine x_icmp_eq (tgt := 428) X dL_law_423 rfl (fun _ => ?_) (fun h9 => absurd ht h9)
        refine x_iload X dL_law_428 hl 1 rfl ?_
        refine x_if_ne (tgt := 452) X dL_law_430 rfl (fun h9 => absurd (by decide : ((0 : Int32)) = 0) h9) (fun _ => ?_)
        refine x_aload_n X dL_law_433 rfl hl 5 rfl ?_
        refine x_iconst X dL_law_434 xk_iconst_0 ?_
        refine x_lald X 70 2 (lw_o cI cZ cJ a b o (r.2.2, τ1, (vp_updL g 0 (if r.2.1 = 0 then 0 else 1)))) rfl (x_in_of (by decide)) dL_law_435 ?_
        refine x_iload X dL_law_436 hl 0 rfl ?_
        refine x_if_eq (tgt := 445) X dL_law_438 rfl (fun _ => ?_) (fun h9 => absurd hz h9)
        refine x_lconst (v := 0) X dL_law_445 (by decide) ?_
        refine x_lcmp X dL_law_446 ?_
        refine x_if_eq (tgt := 452) X dL_law_447 rfl (fun _ => ?_) (fun h9 => absurd ((lg_cmp_eq _ _).mpr (by show (if r.2.1 = 0 then (0 : Int64) else 1) = 0; rw [hbb]; exact if_pos hz)) h9)
        refine x_goto (tgt := 1060) X dL_law_452 rfl ?_
        exact KK _ (lv_sub hl [2, 3, 4, 5, 6] rfl)
      · refine x_aload_n X dL_law_364 rfl hl 1 rfl ?_
        refine x_aload_n X dL_law_365 rfl hl 0 rfl ?_
        refine x_iload X dL_law_366 hl 4 rfl ?_
        refine x_iconst X dL_law_368 xk_iconst_1 ?_
        refine x_iadd X dL_law_369 ?_
        refine x_sld X hX hsb hbA h1 dL_law_370 ?_
        refine x_aload_n X dL_law_371 rfl hl 0 rfl ?_
        refine x_iload X dL_law_372 hl 4 rfl ?_
        refine x_iconst X dL_law_374 xk_iconst_2 ?_
        refine x_iadd X dL_law_375 ?_
        refine x_sld X hX hsb hbA h2 dL_law_376 ?_
        refine x_if_eq (tgt := 384) X dL_law_377 rfl (fun _ => ?_) (fun h9 => absurd hq h9)
        refine x_iconst X dL_law_384 xk_iconst_0 ?_
        refine x_aload_n X dL_law_385 rfl hl 3 rfl ?_
        refine f_cw (w1 := mwld cI cZ b τ) (w2 := []) (wc := wwld cI cJ a o) (τ := (σ, g)) (τ' := (r.2.2, (vp_updL g 0 (if r.2.1 = 0 then 0 else 1)))) (σ' := (r.2.2, τ, (vp_updL g 0 (if r.2.1 = 0 then 0 else 1)))) X LX (c_L_pause l hst D cI cZ cJ a o F σ g (xs (i + (1 : Int32)).toNatClampNeg) (0 : Int32) hf 0 (r.2.2, (vp_updL g 0 (if r.2.1 = 0 then 0 else 1))) (Or.inl ⟨h0, rfl, rfl⟩)) (vx_cwSW 4 X.2.2.2.2.1 gL_law_L_pause rfl rfl rfl (by decide +kernel) ⟨Nat.le_of_ble_eq_true rfl, Nat.le_of_ble_eq_true rfl⟩) rfl hl rfl (Nat.le_of_ble_eq_true rfl) hkn dL_law_386 rfl rfl ?_
        refine x_istoreA (lv' := [(5, .int (0 : Int32)), (0, .ref sb), (1, .ref (a 0)), (2, .ref (b 0)), (3, .ref o), (4, .int i)]) X dL_law_389 hl (by decide) rfl (fun ls hl => ?_)
        refine x_aload_n X dL_law_391 rfl hl 3 rfl ?_
        refine x_aload_n X dL_law_392 rfl hl 1 rfl ?_
        refine x_iload X dL_law_393 hl 5 rfl ?_
        refine x_iconst X dL_law_395 xk_iconst_1 ?_
        refine x_iadd X dL_law_396 ?_
        refine x_sld X hX hsb hbA h1 dL_law_397 ?_
        refine x_aload_n X dL_law_398 rfl hl 1 rfl ?_
        refine x_iload X dL_law_399 hl 5 rfl ?_
        refine x_iconst X dL_law_401 xk_iconst_2 ?_
        refine x_iadd X dL_law_402 ?_
        refine x_sld X hX hsb hbA h2 dL_law_403 ?_
        refine x_if_eq (tgt := 411) X dL_law_404 rfl (fun _ => ?_) (fun h9 => absurd hq h9)
        refine x_iconst X dL_law_411 xk_iconst_0 ?_
        refine f_cV (w1 := []) (w2 := cwld cI a r.2.2 ++ l_out cJ o ((vp_updL g 0 (if r.2.1 = 0 then 0 else 1)))) (wc := mwld cI cZ b) (τ := τ) (τ' := τ1) (σ' := (r.2.2, τ1, (vp_updL g 0 (if r.2.1 = 0 then 0 else 1)))) X 0 8 (mw_o cI cZ b τ) rfl rfl (c_X8_pause l D cI cZ cJ b F hm) (cwV 2 X.2.2.2.2.1 gL_law_X8_pause rfl rfl rfl (by decide +kernel) ⟨Nat.le_of_ble_eq_true rfl, Nat.le_of_ble_eq_true rfl⟩) rfl hl rfl (Nat.le_of_ble_eq_true rfl) hkn dL_law_412 rfl rfl ?_
        refine x_istoreA (lv' := [(6, .int bb), (5, .int (0 : Int32)), (0, .ref sb), (1, .ref (a 0)), (2, .ref (b 0)), (3, .ref o), (4, .int i)]) X dL_law_415 hl (by decide) rfl (fun ls hl => ?_)
        refine x_aload_n X dL_law_417 rfl hl 4 rfl ?_
        refine f_cV (w1 := []) (w2 := cwld cI a r.2.2 ++ l_out cJ o ((vp_updL g 0 (if r.2.1 = 0 then 0 else 1)))) (wc := mwld cI cZ b) (τ := τ1) (τ' := τ1) (σ' := (r.2.2, τ1, (vp_updL g 0 (if r.2.1 = 0 then 0 else 1)))) X 0 8 (mw_o cI cZ b τ1) rfl rfl (c_X8_thrown l D cI cZ cJ b F (r := τ1 18 7) rfl) (cwV 0 X.2.2.2.2.1 gL_law_X8_thrown rfl rfl rfl (by decide +kernel) ⟨Nat.le_of_ble_eq_true rfl, Nat.le_of_ble_eq_true rfl⟩) rfl hl rfl (Nat.le_of_ble_eq_true rfl) hkn dL_law_418 rfl rfl ?_
        refine x_iload X dL_law_421 hl 1 rfl ?_
        refine x_icmp_eq (tgt := 428) X dL_law_423 rfl (fun _ => ?_) (fun h9 => absurd ht h9)
        refine x_iload X dL_law_428 hl 1 rfl ?_
        refine x_if_ne (tgt := 452) X dL_law_430 rfl (fun h9 => absurd (by decide : ((0 : Int32)) = 0) h9) (fun _ => ?_)
        refine x_aload_n X dL_law_433 rfl hl 5 rfl ?_
        refine x_iconst X dL_law_434 xk_iconst_0 ?_
        refine x_lald X 70 2 (lw_o cI cZ cJ a b o (r.2.2, τ1, (vp_updL g 0 (if r.2.1 = 0 then 0 else 1)))) rfl (x_in_of (by decide)) dL_law_435 ?_
        refine x_iload X dL_law_436 hl 0 rfl ?_
        refine x_if_eq (tgt := 445) X dL_law_438 rfl (fun h9 => absurd h9 hz) (fun _ => ?_)
        refine x_lconst (v := 1) X dL_law_441 (by decide) ?_
        refine x_goto (tgt := 446) X dL_law_442 rfl ?_
        refine x_lcmp X dL_law_446 ?_
        refine x_if_eq (tgt := 452) X dL_law_447 rfl (fun _ => ?_) (fun h9 => absurd ((lg_cmp_eq _ _).mpr (by show (if r.2.1 = 0 then (0 : Int64) else 1) = 1; rw [hbb]; exact if_neg hz)) h9)
        refine x_goto (tgt := 1060) X dL_law_452 rfl ?_
        exact KK _ (lv_sub hl [2, 3, 4, 5, 6] rfl)
    · by_cases hz : bb = 0
      · refine x_aload_n X dL_law_364 rfl hl 1 rfl ?_
        refine x_aload_n X dL_law_365 rfl hl 0 rfl ?_
        refine x_iload X dL_law_366 hl 4 rfl ?_
        refine x_iconst X dL_law_368 xk_iconst_1 ?_
        refine x_iadd X dL_law_369 ?_
        refine x_sld X hX hsb hbA h1 dL_law_370 ?_
        refine x_aload_n X dL_law_371 rfl hl 0 rfl ?_
        refine x_iload X dL_law_372 hl 4 rfl ?_
        refine x_iconst X dL_law_374 xk_iconst_2 ?_
        refine x_iadd X dL_law_375 ?_
        refine x_sld X hX hsb hbA h2 dL_law_376 ?_
        refine x_if_eq (tgt := 384) X dL_law_377 rfl (fun h9 => absurd h9 hq) (fun _ => ?_)
        refine x_iconst X dL_law_380 xk_iconst_1 ?_
        refine x_goto (tgt := 385) X dL_law_381 rfl ?_
        refine x_aload_n X dL_law_385 rfl hl 3 rfl ?_
        refine f_cw (w1 := mwld cI cZ b τ) (w2 := []) (wc := wwld cI cJ a o) (τ := (σ, g)) (τ' := (r.2.2, (vp_updL g 0 (if r.2.1 = 0 then 0 else 1)))) (σ' := (r.2.2, τ, (vp_updL g 0 (if r.2.1 = 0 then 0 else 1)))) X LX (c_L_pause l hst D cI cZ cJ a o F σ g (xs (i + (1 : Int32)).toNatClampNeg) (1 : Int32) hf 0 (r.2.2, (vp_updL g 0 (if r.2.1 = 0 then 0 else 1))) (Or.inl ⟨h0, rfl, rfl⟩)) (vx_cwSW 4 X.2.2.2.2.1 gL_law_L_pause rfl rfl rfl (by decide +kernel) ⟨Nat.le_of_ble_eq_true rfl, Nat.le_of_ble_eq_true rfl⟩) rfl hl rfl (Nat.le_of_ble_eq_true rfl) hkn dL_law_386 rfl rfl ?_
        refine x_istoreA (lv' := [(5, .int (0 : Int32)), (0, .ref sb), (1, .ref (a 0)), (2, .ref (b 0)), (3, .ref o), (4, .int i)]) X dL_law_389 hl (by decide) rfl (fun ls hl => ?_)
        refine x_aload_n X dL_law_391 rfl hl 3 rfl ?_
        refine x_aload_n X dL_law_392 rfl hl 1 rfl ?_
        refine x_iload X dL_law_393 hl 5 rfl ?_
        refine x_iconst X dL_law_395 xk_iconst_1 ?_
        refine x_iadd X dL_law_396 ?_
        refine x_sld X hX hsb hbA h1 dL_law_397 ?_
        refine x_aload_n X dL_law_398 rfl hl 1 rfl ?_
        refine x_iload X dL_law_399 hl 5 rfl ?_
        refine x_iconst X dL_law_401 xk_iconst_2 ?_
        refine x_iadd X dL_law_402 ?_
        refine x_sld X hX hsb hbA h2 dL_law_403 ?_
        refine x_if_eq (tgt := 411) X dL_law_404 rfl (fun h9 => absurd h9 hq) (fun _ => ?_)
        refine x_iconst X dL_law_407 xk_iconst_1 ?_
        refine x_goto (tgt := 412) X dL_law_408 rfl ?_
        refine f_cV (w1 := []) (w2 := cwld cI a r.2.2 ++ l_out cJ o ((vp_updL g 0 (if r.2.1 = 0 then 0 else 1)))) (wc := mwld cI cZ b) (τ := τ) (τ' := τ1) (σ' := (r.2.2, τ1, (vp_updL g 0 (if r.2.1 = 0 then 0 else 1)))) X 0 8 (mw_o cI cZ b τ) rfl rfl (c_X8_pause l D cI cZ cJ b F hm) (cwV 2 X.2.2.2.2.1 gL_law_X8_pause rfl rfl rfl (by decide +kernel) ⟨Nat.le_of_ble_eq_true rfl, Nat.le_of_ble_eq_true rfl⟩) rfl hl rfl (Nat.le_of_ble_eq_true rfl) hkn dL_law_412 rfl rfl ?_
        refine x_istoreA (lv' := [(6, .int bb), (5, .int (0 : Int32)), (0, .ref sb), (1, .ref (a 0)), (2, .ref (b 0)), (3, .ref o), (4, .int i)]) X dL_law_415 hl (by decide) rfl (fun ls hl => ?_)
        refine x_aload_n X dL_law_417 rfl hl 4 rfl ?_
        refine f_cV (w1 := []) (w2 := cwld cI a r.2.2 ++ l_out cJ o ((vp_updL g 0 (if r.2.1 = 0 then 0 else 1)))) (wc := mwld cI cZ b) (τ := τ1) (τ' := τ1) (σ' := (r.2.2, τ1, (vp_updL g 0 (if r.2.1 = 0 then 0 else 1)))) X 0 8 (mw_o cI cZ b τ1) rfl rfl (c_X8_thrown l D cI cZ cJ b F (r := τ1 18 7) rfl) (cwV 0 X.2.2.2.2.1 gL_law_X8_thrown rfl rfl rfl (by decide +kernel) ⟨Nat.le_of_ble_eq_true rfl, Nat.le_of_ble_eq_true rfl⟩) rfl hl rfl (Nat.le_of_ble_eq_true rfl) hkn dL_law_418 rfl rfl ?_
        refine x_iload X dL_law_421 hl 1 rfl ?_
        refine x_icmp_eq (tgt := 428) X dL_law_423 rfl (fun _ => ?_) (fun h9 => absurd ht h9)
        refine x_iload X dL_law_428 hl 1 rfl ?_
        refine x_if_ne (tgt := 452) X dL_law_430 rfl (fun h9 => absurd (by decide : ((0 : Int32)) = 0) h9) (fun _ => ?_)
        refine x_aload_n X dL_law_433 rfl hl 5 rfl ?_
        refine x_iconst X dL_law_434 xk_iconst_0 ?_
        refine x_lald X 70 2 (lw_o cI cZ cJ a b o (r.2.2, τ1, (vp_updL g 0 (if r.2.1 = 0 then 0 else 1)))) rfl (x_in_of (by decide)) dL_law_435 ?_
        refine x_iload X dL_law_436 hl 0 rfl ?_
        refine x_if_eq (tgt := 445) X dL_law_438 rfl (fun _ => ?_) (fun h9 => absurd hz h9)
        refine x_lconst (v := 0) X dL_law_445 (by decide) ?_
        refine x_lcmp X dL_law_446 ?_
        refine x_if_eq (tgt := 452) X dL_law_447 rfl (fun _ => ?_) (fun h9 => absurd ((lg_cmp_eq _ _).mpr (by show (if r.2.1 = 0 then (0 : Int64) else 1) = 0; rw [hbb]; exact if_pos hz)) h9)
        refine x_goto (tgt := 1060) X dL_law_452 rfl ?_
        exact KK _ (lv_sub hl [2, 3, 4, 5, 6] rfl)
      · refine x_aload_n X dL_law_364 rfl hl 1 rfl ?_
        refine x_aload_n X dL_law_365 rfl hl 0 rfl ?_
        refine x_iload X dL_law_366 hl 4 rfl ?_
        refine x_iconst X dL_law_368 xk_iconst_1 ?_
        refine x_iadd X dL_law_369 ?_
        refine x_sld X hX hsb hbA h1 dL_law_370 ?_
        refine x_aload_n X dL_law_371 rfl hl 0 rfl ?_
        refine x_iload X dL_law_372 hl 4 rfl ?_
        refine x_iconst X dL_law_374 xk_iconst_2 ?_
        refine x_iadd X dL_law_375 ?_
        refine x_sld X hX hsb hbA h2 dL_law_376 ?_
        refine x_if_eq (tgt := 384) X dL_law_377 rfl (fun h9 => absurd h9 hq) (fun _ => ?_)
        refine x_iconst X dL_law_380 xk_iconst_1 ?_
        refine x_goto (tgt := 385) X dL_law_381 rfl ?_
        refine x_aload_n X dL_law_385 rfl hl 3 rfl ?_
        refine f_cw (w1 := mwld cI cZ b τ) (w2 := []) (wc := wwld cI cJ a o) (τ := (σ, g)) (τ' := (r.2.2, (vp_updL g 0 (if r.2.1 = 0 then 0 else 1)))) (σ' := (r.2.2, τ, (vp_updL g 0 (if r.2.1 = 0 then 0 else 1)))) X LX (c_L_pause l hst D cI cZ cJ a o F σ g (xs (i + (1 : Int32)).toNatClampNeg) (1 : Int32) hf 0 (r.2.2, (vp_updL g 0 (if r.2.1 = 0 then 0 else 1))) (Or.inl ⟨h0, rfl, rfl⟩)) (vx_cwSW 4 X.2.2.2.2.1 gL_law_L_pause rfl rfl rfl (by decide +kernel) ⟨Nat.le_of_ble_eq_true rfl, Nat.le_of_ble_eq_true rfl⟩) rfl hl rfl (Nat.le_of_ble_eq_true rfl) hkn dL_law_386 rfl rfl ?_
        refine x_istoreA (lv' := [(5, .int (0 : Int32)), (0, .ref sb), (1, .ref (a 0)), (2, .ref (b 0)), (3, .ref o), (4, .int i)]) X dL_law_389 hl (by decide) rfl (fun ls hl => ?_)
        refine x_aload_n X dL_law_391 rfl hl 3 rfl ?_
        refine x_aload_n X dL_law_392 rfl hl 1 rfl ?_
        refine x_iload X dL_law_393 hl 5 rfl ?_
        refine x_iconst X dL_law_395 xk_iconst_1 ?_
        refine x_iadd X dL_law_396 ?_
        refine x_sld X hX hsb hbA h1 dL_law_397 ?_
        refine x_aload_n X dL_law_398 rfl hl 1 rfl ?_
        refine x_iload X dL_law_399 hl 5 rfl ?_
        refine x_iconst X dL_law_401 xk_iconst_2 ?_
        refine x_iadd X dL_law_402 ?_
        refine x_sld X hX hsb hbA h2 dL_law_403 ?_
        refine x_if_eq (tgt := 411) X dL_law_404 rfl (fun h9 => absurd h9 hq) (fun _ => ?_)
        refine x_iconst X dL_law_407 xk_iconst_1 ?_
        refine x_goto (tgt := 412) X dL_law_408 rfl ?_
        refine f_cV (w1 := []) (w2 := cwld cI a r.2.2 ++ l_out cJ o ((vp_updL g 0 (if r.2.1 = 0 then 0 else 1)))) (wc := mwld cI cZ b) (τ := τ) (τ' := τ1) (σ' := (r.2.2, τ1, (vp_updL g 0 (if r.2.1 = 0 then 0 else 1)))) X 0 8 (mw_o cI cZ b τ) rfl rfl (c_X8_pause l D cI cZ cJ b F hm) (cwV 2 X.2.2.2.2.1 gL_law_X8_pause rfl rfl rfl (by decide +kernel) ⟨Nat.le_of_ble_eq_true rfl, Nat.le_of_ble_eq_true rfl⟩) rfl hl rfl (Nat.le_of_ble_eq_true rfl) hkn dL_law_412 rfl rfl ?_
        refine x_istoreA (lv' := [(6, .int bb), (5, .int (0 : Int32)), (0, .ref sb), (1, .ref (a 0)), (2, .ref (b 0)), (3, .ref o), (4, .int i)]) X dL_law_415 hl (by decide) rfl (fun ls hl => ?_)
        refine x_aload_n X dL_law_417 rfl hl 4 rfl ?_
        refine f_cV (w1 := []) (w2 := cwld cI a r.2.2 ++ l_out cJ o ((vp_updL g 0 (if r.2.1 = 0 then 0 else 1)))) (wc := mwld cI cZ b) (τ := τ1) (τ' := τ1) (σ' := (r.2.2, τ1, (vp_updL g 0 (if r.2.1 = 0 then 0 else 1)))) X 0 8 (mw_o cI cZ b τ1) rfl rfl (c_X8_thrown l D cI cZ cJ b F (r := τ1 18 7) rfl) (cwV 0 X.2.2.2.2.1 gL_law_X8_thrown rfl rfl rfl (by decide +kernel) ⟨Nat.le_of_ble_eq_true rfl, Nat.le_of_ble_eq_true rfl⟩) rfl hl rfl (Nat.le_of_ble_eq_true rfl) hkn dL_law_418 rfl rfl ?_
        refine x_iload X dL_law_421 hl 1 rfl ?_
        refine x_icmp_eq (tgt := 428) X dL_law_423 rfl (fun _ => ?_) (fun h9 => absurd ht h9)
        refine x_iload X dL_law_428 hl 1 rfl ?_
        refine x_if_ne (tgt := 452) X dL_law_430 rfl (fun h9 => absurd (by decide : ((0 : Int32)) = 0) h9) (fun _ => ?_)
        refine x_aload_n X dL_law_433 rfl hl 5 rfl ?_
        refine x_iconst X dL_law_434 xk_iconst_0 ?_
        refine x_lald X 70 2 (lw_o cI cZ cJ a b o (r.2.2, τ1, (vp_updL g 0 (if r.2.1 = 0 then 0 else 1)))) rfl (x_in_of (by decide)) dL_law_435 ?_
        refine x_iload X dL_law_436 hl 0 rfl ?_
        refine x_if_eq (tgt := 445) X dL_law_438 rfl (fun h9 => absurd h9 hz) (fun _ => ?_)
        refine x_lconst (v := 1) X dL_law_441 (by decide) ?_
        refine x_goto (tgt := 446) X dL_law_442 rfl ?_
        refine x_lcmp X dL_law_446 ?_
        refine x_if_eq (tgt := 452) X dL_law_447 rfl (fun _ => ?_) (fun h9 => absurd ((lg_cmp_eq _ _).mpr (by show (if r.2.1 = 0 then (0 : Int64) else 1) = 1; rw [hbb]; exact if_neg hz)) h9)
        refine x_goto (tgt := 1060) X dL_law_452 rfl ?_
        exact KK _ (lv_sub hl [2, 3, 4, 5, 6] rfl)
  · have KK := kk g
    rcases hpb with ⟨hq, rfl⟩ | ⟨hq, rfl⟩
    · refine x_aload_n X dL_law_364 rfl hl 1 rfl ?_
      refine x_aload_n X dL_law_365 rfl hl 0 rfl ?_
      refine x_iload X dL_law_366 hl 4 rfl ?_
      refine x_iconst X dL_law_368 xk_iconst_1 ?_
      refine x_iadd X dL_law_369 ?_
      refine x_sld X hX hsb hbA h1 dL_law_370 ?_
      refine x_aload_n X dL_law_371 rfl hl 0 rfl ?_
      refine x_iload X dL_law_372 hl 4 rfl ?_
      refine x_iconst X dL_law_374 xk_iconst_2 ?_
      refine x_iadd X dL_law_375 ?_
      refine x_sld X hX hsb hbA h2 dL_law_376 ?_
      refine x_if_eq (tgt := 384) X dL_law_377 rfl (fun _ => ?_) (fun h9 => absurd hq h9)
      refine x_iconst X dL_law_384 xk_iconst_0 ?_
      refine x_aload_n X dL_law_385 rfl hl 3 rfl ?_
      refine f_cw (w1 := mwld cI cZ b τ) (w2 := []) (wc := wwld cI cJ a o) (τ := (σ, g)) (τ' := (r.2.2, g)) (σ' := (r.2.2, τ, g)) X LX (c_L_pause l hst D cI cZ cJ a o F σ g (xs (i + (1 : Int32)).toNatClampNeg) (0 : Int32) hf 1 (r.2.2, g) (Or.inr ⟨h0, rfl, rfl⟩)) (vx_cwSW 4 X.2.2.2.2.1 gL_law_L_pause rfl rfl rfl (by decide +kernel) ⟨Nat.le_of_ble_eq_true rfl, Nat.le_of_ble_eq_true rfl⟩) rfl hl rfl (Nat.le_of_ble_eq_true rfl) hkn dL_law_386 rfl rfl ?_
      refine x_istoreA (lv' := [(5, .int (1 : Int32)), (0, .ref sb), (1, .ref (a 0)), (2, .ref (b 0)), (3, .ref o), (4, .int i)]) X dL_law_389 hl (by decide) rfl (fun ls hl => ?_)
      refine x_aload_n X dL_law_391 rfl hl 3 rfl ?_
      refine x_aload_n X dL_law_392 rfl hl 1 rfl ?_
      refine x_iload X dL_law_393 hl 5 rfl ?_
      refine x_iconst X dL_law_395 xk_iconst_1 ?_
      refine x_iadd X dL_law_396 ?_
      refine x_sld X hX hsb hbA h1 dL_law_397 ?_
      refine x_aload_n X dL_law_398 rfl hl 1 rfl ?_
      refine x_iload X dL_law_399 hl 5 rfl ?_
      refine x_iconst X dL_law_401 xk_iconst_2 ?_
      refine x_iadd X dL_law_402 ?_
      refine x_sld X hX hsb hbA h2 dL_law_403 ?_
      refine x_if_eq (tgt := 411) X dL_law_404 rfl (fun _ => ?_) (fun h9 => absurd hq h9)
      refine x_iconst X dL_law_411 xk_iconst_0 ?_
      refine f_cV (w1 := []) (w2 := cwld cI a r.2.2 ++ l_out cJ o (g)) (wc := mwld cI cZ b) (τ := τ) (τ' := τ1) (σ' := (r.2.2, τ1, g)) X 0 8 (mw_o cI cZ b τ) rfl rfl (c_X8_pause l D cI cZ cJ b F hm) (cwV 2 X.2.2.2.2.1 gL_law_X8_pause rfl rfl rfl (by decide +kernel) ⟨Nat.le_of_ble_eq_true rfl, Nat.le_of_ble_eq_true rfl⟩) rfl hl rfl (Nat.le_of_ble_eq_true rfl) hkn dL_law_412 rfl rfl ?_
      refine x_istoreA (lv' := [(6, .int bb), (5, .int (1 : Int32)), (0, .ref sb), (1, .ref (a 0)), (2, .ref (b 0)), (3, .ref o), (4, .int i)]) X dL_law_415 hl (by decide) rfl (fun ls hl => ?_)
      refine x_aload_n X dL_law_417 rfl hl 4 rfl ?_
      refine f_cV (w1 := []) (w2 := cwld cI a r.2.2 ++ l_out cJ o (g)) (wc := mwld cI cZ b) (τ := τ1) (τ' := τ1) (σ' := (r.2.2, τ1, g)) X 0 8 (mw_o cI cZ b τ1) rfl rfl (c_X8_thrown l D cI cZ cJ b F (r := τ1 18 7) rfl) (cwV 0 X.2.2.2.2.1 gL_law_X8_thrown rfl rfl rfl (by decide +kernel) ⟨Nat.le_of_ble_eq_true rfl, Nat.le_of_ble_eq_true rfl⟩) rfl hl rfl (Nat.le_of_ble_eq_true rfl) hkn dL_law_418 rfl rfl ?_
      refine x_iload X dL_law_421 hl 1 rfl ?_
      refine x_icmp_eq (tgt := 428) X dL_law_423 rfl (fun _ => ?_) (fun h9 => absurd ht h9)
      refine x_iload X dL_law_428 hl 1 rfl ?_
      refine x_if_ne (tgt := 452) X dL_law_430 rfl (fun _ => ?_) (fun h9 => absurd h9 (by decide : ¬ ((1 : Int32)) = 0))
      refine x_goto (tgt := 1060) X dL_law_452 rfl ?_
      exact KK _ (lv_sub hl [2, 3, 4, 5, 6] rfl)
    · refine x_aload_n X dL_law_364 rfl hl 1 rfl ?_
      refine x_aload_n X dL_law_365 rfl hl 0 rfl ?_
      refine x_iload X dL_law_366 hl 4 rfl ?_
      refine x_iconst X dL_law_368 xk_iconst_1 ?_
      refine x_iadd X dL_law_369 ?_
      refine x_sld X hX hsb hbA h1 dL_law_370 ?_
      refine x_aload_n X dL_law_371 rfl hl 0 rfl ?_
      refine x_iload X dL_law_372 hl 4 rfl ?_
      refine x_iconst X dL_law_374 xk_iconst_2 ?_
      refine x_iadd X dL_law_375 ?_
      refine x_sld X hX hsb hbA h2 dL_law_376 ?_
      refine x_if_eq (tgt := 384) X dL_law_377 rfl (fun h9 => absurd h9 hq) (fun _ => ?_)
      refine x_iconst X dL_law_380 xk_iconst_1 ?_
      refine x_goto (tgt := 385) X dL_law_381 rfl ?_
      refine x_aload_n X dL_law_385 rfl hl 3 rfl ?_
      refine f_cw (w1 := mwld cI cZ b τ) (w2 := []) (wc := wwld cI cJ a o) (τ := (σ, g)) (τ' := (r.2.2, g)) (σ' := (r.2.2, τ, g)) X LX (c_L_pause l hst D cI cZ cJ a o F σ g (xs (i + (1 : Int32)).toNatClampNeg) (1 : Int32) hf 1 (r.2.2, g) (Or.inr ⟨h0, rfl, rfl⟩)) (vx_cwSW 4 X.2.2.2.2.1 gL_law_L_pause rfl rfl rfl (by decide +kernel) ⟨Nat.le_of_ble_eq_true rfl, Nat.le_of_ble_eq_true rfl⟩) rfl hl rfl (Nat.le_of_ble_eq_true rfl) hkn dL_law_386 rfl rfl ?_
      refine x_istoreA (lv' := [(5, .int (1 : Int32)), (0, .ref sb), (1, .ref (a 0)), (2, .ref (b 0)), (3, .ref o), (4, .int i)]) X dL_law_389 hl (by decide) rfl (fun ls hl => ?_)
      refine x_aload_n X dL_law_391 rfl hl 3 rfl ?_
      refine x_aload_n X dL_law_392 rfl hl 1 rfl ?_
      refine x_iload X dL_law_393 hl 5 rfl ?_
      refine x_iconst X dL_law_395 xk_iconst_1 ?_
      refine x_iadd X dL_law_396 ?_
      refine x_sld X hX hsb hbA h1 dL_law_397 ?_
      refine x_aload_n X dL_law_398 rfl hl 1 rfl ?_
      refine x_iload X dL_law_399 hl 5 rfl ?_
      refine x_iconst X dL_law_401 xk_iconst_2 ?_
      refine x_iadd X dL_law_402 ?_
      refine x_sld X hX hsb hbA h2 dL_law_403 ?_
      refine x_if_eq (tgt := 411) X dL_law_404 rfl (fun h9 => absurd h9 hq) (fun _ => ?_)
      refine x_iconst X dL_law_407 xk_iconst_1 ?_
      refine x_goto (tgt := 412) X dL_law_408 rfl ?_
      refine f_cV (w1 := []) (w2 := cwld cI a r.2.2 ++ l_out cJ o (g)) (wc := mwld cI cZ b) (τ := τ) (τ' := τ1) (σ' := (r.2.2, τ1, g)) X 0 8 (mw_o cI cZ b τ) rfl rfl (c_X8_pause l D cI cZ cJ b F hm) (cwV 2 X.2.2.2.2.1 gL_law_X8_pause rfl rfl rfl (by decide +kernel) ⟨Nat.le_of_ble_eq_true rfl, Nat.le_of_ble_eq_true rfl⟩) rfl hl rfl (Nat.le_of_ble_eq_true rfl) hkn dL_law_412 rfl rfl ?_
      refine x_istoreA (lv' := [(6, .int bb), (5, .int (1 : Int32)), (0, .ref sb), (1, .ref (a 0)), (2, .ref (b 0)), (3, .ref o), (4, .int i)]) X dL_law_415 hl (by decide) rfl (fun ls hl => ?_)
      refine x_aload_n X dL_law_417 rfl hl 4 rfl ?_
      refine f_cV (w1 := []) (w2 := cwld cI a r.2.2 ++ l_out cJ o (g)) (wc := mwld cI cZ b) (τ := τ1) (τ' := τ1) (σ' := (r.2.2, τ1, g)) X 0 8 (mw_o cI cZ b τ1) rfl rfl (c_X8_thrown l D cI cZ cJ b F (r := τ1 18 7) rfl) (cwV 0 X.2.2.2.2.1 gL_law_X8_thrown rfl rfl rfl (by decide +kernel) ⟨Nat.le_of_ble_eq_true rfl, Nat.le_of_ble_eq_true rfl⟩) rfl hl rfl (Nat.le_of_ble_eq_true rfl) hkn dL_law_418 rfl rfl ?_
      refine x_iload X dL_law_421 hl 1 rfl ?_
      refine x_icmp_eq (tgt := 428) X dL_law_423 rfl (fun _ => ?_) (fun h9 => absurd ht h9)
      refine x_iload X dL_law_428 hl 1 rfl ?_
      refine x_if_ne (tgt := 452) X dL_law_430 rfl (fun _ => ?_) (fun h9 => absurd h9 (by decide : ¬ ((1 : Int32)) = 0))
      refine x_goto (tgt := 1060) X dL_law_452 rfl ?_
      exact KK _ (lv_sub hl [2, 3, 4, 5, 6] rfl)
set_option maxHeartbeats 4000000 in
set_option maxRecDepth 100000 in
theorem l_lose {p : Program} {l : Launch} {e : Env} {s : State} {m : MethodId} {args : Array Value} {below : List Frame} {meth : Method} {c : Code} {k n : Nat} {Q : State → Prop} {D : va_G} {A : Nat → Prop} {cI cZ cJ : ClassId} {a b : Nat → Nat} {o sb L : Nat} {xs : Nat → Int32} (X : x_X p s m args meth c cL_law 7 (some .boolean) RL wsL_law D (x_tys cI cZ cJ) A) (hX : va_X sb L xs s s.heap) (hsb : sb < s.heap.size) (hbA : ¬ A sb) (LX : x_S s ∧ x_Z A s s.heap ∧ x_N s) (hst : l.stackTraces = false) (F : Nat) {σ τ τ1 : CS} {g : Nat → Int64} {i bb rk : Int32} {r : XR} (h1 : vp_in (i + (1 : Int32)) L) (h2 : vp_in (i + (2 : Int32)) L) (h3 : vp_in (i + (3 : Int32)) L) (hf : r_X7_lose F (xs (i + (1 : Int32)).toNatClampNeg) (xs (i + (2 : Int32)).toNatClampNeg) (xs (i + (3 : Int32)).toNatClampNeg) σ = some r) (hm : r_X8_lose F (xs (i + (1 : Int32)).toNatClampNeg) (xs (i + (2 : Int32)).toNatClampNeg) (xs (i + (3 : Int32)).toNatClampNeg) τ = some (bb, τ1)) (ht : τ1 18 7 = rk) (hk : (r.1 = 0 ∧ rk = 0 ∧ r.2.1 = bb) ∨ (r.1 = 1 ∧ rk = 1) ∨ (r.1 = 2 ∧ rk = 2) ∨ (r.1 = 3 ∧ rk = 3)) (hkn : k + 1 ≤ 1110 ∧ n + 6 ≤ 36308) (kk : ∀ (g : Nat → Int64) (ls : Array Slot), lv_has ls 7 [(0, .ref sb), (1, .ref (a 0)), (2, .ref (b 0)), (3, .ref o), (4, .int i)] → x_W p l e room_1 s m args below meth c A D (lwld cI cZ cJ a b o) (k + 1) (n + 6) Q (r.2.2, τ1, g) (F0 m 1060 ls [])) : ∀ ls : Array Slot, lv_has ls 7 [(0, .ref sb), (1, .ref (a 0)), (2, .ref (b 0)), (3, .ref o), (4, .int i)] → x_W p l e room_1 s m args below meth c A D (lwld cI cZ cJ a b o) k n Q (σ, τ, g) (F0 m 455 ls []) := by
  intro ls hl
  rcases hk with ⟨h0, rfl, hbb⟩ | ⟨h0, rfl⟩ | ⟨h0, rfl⟩ | ⟨h0, rfl⟩
  · have KK := kk (vp_updL g 0 r.2.1.toInt64)
    refine x_aload_n X dL_law_455 rfl hl 1 rfl ?_
    refine x_aload_n X dL_law_456 rfl hl 0 rfl ?_
    refine x_iload X dL_law_457 hl 4 rfl ?_
    refine x_iconst X dL_law_459 xk_iconst_1 ?_
    refine x_iadd X dL_law_460 ?_
    refine x_sld X hX hsb hbA h1 dL_law_461 ?_
    refine x_aload_n X dL_law_462 rfl hl 0 rfl ?_
    refine x_iload X dL_law_463 hl 4 rfl ?_
    refine x_iconst X dL_law_465 xk_iconst_2 ?_
    refine x_iadd X dL_law_466 ?_
    refine x_sld X hX hsb hbA h2 dL_law_467 ?_
    refine x_aload_n X dL_law_468 rfl hl 0 rfl ?_
    refine x_iload X dL_law_469 hl 4 rfl ?_
    refine x_iconst X dL_law_471 xk_iconst_3 ?_
    refine x_iadd X dL_law_472 ?_
    refine x_sld X hX hsb hbA h3 dL_law_473 ?_
    refine x_aload_n X dL_law_474 rfl hl 3 rfl ?_
    refine f_cw (w1 := mwld cI cZ b τ) (w2 := []) (wc := wwld cI cJ a o) (τ := (σ, g)) (τ' := (r.2.2, (vp_updL g 0 r.2.1.toInt64))) (σ' := (r.2.2, τ, (vp_updL g 0 r.2.1.toInt64))) X LX (c_L_lose l hst D cI cZ cJ a o F σ g (xs (i + (1 : Int32)).toNatClampNeg) (xs (i + (2 : Int32)).toNatClampNeg) (xs (i + (3 : Int32)).toNatClampNeg) hf 0 (r.2.2, (vp_updL g 0 r.2.1.toInt64)) (Or.inl ⟨h0, rfl, rfl⟩)) (vx_cwSW 5 X.2.2.2.2.1 gL_law_L_lose rfl rfl rfl (by decide +kernel) ⟨Nat.le_of_ble_eq_true rfl, Nat.le_of_ble_eq_true rfl⟩) rfl hl rfl (Nat.le_of_ble_eq_true rfl) hkn dL_law_475 rfl rfl ?_
    refine x_istoreA (lv' := [(5, .int (0 : Int32)), (0, .ref sb), (1, .ref (a 0)), (2, .ref (b 0)), (3, .ref o), (4, .int i)]) X dL_law_478 hl (by decide) rfl (fun ls hl => ?_)
    refine x_aload_n X dL_law_480 rfl hl 3 rfl ?_
    refine x_aload_n X dL_law_481 rfl hl 1 rfl ?_
    refine x_iload X dL_law_482 hl 5 rfl ?_
    refine x_iconst X dL_law_484 xk_iconst_1 ?_
    refine x_iadd X dL_law_485 ?_
    refine x_sld X hX hsb hbA h1 dL_law_486 ?_
    refine x_aload_n X dL_law_487 rfl hl 1 rfl ?_
    refine x_iload X dL_law_488 hl 5 rfl ?_
    refine x_iconst X dL_law_490 xk_iconst_2 ?_
    refine x_iadd X dL_law_491 ?_
    refine x_sld X hX hsb hbA h2 dL_law_492 ?_
    refine x_aload_n X dL_law_493 rfl hl 1 rfl ?_
    refine x_iload X dL_law_494 hl 5 rfl ?_
    refine x_iconst X dL_law_496 xk_iconst_3 ?_
    refine x_iadd X dL_law_497 ?_
    refine x_sld X hX hsb hbA h3 dL_law_498 ?_
    refine f_cV (w1 := []) (w2 := cwld cI a r.2.2 ++ l_out cJ o ((vp_updL g 0 r.2.1.toInt64))) (wc := mwld cI cZ b) (τ := τ) (τ' := τ1) (σ' := (r.2.2, τ1, (vp_updL g 0 r.2.1.toInt64))) X 0 8 (mw_o cI cZ b τ) rfl rfl (c_X8_lose l D cI cZ cJ b F hm) (cwV 3 X.2.2.2.2.1 gL_law_X8_lose rfl rfl rfl (by decide +kernel) ⟨Nat.le_of_ble_eq_true rfl, Nat.le_of_ble_eq_true rfl⟩) rfl hl rfl (Nat.le_of_ble_eq_true rfl) hkn dL_law_499 rfl rfl ?_
    refine x_istoreA (lv' := [(6, .int bb), (5, .int (0 : Int32)), (0, .ref sb), (1, .ref (a 0)), (2, .ref (b 0)), (3, .ref o), (4, .int i)]) X dL_law_502 hl (by decide) rfl (fun ls hl => ?_)
    refine x_aload_n X dL_law_504 rfl hl 4 rfl ?_
    refine f_cV (w1 := []) (w2 := cwld cI a r.2.2 ++ l_out cJ o ((vp_updL g 0 r.2.1.toInt64))) (wc := mwld cI cZ b) (τ := τ1) (τ' := τ1) (σ' := (r.2.2, τ1, (vp_updL g 0 r.2.1.toInt64))) X 0 8 (mw_o cI cZ b τ1) rfl rfl (c_X8_thrown l D cI cZ cJ b F (r := τ1 18 7) rfl) (cwV 0 X.2.2.2.2.1 gL_law_X8_thrown rfl rfl rfl (by decide +kernel) ⟨Nat.le_of_ble_eq_true rfl, Nat.le_of_ble_eq_true rfl⟩) rfl hl rfl (Nat.le_of_ble_eq_true rfl) hkn dL_law_505 rfl rfl ?_
    refine x_iload X dL_law_508 hl 1 rfl ?_
    refine x_icmp_eq (tgt := 515) X dL_law_510 rfl (fun _ => ?_) (fun h9 => absurd ht h9)
    refine x_iload X dL_law_515 hl 1 rfl ?_
    refine x_if_ne (tgt := 532) X dL_law_517 rfl (fun h9 => absurd (by decide : ((0 : Int32)) = 0) h9) (fun _ => ?_)
    refine x_aload_n X dL_law_520 rfl hl 5 rfl ?_
    refine x_iconst X dL_law_521 xk_iconst_0 ?_
    refine x_lald X 70 2 (lw_o cI cZ cJ a b o (r.2.2, τ1, (vp_updL g 0 r.2.1.toInt64))) rfl (x_in_of (by decide)) dL_law_522 ?_
    refine x_iload X dL_law_523 hl 0 rfl ?_
    refine x_i2l X dL_law_525 ?_
    refine x_lcmp X dL_law_526 ?_
    refine x_if_eq (tgt := 532) X dL_law_527 rfl (fun _ => ?_) (fun h9 => absurd ((lg_cmp_eq _ _).mpr (by show r.2.1.toInt64 = bb.toInt64; rw [hbb])) h9)
    refine x_goto (tgt := 1060) X dL_law_532 rfl ?_
    exact KK _ (lv_sub hl [2, 3, 4, 5, 6] rfl)
  · have KK := kk g
    refine x_aload_n X dL_law_455 rfl hl 1 rfl ?_
    refine x_aload_n X dL_law_456 rfl hl 0 rfl ?_
    refine x_iload X dL_law_457 hl 4 rfl ?_
    refine x_iconst X dL_law_459 xk_iconst_1 ?_
    refine x_iadd X dL_law_460 ?_
    refine x_sld X hX hsb hbA h1 dL_law_461 ?_
    refine x_aload_n X dL_law_462 rfl hl 0 rfl ?_
    refine x_iload X dL_law_463 hl 4 rfl ?_
    refine x_iconst X dL_law_465 xk_iconst_2 ?_
    refine x_iadd X dL_law_466 ?_
    refine x_sld X hX hsb hbA h2 dL_law_467 ?_
    refine x_aload_n X dL_law_468 rfl hl 0 rfl ?_
    refine x_iload X dL_law_469 hl 4 rfl ?_
    refine x_iconst X dL_law_471 xk_iconst_3 ?_
    refine x_iadd X dL_law_472 ?_
    refine x_sld X hX hsb hbA h3 dL_law_473 ?_
    refine x_aload_n X dL_law_474 rfl hl 3 rfl ?_
    refine f_cw (w1 := mwld cI cZ b τ) (w2 := []) (wc := wwld cI cJ a o) (τ := (σ, g)) (τ' := (r.2.2, g)) (σ' := (r.2.2, τ, g)) X LX (c_L_lose l hst D cI cZ cJ a o F σ g (xs (i + (1 : Int32)).toNatClampNeg) (xs (i + (2 : Int32)).toNatClampNeg) (xs (i + (3 : Int32)).toNatClampNeg) hf 1 (r.2.2, g) (Or.inr (Or.inl ⟨h0, rfl, rfl⟩))) (vx_cwSW 5 X.2.2.2.2.1 gL_law_L_lose rfl rfl rfl (by decide +kernel) ⟨Nat.le_of_ble_eq_true rfl, Nat.le_of_ble_eq_true rfl⟩) rfl hl rfl (Nat.le_of_ble_eq_true rfl) hkn dL_law_475 rfl rfl ?_
    refine x_istoreA (lv' := [(5, .int (1 : Int32)), (0, .ref sb), (1, .ref (a 0)), (2, .ref (b 0)), (3, .ref o), (4, .int i)]) X dL_law_478 hl (by decide) rfl (fun ls hl => ?_)
    refine x_aload_n X dL_law_480 rfl hl 3 rfl ?_
    refine x_aload_n X dL_law_481 rfl hl 1 rfl ?_
    refine x_iload X dL_law_482 hl 5 rfl ?_
    refine x_iconst X dL_law_484 xk_iconst_1 ?_
    refine x_iadd X dL_law_485 ?_
    refine x_sld X hX hsb hbA h1 dL_law_486 ?_
    refine x_aload_n X dL_law_487 rfl hl 1 rfl ?_
    refine x_iload X dL_law_488 hl 5 rfl ?_
    refine x_iconst X dL_law_490 xk_iconst_2 ?_
    refine x_iadd X dL_law_491 ?_
    refine x_sld X hX hsb hbA h2 dL_law_492 ?_
    refine x_aload_n X dL_law_493 rfl hl 1 rfl ?_
    refine x_iload X dL_law_494 hl 5 rfl ?_
    refine x_iconst X dL_law_496 xk_iconst_3 ?_
    refine x_iadd X dL_law_497 ?_
    refine x_sld X hX hsb hbA h3 dL_law_498 ?_
    refine f_cV (w1 := []) (w2 := cwld cI a r.2.2 ++ l_out cJ o (g)) (wc := mwld cI cZ b) (τ := τ) (τ' := τ1) (σ' := (r.2.2, τ1, g)) X 0 8 (mw_o cI cZ b τ) rfl rfl (c_X8_lose l D cI cZ cJ b F hm) (cwV 3 X.2.2.2.2.1 gL_law_X8_lose rfl rfl rfl (by decide +kernel) ⟨Nat.le_of_ble_eq_true rfl, Nat.le_of_ble_eq_true rfl⟩) rfl hl rfl (Nat.le_of_ble_eq_true rfl) hkn dL_law_499 rfl rfl ?_
    refine x_istoreA (lv' := [(6, .int bb), (5, .int (1 : Int32)), (0, .ref sb), (1, .ref (a 0)), (2, .ref (b 0)), (3, .ref o), (4, .int i)]) X dL_law_502 hl (by decide) rfl (fun ls hl => ?_)
    refine x_aload_n X dL_law_504 rfl hl 4 rfl ?_
    refine f_cV (w1 := []) (w2 := cwld cI a r.2.2 ++ l_out cJ o (g)) (wc := mwld cI cZ b) (τ := τ1) (τ' := τ1) (σ' := (r.2.2, τ1, g)) X 0 8 (mw_o cI cZ b τ1) rfl rfl (c_X8_thrown l D cI cZ cJ b F (r := τ1 18 7) rfl) (cwV 0 X.2.2.2.2.1 gL_law_X8_thrown rfl rfl rfl (by decide +kernel) ⟨Nat.le_of_ble_eq_true rfl, Nat.le_of_ble_eq_true rfl⟩) rfl hl rfl (Nat.le_of_ble_eq_true rfl) hkn dL_law_505 rfl rfl ?_
    refine x_iload X dL_law_508 hl 1 rfl ?_
    refine x_icmp_eq (tgt := 515) X dL_law_510 rfl (fun _ => ?_) (fun h9 => absurd ht h9)
    refine x_iload X dL_law_515 hl 1 rfl ?_
    refine x_if_ne (tgt := 532) X dL_law_517 rfl (fun _ => ?_) (fun h9 => absurd h9 (by decide : ¬ ((1 : Int32)) = 0))
    refine x_goto (tgt := 1060) X dL_law_532 rfl ?_
    exact KK _ (lv_sub hl [2, 3, 4, 5, 6] rfl)
  · have KK := kk g
    refine x_aload_n X dL_law_455 rfl hl 1 rfl ?_
    refine x_aload_n X dL_law_456 rfl hl 0 rfl ?_
    refine x_iload X dL_law_457 hl 4 rfl ?_
    refine x_iconst X dL_law_459 xk_iconst_1 ?_
    refine x_iadd X dL_law_460 ?_
    refine x_sld X hX hsb hbA h1 dL_law_461 ?_
    refine x_aload_n X dL_law_462 rfl hl 0 rfl ?_
    refine x_iload X dL_law_463 hl 4 rfl ?_
    refine x_iconst X dL_law_465 xk_iconst_2 ?_
    refine x_iadd X dL_law_466 ?_
    refine x_sld X hX hsb hbA h2 dL_law_467 ?_
    refine x_aload_n X dL_law_468 rfl hl 0 rfl ?_
    refine x_iload X dL_law_469 hl 4 rfl ?_
    refine x_iconst X dL_law_471 xk_iconst_3 ?_
    refine x_iadd X dL_law_472 ?_
    refine x_sld X hX hsb hbA h3 dL_law_473 ?_
    refine x_aload_n X dL_law_474 rfl hl 3 rfl ?_
    refine f_cw (w1 := mwld cI cZ b τ) (w2 := []) (wc := wwld cI cJ a o) (τ := (σ, g)) (τ' := (r.2.2, g)) (σ' := (r.2.2, τ, g)) X LX (c_L_lose l hst D cI cZ cJ a o F σ g (xs (i + (1 : Int32)).toNatClampNeg) (xs (i + (2 : Int32)).toNatClampNeg) (xs (i + (3 : Int32)).toNatClampNeg) hf 2 (r.2.2, g) (Or.inr (Or.inr (Or.inl ⟨h0, rfl, rfl⟩)))) (vx_cwSW 5 X.2.2.2.2.1 gL_law_L_lose rfl rfl rfl (by decide +kernel) ⟨Nat.le_of_ble_eq_true rfl, Nat.le_of_ble_eq_true rfl⟩) rfl hl rfl (Nat.le_of_ble_eq_true rfl) hkn dL_law_475 rfl rfl ?_
    refine x_istoreA (lv' := [(5, .int (2 : Int32)), (0, .ref sb), (1, .ref (a 0)), (2, .ref (b 0)), (3, .ref o), (4, .int i)]) X dL_law_478 hl (by decide) rfl (fun ls hl => ?_)
    refine x_aload_n X dL_law_480 rfl hl 3 rfl ?_
    refine x_aload_n X dL_law_481 rfl hl 1 rfl ?_
    refine x_iload X dL_law_482 hl 5 rfl ?_
    refine x_iconst X dL_law_484 xk_iconst_1 ?_
    refine x_iadd X dL_law_485 ?_
    refine x_sld X hX hsb hbA h1 dL_law_486 ?_
    refine x_aload_n X dL_law_487 rfl hl 1 rfl ?_
    refine x_iload X dL_law_488 hl 5 rfl ?_
    refine x_iconst X dL_law_490 xk_iconst_2 ?_
    refine x_iadd X dL_law_491 ?_
    refine x_sld X hX hsb hbA h2 dL_law_492 ?_
    refine x_aload_n X dL_law_493 rfl hl 1 rfl ?_
    refine x_iload X dL_law_494 hl 5 rfl ?_
    refine x_iconst X dL_law_496 xk_iconst_3 ?_
    refine x_iadd X dL_law_497 ?_
    refine x_sld X hX hsb hbA h3 dL_law_498 ?_
    refine f_cV (w1 := []) (w2 := cwld cI a r.2.2 ++ l_out cJ o (g)) (wc := mwld cI cZ b) (τ := τ) (τ' := τ1) (σ' := (r.2.2, τ1, g)) X 0 8 (mw_o cI cZ b τ) rfl rfl (c_X8_lose l D cI cZ cJ b F hm) (cwV 3 X.2.2.2.2.1 gL_law_X8_lose rfl rfl rfl (by decide +kernel) ⟨Nat.le_of_ble_eq_true rfl, Nat.le_of_ble_eq_true rfl⟩) rfl hl rfl (Nat.le_of_ble_eq_true rfl) hkn dL_law_499 rfl rfl ?_
    refine x_istoreA (lv' := [(6, .int bb), (5, .int (2 : Int32)), (0, .ref sb), (1, .ref (a 0)), (2, .ref (b 0)), (3, .ref o), (4, .int i)]) X dL_law_502 hl (by decide) rfl (fun ls hl => ?_)
    refine x_aload_n X dL_law_504 rfl hl 4 rfl ?_
    refine f_cV (w1 := []) (w2 := cwld cI a r.2.2 ++ l_out cJ o (g)) (wc := mwld cI cZ b) (τ := τ1) (τ' := τ1) (σ' := (r.2.2, τ1, g)) X 0 8 (mw_o cI cZ b τ1) rfl rfl (c_X8_thrown l D cI cZ cJ b F (r := τ1 18 7) rfl) (cwV 0 X.2.2.2.2.1 gL_law_X8_thrown rfl rfl rfl (by decide +kernel) ⟨Nat.le_of_ble_eq_true rfl, Nat.le_of_ble_eq_true rfl⟩) rfl hl rfl (Nat.le_of_ble_eq_true rfl) hkn dL_law_505 rfl rfl ?_
    refine x_iload X dL_law_508 hl 1 rfl ?_
    refine x_icmp_eq (tgt := 515) X dL_law_510 rfl (fun _ => ?_) (fun h9 => absurd ht h9)
    refine x_iload X dL_law_515 hl 1 rfl ?_
    refine x_if_ne (tgt := 532) X dL_law_517 rfl (fun _ => ?_) (fun h9 => absurd h9 (by decide : ¬ ((2 : Int32)) = 0))
    refine x_goto (tgt := 1060) X dL_law_532 rfl ?_
    exact KK _ (lv_sub hl [2, 3, 4, 5, 6] rfl)
  · have KK := kk g
    refine x_aload_n X dL_law_455 rfl hl 1 rfl ?_
    refine x_aload_n X dL_law_456 rfl hl 0 rfl ?_
    refine x_iload X dL_law_457 hl 4 rfl ?_
    refine x_iconst X dL_law_459 xk_iconst_1 ?_
    refine x_iadd X dL_law_460 ?_
    refine x_sld X hX hsb hbA h1 dL_law_461 ?_
    refine x_aload_n X dL_law_462 rfl hl 0 rfl ?_
    refine x_iload X dL_law_463 hl 4 rfl ?_
    refine x_iconst X dL_law_465 xk_iconst_2 ?_
    refine x_iadd X dL_law_466 ?_
    refine x_sld X hX hsb hbA h2 dL_law_467 ?_
    refine x_aload_n X dL_law_468 rfl hl 0 rfl ?_
    refine x_iload X dL_law_469 hl 4 rfl ?_
    refine x_iconst X dL_law_471 xk_iconst_3 ?_
    refine x_iadd X dL_law_472 ?_
    refine x_sld X hX hsb hbA h3 dL_law_473 ?_
    refine x_aload_n X dL_law_474 rfl hl 3 rfl ?_
    refine f_cw (w1 := mwld cI cZ b τ) (w2 := []) (wc := wwld cI cJ a o) (τ := (σ, g)) (τ' := (r.2.2, g)) (σ' := (r.2.2, τ, g)) X LX (c_L_lose l hst D cI cZ cJ a o F σ g (xs (i + (1 : Int32)).toNatClampNeg) (xs (i + (2 : Int32)).toNatClampNeg) (xs (i + (3 : Int32)).toNatClampNeg) hf 3 (r.2.2, g) (Or.inr (Or.inr (Or.inr ⟨h0, rfl, rfl⟩)))) (vx_cwSW 5 X.2.2.2.2.1 gL_law_L_lose rfl rfl rfl (by decide +kernel) ⟨Nat.le_of_ble_eq_true rfl, Nat.le_of_ble_eq_true rfl⟩) rfl hl rfl (Nat.le_of_ble_eq_true rfl) hkn dL_law_475 rfl rfl ?_
    refine x_istoreA (lv' := [(5, .int (3 : Int32)), (0, .ref sb), (1, .ref (a 0)), (2, .ref (b 0)), (3, .ref o), (4, .int i)]) X dL_law_478 hl (by decide) rfl (fun ls hl => ?_)
    refine x_aload_n X dL_law_480 rfl hl 3 rfl ?_
    refine x_aload_n X dL_law_481 rfl hl 1 rfl ?_
    refine x_iload X dL_law_482 hl 5 rfl ?_
    refine x_iconst X dL_law_484 xk_iconst_1 ?_
    refine x_iadd X dL_law_485 ?_
    refine x_sld X hX hsb hbA h1 dL_law_486 ?_
    refine x_aload_n X dL_law_487 rfl hl 1 rfl ?_
    refine x_iload X dL_law_488 hl 5 rfl ?_
    refine x_iconst X dL_law_490 xk_iconst_2 ?_
    refine x_iadd X dL_law_491 ?_
    refine x_sld X hX hsb hbA h2 dL_law_492 ?_
    refine x_aload_n X dL_law_493 rfl hl 1 rfl ?_
    refine x_iload X dL_law_494 hl 5 rfl ?_
    refine x_iconst X dL_law_496 xk_iconst_3 ?_
    refine x_iadd X dL_law_497 ?_
    refine x_sld X hX hsb hbA h3 dL_law_498 ?_
    refine f_cV (w1 := []) (w2 := cwld cI a r.2.2 ++ l_out cJ o (g)) (wc := mwld cI cZ b) (τ := τ) (τ' := τ1) (σ' := (r.2.2, τ1, g)) X 0 8 (mw_o cI cZ b τ) rfl rfl (c_X8_lose l D cI cZ cJ b F hm) (cwV 3 X.2.2.2.2.1 gL_law_X8_lose rfl rfl rfl (by decide +kernel) ⟨Nat.le_of_ble_eq_true rfl, Nat.le_of_ble_eq_true rfl⟩) rfl hl rfl (Nat.le_of_ble_eq_true rfl) hkn dL_law_499 rfl rfl ?_
    refine x_istoreA (lv' := [(6, .int bb), (5, .int (3 : Int32)), (0, .ref sb), (1, .ref (a 0)), (2, .ref (b 0)), (3, .ref o), (4, .int i)]) X dL_law_502 hl (by decide) rfl (fun ls hl => ?_)
    refine x_aload_n X dL_law_504 rfl hl 4 rfl ?_
    refine f_cV (w1 := []) (w2 := cwld cI a r.2.2 ++ l_out cJ o (g)) (wc := mwld cI cZ b) (τ := τ1) (τ' := τ1) (σ' := (r.2.2, τ1, g)) X 0 8 (mw_o cI cZ b τ1) rfl rfl (c_X8_thrown l D cI cZ cJ b F (r := τ1 18 7) rfl) (cwV 0 X.2.2.2.2.1 gL_law_X8_thrown rfl rfl rfl (by decide +kernel) ⟨Nat.le_of_ble_eq_true rfl, Nat.le_of_ble_eq_true rfl⟩) rfl hl rfl (Nat.le_of_ble_eq_true rfl) hkn dL_law_505 rfl rfl ?_
    refine x_iload X dL_law_508 hl 1 rfl ?_
    refine x_icmp_eq (tgt := 515) X dL_law_510 rfl (fun _ => ?_) (fun h9 => absurd ht h9)
    refine x_iload X dL_law_515 hl 1 rfl ?_
    refine x_if_ne (tgt := 532) X dL_law_517 rfl (fun _ => ?_) (fun h9 => absurd h9 (by decide : ¬ ((3 : Int32)) = 0))
    refine x_goto (tgt := 1060) X dL_law_532 rfl ?_
    exact KK _ (lv_sub hl [2, 3, 4, 5, 6] rfl)
set_option maxHeartbeats 4000000 in
set_option maxRecDepth 100000 in
theorem l_recover {p : Program} {l : Launch} {e : Env} {s : State} {m : MethodId} {args : Array Value} {below : List Frame} {meth : Method} {c : Code} {k n : Nat} {Q : State → Prop} {D : va_G} {A : Nat → Prop} {cI cZ cJ : ClassId} {a b : Nat → Nat} {o sb L : Nat} {xs : Nat → Int32} (X : x_X p s m args meth c cL_law 7 (some .boolean) RL wsL_law D (x_tys cI cZ cJ) A) (hX : va_X sb L xs s s.heap) (hsb : sb < s.heap.size) (hbA : ¬ A sb) (F : Nat) {σ τ σ1 τ1 : CS} {g : Nat → Int64} {i v : Int32} (hf : r_X7_recover F σ = some (v, σ1)) (hm : r_X8_recover F τ = some (v, τ1)) (hkn : k ≤ 1110 ∧ n ≤ 36308) (kk : ∀ ls : Array Slot, lv_has ls 7 [(0, .ref sb), (1, .ref (a 0)), (2, .ref (b 0)), (3, .ref o), (4, .int i)] → x_W p l e room_1 s m args below meth c A D (lwld cI cZ cJ a b o) k n Q (σ1, τ1, g) (F0 m 1060 ls [])) : ∀ ls : Array Slot, lv_has ls 7 [(0, .ref sb), (1, .ref (a 0)), (2, .ref (b 0)), (3, .ref o), (4, .int i)] → x_W p l e room_1 s m args below meth c A D (lwld cI cZ cJ a b o) k n Q (σ, τ, g) (F0 m 535 ls []) := by
  intro ls hl
  have KK := kk
  refine x_aload_n X dL_law_535 rfl hl 1 rfl ?_
  refine f_cV (w1 := mwld cI cZ b τ) (w2 := l_out cJ o g) (wc := cwld cI a) (τ := σ) (τ' := σ1) (σ' := (σ1, τ, g)) X 0 7 (cw_o0 cI a σ) rfl rfl (c_X7_recover l D cI cZ cJ a F hf) (cwV 0 X.2.2.2.2.1 gL_law_X7_recover rfl rfl rfl (by decide +kernel) ⟨Nat.le_of_ble_eq_true rfl, Nat.le_of_ble_eq_true rfl⟩) rfl hl rfl (Nat.le_of_ble_eq_true rfl) hkn dL_law_536 rfl rfl ?_
  refine x_aload_n X dL_law_539 rfl hl 2 rfl ?_
  refine f_cV (w1 := []) (w2 := cwld cI a σ1 ++ l_out cJ o g) (wc := mwld cI cZ b) (τ := τ) (τ' := τ1) (σ' := (σ1, τ1, g)) X 0 8 (mw_o cI cZ b τ) rfl rfl (c_X8_recover l D cI cZ cJ b F hm) (cwV 0 X.2.2.2.2.1 gL_law_X8_recover rfl rfl rfl (by decide +kernel) ⟨Nat.le_of_ble_eq_true rfl, Nat.le_of_ble_eq_true rfl⟩) rfl hl rfl (Nat.le_of_ble_eq_true rfl) hkn dL_law_540 rfl rfl ?_
  refine x_icmp_eq (tgt := 1060) X dL_law_543 rfl (fun _ => ?_) (fun h9 => absurd rfl h9)
  exact KK _ (lv_sub hl [0, 1, 2, 3, 4] rfl)
set_option maxHeartbeats 4000000 in
set_option maxRecDepth 100000 in
theorem l_tick {p : Program} {l : Launch} {e : Env} {s : State} {m : MethodId} {args : Array Value} {below : List Frame} {meth : Method} {c : Code} {k n : Nat} {Q : State → Prop} {D : va_G} {A : Nat → Prop} {cI cZ cJ : ClassId} {a b : Nat → Nat} {o sb L : Nat} {xs : Nat → Int32} (X : x_X p s m args meth c cL_law 7 (some .boolean) RL wsL_law D (x_tys cI cZ cJ) A) (hX : va_X sb L xs s s.heap) (hsb : sb < s.heap.size) (hbA : ¬ A sb) (F : Nat) {σ τ σ1 τ1 : CS} {g : Nat → Int64} {i v : Int32} (hf : r_X7_tick F σ = some (v, σ1)) (hm : r_X8_tick F τ = some (v, τ1)) (hkn : k ≤ 1110 ∧ n ≤ 36308) (kk : ∀ ls : Array Slot, lv_has ls 7 [(0, .ref sb), (1, .ref (a 0)), (2, .ref (b 0)), (3, .ref o), (4, .int i)] → x_W p l e room_1 s m args below meth c A D (lwld cI cZ cJ a b o) k n Q (σ1, τ1, g) (F0 m 1060 ls [])) : ∀ ls : Array Slot, lv_has ls 7 [(0, .ref sb), (1, .ref (a 0)), (2, .ref (b 0)), (3, .ref o), (4, .int i)] → x_W p l e room_1 s m args below meth c A D (lwld cI cZ cJ a b o) k n Q (σ, τ, g) (F0 m 548 ls []) := by
  intro ls hl
  have KK := kk
  refine x_aload_n X dL_law_548 rfl hl 1 rfl ?_
  refine f_cV (w1 := mwld cI cZ b τ) (w2 := l_out cJ o g) (wc := cwld cI a) (τ := σ) (τ' := σ1) (σ' := (σ1, τ, g)) X 0 7 (cw_o0 cI a σ) rfl rfl (c_X7_tick l D cI cZ cJ a F hf) (cwV 0 X.2.2.2.2.1 gL_law_X7_tick rfl rfl rfl (by decide +kernel) ⟨Nat.le_of_ble_eq_true rfl, Nat.le_of_ble_eq_true rfl⟩) rfl hl rfl (Nat.le_of_ble_eq_true rfl) hkn dL_law_549 rfl rfl ?_
  refine x_aload_n X dL_law_552 rfl hl 2 rfl ?_
  refine f_cV (w1 := []) (w2 := cwld cI a σ1 ++ l_out cJ o g) (wc := mwld cI cZ b) (τ := τ) (τ' := τ1) (σ' := (σ1, τ1, g)) X 0 8 (mw_o cI cZ b τ) rfl rfl (c_X8_tick l D cI cZ cJ b F hm) (cwV 0 X.2.2.2.2.1 gL_law_X8_tick rfl rfl rfl (by decide +kernel) ⟨Nat.le_of_ble_eq_true rfl, Nat.le_of_ble_eq_true rfl⟩) rfl hl rfl (Nat.le_of_ble_eq_true rfl) hkn dL_law_553 rfl rfl ?_
  refine x_icmp_eq (tgt := 1060) X dL_law_556 rfl (fun _ => ?_) (fun h9 => absurd rfl h9)
  exact KK _ (lv_sub hl [0, 1, 2, 3, 4] rfl)
set_option maxHeartbeats 4000000 in
set_option maxRecDepth 100000 in
theorem l_packets {p : Program} {l : Launch} {e : Env} {s : State} {m : MethodId} {args : Array Value} {below : List Frame} {meth : Method} {c : Code} {k n : Nat} {Q : State → Prop} {D : va_G} {A : Nat → Prop} {cI cZ cJ : ClassId} {a b : Nat → Nat} {o sb L : Nat} {xs : Nat → Int32} (X : x_X p s m args meth c cL_law 7 (some .boolean) RL wsL_law D (x_tys cI cZ cJ) A) (hX : va_X sb L xs s s.heap) (hsb : sb < s.heap.size) (hbA : ¬ A sb) (F : Nat) {σ τ σ1 τ1 : CS} {g : Nat → Int64} {i v : Int32} (hf : r_X7_packets F σ = some (v, σ1)) (hm : r_X8_packets F τ = some (v, τ1)) (hkn : k ≤ 1110 ∧ n ≤ 36308) (kk : ∀ ls : Array Slot, lv_has ls 7 [(0, .ref sb), (1, .ref (a 0)), (2, .ref (b 0)), (3, .ref o), (4, .int i)] → x_W p l e room_1 s m args below meth c A D (lwld cI cZ cJ a b o) k n Q (σ1, τ1, g) (F0 m 1060 ls [])) : ∀ ls : Array Slot, lv_has ls 7 [(0, .ref sb), (1, .ref (a 0)), (2, .ref (b 0)), (3, .ref o), (4, .int i)] → x_W p l e room_1 s m args below meth c A D (lwld cI cZ cJ a b o) k n Q (σ, τ, g) (F0 m 561 ls []) := by
  intro ls hl
  have KK := kk
  refine x_aload_n X dL_law_561 rfl hl 1 rfl ?_
  refine f_cV (w1 := mwld cI cZ b τ) (w2 := l_out cJ o g) (wc := cwld cI a) (τ := σ) (τ' := σ1) (σ' := (σ1, τ, g)) X 0 7 (cw_o0 cI a σ) rfl rfl (c_X7_packets l D cI cZ cJ a F hf) (cwV 0 X.2.2.2.2.1 gL_law_X7_packets rfl rfl rfl (by decide +kernel) ⟨Nat.le_of_ble_eq_true rfl, Nat.le_of_ble_eq_true rfl⟩) rfl hl rfl (Nat.le_of_ble_eq_true rfl) hkn dL_law_562 rfl rfl ?_
  refine x_aload_n X dL_law_565 rfl hl 2 rfl ?_
  refine f_cV (w1 := []) (w2 := cwld cI a σ1 ++ l_out cJ o g) (wc := mwld cI cZ b) (τ := τ) (τ' := τ1) (σ' := (σ1, τ1, g)) X 0 8 (mw_o cI cZ b τ) rfl rfl (c_X8_packets l D cI cZ cJ b F hm) (cwV 0 X.2.2.2.2.1 gL_law_X8_packets rfl rfl rfl (by decide +kernel) ⟨Nat.le_of_ble_eq_true rfl, Nat.le_of_ble_eq_true rfl⟩) rfl hl rfl (Nat.le_of_ble_eq_true rfl) hkn dL_law_566 rfl rfl ?_
  refine x_icmp_eq (tgt := 1060) X dL_law_569 rfl (fun _ => ?_) (fun h9 => absurd rfl h9)
  exact KK _ (lv_sub hl [0, 1, 2, 3, 4] rfl)
set_option maxHeartbeats 4000000 in
set_option maxRecDepth 100000 in
theorem l_arrived {p : Program} {l : Launch} {e : Env} {s : State} {m : MethodId} {args : Array Value} {below : List Frame} {meth : Method} {c : Code} {k n : Nat} {Q : State → Prop} {D : va_G} {A : Nat → Prop} {cI cZ cJ : ClassId} {a b : Nat → Nat} {o sb L : Nat} {xs : Nat → Int32} (X : x_X p s m args meth c cL_law 7 (some .boolean) RL wsL_law D (x_tys cI cZ cJ) A) (hX : va_X sb L xs s s.heap) (hsb : sb < s.heap.size) (hbA : ¬ A sb) (F : Nat) {σ τ σ1 τ1 : CS} {g : Nat → Int64} {i v : Int32} (hf : r_X7_arrived F σ = some (v, σ1)) (hm : r_X8_arrived F τ = some (v, τ1)) (hkn : k ≤ 1110 ∧ n ≤ 36308) (kk : ∀ ls : Array Slot, lv_has ls 7 [(0, .ref sb), (1, .ref (a 0)), (2, .ref (b 0)), (3, .ref o), (4, .int i)] → x_W p l e room_1 s m args below meth c A D (lwld cI cZ cJ a b o) k n Q (σ1, τ1, g) (F0 m 1060 ls [])) : ∀ ls : Array Slot, lv_has ls 7 [(0, .ref sb), (1, .ref (a 0)), (2, .ref (b 0)), (3, .ref o), (4, .int i)] → x_W p l e room_1 s m args below meth c A D (lwld cI cZ cJ a b o) k n Q (σ, τ, g) (F0 m 574 ls []) := by
  intro ls hl
  have KK := kk
  refine x_aload_n X dL_law_574 rfl hl 1 rfl ?_
  refine f_cV (w1 := mwld cI cZ b τ) (w2 := l_out cJ o g) (wc := cwld cI a) (τ := σ) (τ' := σ1) (σ' := (σ1, τ, g)) X 0 7 (cw_o0 cI a σ) rfl rfl (c_X7_arrived l D cI cZ cJ a F hf) (cwV 0 X.2.2.2.2.1 gL_law_X7_arrived rfl rfl rfl (by decide +kernel) ⟨Nat.le_of_ble_eq_true rfl, Nat.le_of_ble_eq_true rfl⟩) rfl hl rfl (Nat.le_of_ble_eq_true rfl) hkn dL_law_575 rfl rfl ?_
  refine x_aload_n X dL_law_578 rfl hl 2 rfl ?_
  refine f_cV (w1 := []) (w2 := cwld cI a σ1 ++ l_out cJ o g) (wc := mwld cI cZ b) (τ := τ) (τ' := τ1) (σ' := (σ1, τ1, g)) X 0 8 (mw_o cI cZ b τ) rfl rfl (c_X8_arrived l D cI cZ cJ b F hm) (cwV 0 X.2.2.2.2.1 gL_law_X8_arrived rfl rfl rfl (by decide +kernel) ⟨Nat.le_of_ble_eq_true rfl, Nat.le_of_ble_eq_true rfl⟩) rfl hl rfl (Nat.le_of_ble_eq_true rfl) hkn dL_law_579 rfl rfl ?_
  refine x_icmp_eq (tgt := 1060) X dL_law_582 rfl (fun _ => ?_) (fun h9 => absurd rfl h9)
  exact KK _ (lv_sub hl [0, 1, 2, 3, 4] rfl)
set_option maxHeartbeats 4000000 in
set_option maxRecDepth 100000 in
theorem l_credits {p : Program} {l : Launch} {e : Env} {s : State} {m : MethodId} {args : Array Value} {below : List Frame} {meth : Method} {c : Code} {k n : Nat} {Q : State → Prop} {D : va_G} {A : Nat → Prop} {cI cZ cJ : ClassId} {a b : Nat → Nat} {o sb L : Nat} {xs : Nat → Int32} (X : x_X p s m args meth c cL_law 7 (some .boolean) RL wsL_law D (x_tys cI cZ cJ) A) (hX : va_X sb L xs s s.heap) (hsb : sb < s.heap.size) (hbA : ¬ A sb) (LX : x_S s ∧ x_Z A s s.heap ∧ x_N s) (hst : l.stackTraces = false) (F : Nat) {σ τ τ1 : CS} {g : Nat → Int64} {i bb rk : Int32} {r : XR} (h1 : vp_in (i + (1 : Int32)) L) (h2 : vp_in (i + (2 : Int32)) L) (h3 : vp_in (i + (3 : Int32)) L) (hf : r_X7_credits F (xs (i + (1 : Int32)).toNatClampNeg) (xs (i + (2 : Int32)).toNatClampNeg) (xs (i + (3 : Int32)).toNatClampNeg) σ = some r) (hm : r_X8_credits F (xs (i + (1 : Int32)).toNatClampNeg) (xs (i + (2 : Int32)).toNatClampNeg) (xs (i + (3 : Int32)).toNatClampNeg) τ = some (bb, τ1)) (ht : τ1 18 7 = rk) (hk : (r.1 = 0 ∧ rk = 0 ∧ r.2.1 = bb) ∨ (r.1 = 1 ∧ rk = 1) ∨ (r.1 = 2 ∧ rk = 2)) (hkn : k + 1 ≤ 1110 ∧ n + 6 ≤ 36308) (kk : ∀ (g : Nat → Int64) (ls : Array Slot), lv_has ls 7 [(0, .ref sb), (1, .ref (a 0)), (2, .ref (b 0)), (3, .ref o), (4, .int i)] → x_W p l e room_1 s m args below meth c A D (lwld cI cZ cJ a b o) (k + 1) (n + 6) Q (r.2.2, τ1, g) (F0 m 1060 ls [])) : ∀ ls : Array Slot, lv_has ls 7 [(0, .ref sb), (1, .ref (a 0)), (2, .ref (b 0)), (3, .ref o), (4, .int i)] → x_W p l e room_1 s m args below meth c A D (lwld cI cZ cJ a b o) k n Q (σ, τ, g) (F0 m 587 ls []) := by
  intro ls hl
  rcases hk with ⟨h0, rfl, hbb⟩ | ⟨h0, rfl⟩ | ⟨h0, rfl⟩
  · have KK := kk (vp_updL g 0 r.2.1.toInt64)
    refine x_aload_n X dL_law_587 rfl hl 1 rfl ?_
    refine x_aload_n X dL_law_588 rfl hl 0 rfl ?_
    refine x_iload X dL_law_589 hl 4 rfl ?_
    refine x_iconst X dL_law_591 xk_iconst_1 ?_
    refine x_iadd X dL_law_592 ?_
    refine x_sld X hX hsb hbA h1 dL_law_593 ?_
    refine x_aload_n X dL_law_594 rfl hl 0 rfl ?_
    refine x_iload X dL_law_595 hl 4 rfl ?_
    refine x_iconst X dL_law_597 xk_iconst_2 ?_
    refine x_iadd X dL_law_598 ?_
    refine x_sld X hX hsb hbA h2 dL_law_599 ?_
    refine x_aload_n X dL_law_600 rfl hl 0 rfl ?_
    refine x_iload X dL_law_601 hl 4 rfl ?_
    refine x_iconst X dL_law_603 xk_iconst_3 ?_
    refine x_iadd X dL_law_604 ?_
    refine x_sld X hX hsb hbA h3 dL_law_605 ?_
    refine x_aload_n X dL_law_606 rfl hl 3 rfl ?_
    refine f_cw (w1 := mwld cI cZ b τ) (w2 := []) (wc := wwld cI cJ a o) (τ := (σ, g)) (τ' := (r.2.2, (vp_updL g 0 r.2.1.toInt64))) (σ' := (r.2.2, τ, (vp_updL g 0 r.2.1.toInt64))) X LX (c_L_credits l hst D cI cZ cJ a o F σ g (xs (i + (1 : Int32)).toNatClampNeg) (xs (i + (2 : Int32)).toNatClampNeg) (xs (i + (3 : Int32)).toNatClampNeg) hf 0 (r.2.2, (vp_updL g 0 r.2.1.toInt64)) (Or.inl ⟨h0, rfl, rfl⟩)) (vx_cwSW 5 X.2.2.2.2.1 gL_law_L_credits rfl rfl rfl (by decide +kernel) ⟨Nat.le_of_ble_eq_true rfl, Nat.le_of_ble_eq_true rfl⟩) rfl hl rfl (Nat.le_of_ble_eq_true rfl) hkn dL_law_607 rfl rfl ?_
    refine x_istoreA (lv' := [(5, .int (0 : Int32)), (0, .ref sb), (1, .ref (a 0)), (2, .ref (b 0)), (3, .ref o), (4, .int i)]) X dL_law_610 hl (by decide) rfl (fun ls hl => ?_)
    refine x_aload_n X dL_law_612 rfl hl 3 rfl ?_
    refine x_aload_n X dL_law_613 rfl hl 1 rfl ?_
    refine x_iload X dL_law_614 hl 5 rfl ?_
    refine x_iconst X dL_law_616 xk_iconst_1 ?_
    refine x_iadd X dL_law_617 ?_
    refine x_sld X hX hsb hbA h1 dL_law_618 ?_
    refine x_aload_n X dL_law_619 rfl hl 1 rfl ?_
    refine x_iload X dL_law_620 hl 5 rfl ?_
    refine x_iconst X dL_law_622 xk_iconst_2 ?_
    refine x_iadd X dL_law_623 ?_
    refine x_sld X hX hsb hbA h2 dL_law_624 ?_
    refine x_aload_n X dL_law_625 rfl hl 1 rfl ?_
    refine x_iload X dL_law_626 hl 5 rfl ?_
    refine x_iconst X dL_law_628 xk_iconst_3 ?_
    refine x_iadd X dL_law_629 ?_
    refine x_sld X hX hsb hbA h3 dL_law_630 ?_
    refine f_cV (w1 := []) (w2 := cwld cI a r.2.2 ++ l_out cJ o ((vp_updL g 0 r.2.1.toInt64))) (wc := mwld cI cZ b) (τ := τ) (τ' := τ1) (σ' := (r.2.2, τ1, (vp_updL g 0 r.2.1.toInt64))) X 0 8 (mw_o cI cZ b τ) rfl rfl (c_X8_credits l D cI cZ cJ b F hm) (cwV 3 X.2.2.2.2.1 gL_law_X8_credits rfl rfl rfl (by decide +kernel) ⟨Nat.le_of_ble_eq_true rfl, Nat.le_of_ble_eq_true rfl⟩) rfl hl rfl (Nat.le_of_ble_eq_true rfl) hkn dL_law_631 rfl rfl ?_
    refine x_istoreA (lv' := [(6, .int bb), (5, .int (0 : Int32)), (0, .ref sb), (1, .ref (a 0)), (2, .ref (b 0)), (3, .ref o), (4, .int i)]) X dL_law_634 hl (by decide) rfl (fun ls hl => ?_)
    refine x_aload_n X dL_law_636 rfl hl 4 rfl ?_
    refine f_cV (w1 := []) (w2 := cwld cI a r.2.2 ++ l_out cJ o ((vp_updL g 0 r.2.1.toInt64))) (wc := mwld cI cZ b) (τ := τ1) (τ' := τ1) (σ' := (r.2.2, τ1, (vp_updL g 0 r.2.1.toInt64))) X 0 8 (mw_o cI cZ b τ1) rfl rfl (c_X8_thrown l D cI cZ cJ b F (r := τ1 18 7) rfl) (cwV 0 X.2.2.2.2.1 gL_law_X8_thrown rfl rfl rfl (by decide +kernel) ⟨Nat.le_of_ble_eq_true rfl, Nat.le_of_ble_eq_true rfl⟩) rfl hl rfl (Nat.le_of_ble_eq_true rfl) hkn dL_law_637 rfl rfl ?_
    refine x_iload X dL_law_640 hl 1 rfl ?_
    refine x_icmp_eq (tgt := 647) X dL_law_642 rfl (fun _ => ?_) (fun h9 => absurd ht h9)
    refine x_iload X dL_law_647 hl 1 rfl ?_
    refine x_if_ne (tgt := 664) X dL_law_649 rfl (fun h9 => absurd (by decide : ((0 : Int32)) = 0) h9) (fun _ => ?_)
    refine x_aload_n X dL_law_652 rfl hl 5 rfl ?_
    refine x_iconst X dL_law_653 xk_iconst_0 ?_
    refine x_lald X 70 2 (lw_o cI cZ cJ a b o (r.2.2, τ1, (vp_updL g 0 r.2.1.toInt64))) rfl (x_in_of (by decide)) dL_law_654 ?_
    refine x_iload X dL_law_655 hl 0 rfl ?_
    refine x_i2l X dL_law_657 ?_
    refine x_lcmp X dL_law_658 ?_
    refine x_if_eq (tgt := 664) X dL_law_659 rfl (fun _ => ?_) (fun h9 => absurd ((lg_cmp_eq _ _).mpr (by show r.2.1.toInt64 = bb.toInt64; rw [hbb])) h9)
    refine x_goto (tgt := 1060) X dL_law_664 rfl ?_
    exact KK _ (lv_sub hl [2, 3, 4, 5, 6] rfl)
  · have KK := kk g
    refine x_aload_n X dL_law_587 rfl hl 1 rfl ?_
    refine x_aload_n X dL_law_588 rfl hl 0 rfl ?_
    refine x_iload X dL_law_589 hl 4 rfl ?_
    refine x_iconst X dL_law_591 xk_iconst_1 ?_
    refine x_iadd X dL_law_592 ?_
    refine x_sld X hX hsb hbA h1 dL_law_593 ?_
    refine x_aload_n X dL_law_594 rfl hl 0 rfl ?_
    refine x_iload X dL_law_595 hl 4 rfl ?_
    refine x_iconst X dL_law_597 xk_iconst_2 ?_
    refine x_iadd X dL_law_598 ?_
    refine x_sld X hX hsb hbA h2 dL_law_599 ?_
    refine x_aload_n X dL_law_600 rfl hl 0 rfl ?_
    refine x_iload X dL_law_601 hl 4 rfl ?_
    refine x_iconst X dL_law_603 xk_iconst_3 ?_
    refine x_iadd X dL_law_604 ?_
    refine x_sld X hX hsb hbA h3 dL_law_605 ?_
    refine x_aload_n X dL_law_606 rfl hl 3 rfl ?_
    refine f_cw (w1 := mwld cI cZ b τ) (w2 := []) (wc := wwld cI cJ a o) (τ := (σ, g)) (τ' := (r.2.2, g)) (σ' := (r.2.2, τ, g)) X LX (c_L_credits l hst D cI cZ cJ a o F σ g (xs (i + (1 : Int32)).toNatClampNeg) (xs (i + (2 : Int32)).toNatClampNeg) (xs (i + (3 : Int32)).toNatClampNeg) hf 1 (r.2.2, g) (Or.inr (Or.inl ⟨h0, rfl, rfl⟩))) (vx_cwSW 5 X.2.2.2.2.1 gL_law_L_credits rfl rfl rfl (by decide +kernel) ⟨Nat.le_of_ble_eq_true rfl, Nat.le_of_ble_eq_true rfl⟩) rfl hl rfl (Nat.le_of_ble_eq_true rfl) hkn dL_law_607 rfl rfl ?_
    refine x_istoreA (lv' := [(5, .int (1 : Int32)), (0, .ref sb), (1, .ref (a 0)), (2, .ref (b 0)), (3, .ref o), (4, .int i)]) X dL_law_610 hl (by decide) rfl (fun ls hl => ?_)
    refine x_aload_n X dL_law_612 rfl hl 3 rfl ?_
    refine x_aload_n X dL_law_613 rfl hl 1 rfl ?_
    refine x_iload X dL_law_614 hl 5 rfl ?_
    refine x_iconst X dL_law_616 xk_iconst_1 ?_
    refine x_iadd X dL_law_617 ?_
    refine x_sld X hX hsb hbA h1 dL_law_618 ?_
    refine x_aload_n X dL_law_619 rfl hl 1 rfl ?_
    refine x_iload X dL_law_620 hl 5 rfl ?_
    refine x_iconst X dL_law_622 xk_iconst_2 ?_
    refine x_iadd X dL_law_623 ?_
    refine x_sld X hX hsb hbA h2 dL_law_624 ?_
    refine x_aload_n X dL_law_625 rfl hl 1 rfl ?_
    refine x_iload X dL_law_626 hl 5 rfl ?_
    refine x_iconst X dL_law_628 xk_iconst_3 ?_
    refine x_iadd X dL_law_629 ?_
    refine x_sld X hX hsb hbA h3 dL_law_630 ?_
    refine f_cV (w1 := []) (w2 := cwld cI a r.2.2 ++ l_out cJ o (g)) (wc := mwld cI cZ b) (τ := τ) (τ' := τ1) (σ' := (r.2.2, τ1, g)) X 0 8 (mw_o cI cZ b τ) rfl rfl (c_X8_credits l D cI cZ cJ b F hm) (cwV 3 X.2.2.2.2.1 gL_law_X8_credits rfl rfl rfl (by decide +kernel) ⟨Nat.le_of_ble_eq_true rfl, Nat.le_of_ble_eq_true rfl⟩) rfl hl rfl (Nat.le_of_ble_eq_true rfl) hkn dL_law_631 rfl rfl ?_
    refine x_istoreA (lv' := [(6, .int bb), (5, .int (1 : Int32)), (0, .ref sb), (1, .ref (a 0)), (2, .ref (b 0)), (3, .ref o), (4, .int i)]) X dL_law_634 hl (by decide) rfl (fun ls hl => ?_)
    refine x_aload_n X dL_law_636 rfl hl 4 rfl ?_
    refine f_cV (w1 := []) (w2 := cwld cI a r.2.2 ++ l_out cJ o (g)) (wc := mwld cI cZ b) (τ := τ1) (τ' := τ1) (σ' := (r.2.2, τ1, g)) X 0 8 (mw_o cI cZ b τ1) rfl rfl (c_X8_thrown l D cI cZ cJ b F (r := τ1 18 7) rfl) (cwV 0 X.2.2.2.2.1 gL_law_X8_thrown rfl rfl rfl (by decide +kernel) ⟨Nat.le_of_ble_eq_true rfl, Nat.le_of_ble_eq_true rfl⟩) rfl hl rfl (Nat.le_of_ble_eq_true rfl) hkn dL_law_637 rfl rfl ?_
    refine x_iload X dL_law_640 hl 1 rfl ?_
    refine x_icmp_eq (tgt := 647) X dL_law_642 rfl (fun _ => ?_) (fun h9 => absurd ht h9)
    refine x_iload X dL_law_647 hl 1 rfl ?_
    refine x_if_ne (tgt := 664) X dL_law_649 rfl (fun _ => ?_) (fun h9 => absurd h9 (by decide : ¬ ((1 : Int32)) = 0))
    refine x_goto (tgt := 1060) X dL_law_664 rfl ?_
    exact KK _ (lv_sub hl [2, 3, 4, 5, 6] rfl)
  · have KK := kk g
    refine x_aload_n X dL_law_587 rfl hl 1 rfl ?_
    refine x_aload_n X dL_law_588 rfl hl 0 rfl ?_
    refine x_iload X dL_law_589 hl 4 rfl ?_
    refine x_iconst X dL_law_591 xk_iconst_1 ?_
    refine x_iadd X dL_law_592 ?_
    refine x_sld X hX hsb hbA h1 dL_law_593 ?_
    refine x_aload_n X dL_law_594 rfl hl 0 rfl ?_
    refine x_iload X dL_law_595 hl 4 rfl ?_
    refine x_iconst X dL_law_597 xk_iconst_2 ?_
    refine x_iadd X dL_law_598 ?_
    refine x_sld X hX hsb hbA h2 dL_law_599 ?_
    refine x_aload_n X dL_law_600 rfl hl 0 rfl ?_
    refine x_iload X dL_law_601 hl 4 rfl ?_
    refine x_iconst X dL_law_603 xk_iconst_3 ?_
    refine x_iadd X dL_law_604 ?_
    refine x_sld X hX hsb hbA h3 dL_law_605 ?_
    refine x_aload_n X dL_law_606 rfl hl 3 rfl ?_
    refine f_cw (w1 := mwld cI cZ b τ) (w2 := []) (wc := wwld cI cJ a o) (τ := (σ, g)) (τ' := (r.2.2, g)) (σ' := (r.2.2, τ, g)) X LX (c_L_credits l hst D cI cZ cJ a o F σ g (xs (i + (1 : Int32)).toNatClampNeg) (xs (i + (2 : Int32)).toNatClampNeg) (xs (i + (3 : Int32)).toNatClampNeg) hf 2 (r.2.2, g) (Or.inr (Or.inr ⟨h0, rfl, rfl⟩))) (vx_cwSW 5 X.2.2.2.2.1 gL_law_L_credits rfl rfl rfl (by decide +kernel) ⟨Nat.le_of_ble_eq_true rfl, Nat.le_of_ble_eq_true rfl⟩) rfl hl rfl (Nat.le_of_ble_eq_true rfl) hkn dL_law_607 rfl rfl ?_
    refine x_istoreA (lv' := [(5, .int (2 : Int32)), (0, .ref sb), (1, .ref (a 0)), (2, .ref (b 0)), (3, .ref o), (4, .int i)]) X dL_law_610 hl (by decide) rfl (fun ls hl => ?_)
    refine x_aload_n X dL_law_612 rfl hl 3 rfl ?_
    refine x_aload_n X dL_law_613 rfl hl 1 rfl ?_
    refine x_iload X dL_law_614 hl 5 rfl ?_
    refine x_iconst X dL_law_616 xk_iconst_1 ?_
    refine x_iadd X dL_law_617 ?_
    refine x_sld X hX hsb hbA h1 dL_law_618 ?_
    refine x_aload_n X dL_law_619 rfl hl 1 rfl ?_
    refine x_iload X dL_law_620 hl 5 rfl ?_
    refine x_iconst X dL_law_622 xk_iconst_2 ?_
    refine x_iadd X dL_law_623 ?_
    refine x_sld X hX hsb hbA h2 dL_law_624 ?_
    refine x_aload_n X dL_law_625 rfl hl 1 rfl ?_
    refine x_iload X dL_law_626 hl 5 rfl ?_
    refine x_iconst X dL_law_628 xk_iconst_3 ?_
    refine x_iadd X dL_law_629 ?_
    refine x_sld X hX hsb hbA h3 dL_law_630 ?_
    refine f_cV (w1 := []) (w2 := cwld cI a r.2.2 ++ l_out cJ o (g)) (wc := mwld cI cZ b) (τ := τ) (τ' := τ1) (σ' := (r.2.2, τ1, g)) X 0 8 (mw_o cI cZ b τ) rfl rfl (c_X8_credits l D cI cZ cJ b F hm) (cwV 3 X.2.2.2.2.1 gL_law_X8_credits rfl rfl rfl (by decide +kernel) ⟨Nat.le_of_ble_eq_true rfl, Nat.le_of_ble_eq_true rfl⟩) rfl hl rfl (Nat.le_of_ble_eq_true rfl) hkn dL_law_631 rfl rfl ?_
    refine x_istoreA (lv' := [(6, .int bb), (5, .int (2 : Int32)), (0, .ref sb), (1, .ref (a 0)), (2, .ref (b 0)), (3, .ref o), (4, .int i)]) X dL_law_634 hl (by decide) rfl (fun ls hl => ?_)
    refine x_aload_n X dL_law_636 rfl hl 4 rfl ?_
    refine f_cV (w1 := []) (w2 := cwld cI a r.2.2 ++ l_out cJ o (g)) (wc := mwld cI cZ b) (τ := τ1) (τ' := τ1) (σ' := (r.2.2, τ1, g)) X 0 8 (mw_o cI cZ b τ1) rfl rfl (c_X8_thrown l D cI cZ cJ b F (r := τ1 18 7) rfl) (cwV 0 X.2.2.2.2.1 gL_law_X8_thrown rfl rfl rfl (by decide +kernel) ⟨Nat.le_of_ble_eq_true rfl, Nat.le_of_ble_eq_true rfl⟩) rfl hl rfl (Nat.le_of_ble_eq_true rfl) hkn dL_law_637 rfl rfl ?_
    refine x_iload X dL_law_640 hl 1 rfl ?_
    refine x_icmp_eq (tgt := 647) X dL_law_642 rfl (fun _ => ?_) (fun h9 => absurd ht h9)
    refine x_iload X dL_law_647 hl 1 rfl ?_
    refine x_if_ne (tgt := 664) X dL_law_649 rfl (fun _ => ?_) (fun h9 => absurd h9 (by decide : ¬ ((2 : Int32)) = 0))
    refine x_goto (tgt := 1060) X dL_law_664 rfl ?_
    exact KK _ (lv_sub hl [2, 3, 4, 5, 6] rfl)
set_option maxHeartbeats 4000000 in
set_option maxRecDepth 100000 in
theorem l_inBuffer {p : Program} {l : Launch} {e : Env} {s : State} {m : MethodId} {args : Array Value} {below : List Frame} {meth : Method} {c : Code} {k n : Nat} {Q : State → Prop} {D : va_G} {A : Nat → Prop} {cI cZ cJ : ClassId} {a b : Nat → Nat} {o sb L : Nat} {xs : Nat → Int32} (X : x_X p s m args meth c cL_law 7 (some .boolean) RL wsL_law D (x_tys cI cZ cJ) A) (hX : va_X sb L xs s s.heap) (hsb : sb < s.heap.size) (hbA : ¬ A sb) (LX : x_S s ∧ x_Z A s s.heap ∧ x_N s) (hst : l.stackTraces = false) (F : Nat) {σ τ τ1 : CS} {g : Nat → Int64} {i bb rk : Int32} {r : XR} (h1 : vp_in (i + (1 : Int32)) L) (h2 : vp_in (i + (2 : Int32)) L) (h3 : vp_in (i + (3 : Int32)) L) (hf : r_X7_inBuffer F (xs (i + (1 : Int32)).toNatClampNeg) (xs (i + (2 : Int32)).toNatClampNeg) (xs (i + (3 : Int32)).toNatClampNeg) σ = some r) (hm : r_X8_inBuffer F (xs (i + (1 : Int32)).toNatClampNeg) (xs (i + (2 : Int32)).toNatClampNeg) (xs (i + (3 : Int32)).toNatClampNeg) τ = some (bb, τ1)) (ht : τ1 18 7 = rk) (hk : (r.1 = 0 ∧ rk = 0 ∧ r.2.1 = bb) ∨ (r.1 = 1 ∧ rk = 1) ∨ (r.1 = 2 ∧ rk = 2)) (hkn : k + 1 ≤ 1110 ∧ n + 6 ≤ 36308) (kk : ∀ (g : Nat → Int64) (ls : Array Slot), lv_has ls 7 [(0, .ref sb), (1, .ref (a 0)), (2, .ref (b 0)), (3, .ref o), (4, .int i)] → x_W p l e room_1 s m args below meth c A D (lwld cI cZ cJ a b o) (k + 1) (n + 6) Q (r.2.2, τ1, g) (F0 m 1060 ls [])) : ∀ ls : Array Slot, lv_has ls 7 [(0, .ref sb), (1, .ref (a 0)), (2, .ref (b 0)), (3, .ref o), (4, .int i)] → x_W p l e room_1 s m args below meth c A D (lwld cI cZ cJ a b o) k n Q (σ, τ, g) (F0 m 667 ls []) := by
  intro ls hl
  rcases hk with ⟨h0, rfl, hbb⟩ | ⟨h0, rfl⟩ | ⟨h0, rfl⟩
  · have KK := kk (vp_updL g 0 r.2.1.toInt64)
    refine x_aload_n X dL_law_667 rfl hl 1 rfl ?_
    refine x_aload_n X dL_law_668 rfl hl 0 rfl ?_
    refine x_iload X dL_law_669 hl 4 rfl ?_
    refine x_iconst X dL_law_671 xk_iconst_1 ?_
    refine x_iadd X dL_law_672 ?_
    refine x_sld X hX hsb hbA h1 dL_law_673 ?_
    refine x_aload_n X dL_law_674 rfl hl 0 rfl ?_
    refine x_iload X dL_law_675 hl 4 rfl ?_
    refine x_iconst X dL_law_677 xk_iconst_2 ?_
    refine x_iadd X dL_law_678 ?_
    refine x_sld X hX hsb hbA h2 dL_law_679 ?_
    refine x_aload_n X dL_law_680 rfl hl 0 rfl ?_
    refine x_iload X dL_law_681 hl 4 rfl ?_
    refine x_iconst X dL_law_683 xk_iconst_3 ?_
    refine x_iadd X dL_law_684 ?_
    refine x_sld X hX hsb hbA h3 dL_law_685 ?_
    refine x_aload_n X dL_law_686 rfl hl 3 rfl ?_
    refine f_cw (w1 := mwld cI cZ b τ) (w2 := []) (wc := wwld cI cJ a o) (τ := (σ, g)) (τ' := (r.2.2, (vp_updL g 0 r.2.1.toInt64))) (σ' := (r.2.2, τ, (vp_updL g 0 r.2.1.toInt64))) X LX (c_L_inBuffer l hst D cI cZ cJ a o F σ g (xs (i + (1 : Int32)).toNatClampNeg) (xs (i + (2 : Int32)).toNatClampNeg) (xs (i + (3 : Int32)).toNatClampNeg) hf 0 (r.2.2, (vp_updL g 0 r.2.1.toInt64)) (Or.inl ⟨h0, rfl, rfl⟩)) (vx_cwSW 5 X.2.2.2.2.1 gL_law_L_inBuffer rfl rfl rfl (by decide +kernel) ⟨Nat.le_of_ble_eq_true rfl, Nat.le_of_ble_eq_true rfl⟩) rfl hl rfl (Nat.le_of_ble_eq_true rfl) hkn dL_law_687 rfl rfl ?_
    refine x_istoreA (lv' := [(5, .int (0 : Int32)), (0, .ref sb), (1, .ref (a 0)), (2, .ref (b 0)), (3, .ref o), (4, .int i)]) X dL_law_690 hl (by decide) rfl (fun ls hl => ?_)
    refine x_aload_n X dL_law_692 rfl hl 3 rfl ?_
    refine x_aload_n X dL_law_693 rfl hl 1 rfl ?_
    refine x_iload X dL_law_694 hl 5 rfl ?_
    refine x_iconst X dL_law_696 xk_iconst_1 ?_
    refine x_iadd X dL_law_697 ?_
    refine x_sld X hX hsb hbA h1 dL_law_698 ?_
    refine x_aload_n X dL_law_699 rfl hl 1 rfl ?_
    refine x_iload X dL_law_700 hl 5 rfl ?_
    refine x_iconst X dL_law_702 xk_iconst_2 ?_
    refine x_iadd X dL_law_703 ?_
    refine x_sld X hX hsb hbA h2 dL_law_704 ?_
    refine x_aload_n X dL_law_705 rfl hl 1 rfl ?_
    refine x_iload X dL_law_706 hl 5 rfl ?_
    refine x_iconst X dL_law_708 xk_iconst_3 ?_
    refine x_iadd X dL_law_709 ?_
    refine x_sld X hX hsb hbA h3 dL_law_710 ?_
    refine f_cV (w1 := []) (w2 := cwld cI a r.2.2 ++ l_out cJ o ((vp_updL g 0 r.2.1.toInt64))) (wc := mwld cI cZ b) (τ := τ) (τ' := τ1) (σ' := (r.2.2, τ1, (vp_updL g 0 r.2.1.toInt64))) X 0 8 (mw_o cI cZ b τ) rfl rfl (c_X8_inBuffer l D cI cZ cJ b F hm) (cwV 3 X.2.2.2.2.1 gL_law_X8_inBuffer rfl rfl rfl (by decide +kernel) ⟨Nat.le_of_ble_eq_true rfl, Nat.le_of_ble_eq_true rfl⟩) rfl hl rfl (Nat.le_of_ble_eq_true rfl) hkn dL_law_711 rfl rfl ?_
    refine x_istoreA (lv' := [(6, .int bb), (5, .int (0 : Int32)), (0, .ref sb), (1, .ref (a 0)), (2, .ref (b 0)), (3, .ref o), (4, .int i)]) X dL_law_714 hl (by decide) rfl (fun ls hl => ?_)
    refine x_aload_n X dL_law_716 rfl hl 4 rfl ?_
    refine f_cV (w1 := []) (w2 := cwld cI a r.2.2 ++ l_out cJ o ((vp_updL g 0 r.2.1.toInt64))) (wc := mwld cI cZ b) (τ := τ1) (τ' := τ1) (σ' := (r.2.2, τ1, (vp_updL g 0 r.2.1.toInt64))) X 0 8 (mw_o cI cZ b τ1) rfl rfl (c_X8_thrown l D cI cZ cJ b F (r := τ1 18 7) rfl) (cwV 0 X.2.2.2.2.1 gL_law_X8_thrown rfl rfl rfl (by decide +kernel) ⟨Nat.le_of_ble_eq_true rfl, Nat.le_of_ble_eq_true rfl⟩) rfl hl rfl (Nat.le_of_ble_eq_true rfl) hkn dL_law_717 rfl rfl ?_
    refine x_iload X dL_law_720 hl 1 rfl ?_
    refine x_icmp_eq (tgt := 727) X dL_law_722 rfl (fun _ => ?_) (fun h9 => absurd ht h9)
    refine x_iload X dL_law_727 hl 1 rfl ?_
    refine x_if_ne (tgt := 744) X dL_law_729 rfl (fun h9 => absurd (by decide : ((0 : Int32)) = 0) h9) (fun _ => ?_)
    refine x_aload_n X dL_law_732 rfl hl 5 rfl ?_
    refine x_iconst X dL_law_733 xk_iconst_0 ?_
    refine x_lald X 70 2 (lw_o cI cZ cJ a b o (r.2.2, τ1, (vp_updL g 0 r.2.1.toInt64))) rfl (x_in_of (by decide)) dL_law_734 ?_
    refine x_iload X dL_law_735 hl 0 rfl ?_
    refine x_i2l X dL_law_737 ?_
    refine x_lcmp X dL_law_738 ?_
    refine x_if_eq (tgt := 744) X dL_law_739 rfl (fun _ => ?_) (fun h9 => absurd ((lg_cmp_eq _ _).mpr (by show r.2.1.toInt64 = bb.toInt64; rw [hbb])) h9)
    refine x_goto (tgt := 1060) X dL_law_744 rfl ?_
    exact KK _ (lv_sub hl [2, 3, 4, 5, 6] rfl)
  · have KK := kk g
    refine x_aload_n X dL_law_667 rfl hl 1 rfl ?_
    refine x_aload_n X dL_law_668 rfl hl 0 rfl ?_
    refine x_iload X dL_law_669 hl 4 rfl ?_
    refine x_iconst X dL_law_671 xk_iconst_1 ?_
    refine x_iadd X dL_law_672 ?_
    refine x_sld X hX hsb hbA h1 dL_law_673 ?_
    refine x_aload_n X dL_law_674 rfl hl 0 rfl ?_
    refine x_iload X dL_law_675 hl 4 rfl ?_
    refine x_iconst X dL_law_677 xk_iconst_2 ?_
    refine x_iadd X dL_law_678 ?_
    refine x_sld X hX hsb hbA h2 dL_law_679 ?_
    refine x_aload_n X dL_law_680 rfl hl 0 rfl ?_
    refine x_iload X dL_law_681 hl 4 rfl ?_
    refine x_iconst X dL_law_683 xk_iconst_3 ?_
    refine x_iadd X dL_law_684 ?_
    refine x_sld X hX hsb hbA h3 dL_law_685 ?_
    refine x_aload_n X dL_law_686 rfl hl 3 rfl ?_
    refine f_cw (w1 := mwld cI cZ b τ) (w2 := []) (wc := wwld cI cJ a o) (τ := (σ, g)) (τ' := (r.2.2, g)) (σ' := (r.2.2, τ, g)) X LX (c_L_inBuffer l hst D cI cZ cJ a o F σ g (xs (i + (1 : Int32)).toNatClampNeg) (xs (i + (2 : Int32)).toNatClampNeg) (xs (i + (3 : Int32)).toNatClampNeg) hf 1 (r.2.2, g) (Or.inr (Or.inl ⟨h0, rfl, rfl⟩))) (vx_cwSW 5 X.2.2.2.2.1 gL_law_L_inBuffer rfl rfl rfl (by decide +kernel) ⟨Nat.le_of_ble_eq_true rfl, Nat.le_of_ble_eq_true rfl⟩) rfl hl rfl (Nat.le_of_ble_eq_true rfl) hkn dL_law_687 rfl rfl ?_
    refine x_istoreA (lv' := [(5, .int (1 : Int32)), (0, .ref sb), (1, .ref (a 0)), (2, .ref (b 0)), (3, .ref o), (4, .int i)]) X dL_law_690 hl (by decide) rfl (fun ls hl => ?_)
    refine x_aload_n X dL_law_692 rfl hl 3 rfl ?_
    refine x_aload_n X dL_law_693 rfl hl 1 rfl ?_
    refine x_iload X dL_law_694 hl 5 rfl ?_
    refine x_iconst X dL_law_696 xk_iconst_1 ?_
    refine x_iadd X dL_law_697 ?_
    refine x_sld X hX hsb hbA h1 dL_law_698 ?_
    refine x_aload_n X dL_law_699 rfl hl 1 rfl ?_
    refine x_iload X dL_law_700 hl 5 rfl ?_
    refine x_iconst X dL_law_702 xk_iconst_2 ?_
    refine x_iadd X dL_law_703 ?_
    refine x_sld X hX hsb hbA h2 dL_law_704 ?_
    refine x_aload_n X dL_law_705 rfl hl 1 rfl ?_
    refine x_iload X dL_law_706 hl 5 rfl ?_
    refine x_iconst X dL_law_708 xk_iconst_3 ?_
    refine x_iadd X dL_law_709 ?_
    refine x_sld X hX hsb hbA h3 dL_law_710 ?_
    refine f_cV (w1 := []) (w2 := cwld cI a r.2.2 ++ l_out cJ o (g)) (wc := mwld cI cZ b) (τ := τ) (τ' := τ1) (σ' := (r.2.2, τ1, g)) X 0 8 (mw_o cI cZ b τ) rfl rfl (c_X8_inBuffer l D cI cZ cJ b F hm) (cwV 3 X.2.2.2.2.1 gL_law_X8_inBuffer rfl rfl rfl (by decide +kernel) ⟨Nat.le_of_ble_eq_true rfl, Nat.le_of_ble_eq_true rfl⟩) rfl hl rfl (Nat.le_of_ble_eq_true rfl) hkn dL_law_711 rfl rfl ?_
    refine x_istoreA (lv' := [(6, .int bb), (5, .int (1 : Int32)), (0, .ref sb), (1, .ref (a 0)), (2, .ref (b 0)), (3, .ref o), (4, .int i)]) X dL_law_714 hl (by decide) rfl (fun ls hl => ?_)
    refine x_aload_n X dL_law_716 rfl hl 4 rfl ?_
    refine f_cV (w1 := []) (w2 := cwld cI a r.2.2 ++ l_out cJ o (g)) (wc := mwld cI cZ b) (τ := τ1) (τ' := τ1) (σ' := (r.2.2, τ1, g)) X 0 8 (mw_o cI cZ b τ1) rfl rfl (c_X8_thrown l D cI cZ cJ b F (r := τ1 18 7) rfl) (cwV 0 X.2.2.2.2.1 gL_law_X8_thrown rfl rfl rfl (by decide +kernel) ⟨Nat.le_of_ble_eq_true rfl, Nat.le_of_ble_eq_true rfl⟩) rfl hl rfl (Nat.le_of_ble_eq_true rfl) hkn dL_law_717 rfl rfl ?_
    refine x_iload X dL_law_720 hl 1 rfl ?_
    refine x_icmp_eq (tgt := 727) X dL_law_722 rfl (fun _ => ?_) (fun h9 => absurd ht h9)
    refine x_iload X dL_law_727 hl 1 rfl ?_
    refine x_if_ne (tgt := 744) X dL_law_729 rfl (fun _ => ?_) (fun h9 => absurd h9 (by decide : ¬ ((1 : Int32)) = 0))
    refine x_goto (tgt := 1060) X dL_law_744 rfl ?_
    exact KK _ (lv_sub hl [2, 3, 4, 5, 6] rfl)
  · have KK := kk g
    refine x_aload_n X dL_law_667 rfl hl 1 rfl ?_
    refine x_aload_n X dL_law_668 rfl hl 0 rfl ?_
    refine x_iload X dL_law_669 hl 4 rfl ?_
    refine x_iconst X dL_law_671 xk_iconst_1 ?_
    refine x_iadd X dL_law_672 ?_
    refine x_sld X hX hsb hbA h1 dL_law_673 ?_
    refine x_aload_n X dL_law_674 rfl hl 0 rfl ?_
    refine x_iload X dL_law_675 hl 4 rfl ?_
    refine x_iconst X dL_law_677 xk_iconst_2 ?_
    refine x_iadd X dL_law_678 ?_
    refine x_sld X hX hsb hbA h2 dL_law_679 ?_
    refine x_aload_n X dL_law_680 rfl hl 0 rfl ?_
    refine x_iload X dL_law_681 hl 4 rfl ?_
    refine x_iconst X dL_law_683 xk_iconst_3 ?_
    refine x_iadd X dL_law_684 ?_
    refine x_sld X hX hsb hbA h3 dL_law_685 ?_
    refine x_aload_n X dL_law_686 rfl hl 3 rfl ?_
    refine f_cw (w1 := mwld cI cZ b τ) (w2 := []) (wc := wwld cI cJ a o) (τ := (σ, g)) (τ' := (r.2.2, g)) (σ' := (r.2.2, τ, g)) X LX (c_L_inBuffer l hst D cI cZ cJ a o F σ g (xs (i + (1 : Int32)).toNatClampNeg) (xs (i + (2 : Int32)).toNatClampNeg) (xs (i + (3 : Int32)).toNatClampNeg) hf 2 (r.2.2, g) (Or.inr (Or.inr ⟨h0, rfl, rfl⟩))) (vx_cwSW 5 X.2.2.2.2.1 gL_law_L_inBuffer rfl rfl rfl (by decide +kernel) ⟨Nat.le_of_ble_eq_true rfl, Nat.le_of_ble_eq_true rfl⟩) rfl hl rfl (Nat.le_of_ble_eq_true rfl) hkn dL_law_687 rfl rfl ?_
    refine x_istoreA (lv' := [(5, .int (2 : Int32)), (0, .ref sb), (1, .ref (a 0)), (2, .ref (b 0)), (3, .ref o), (4, .int i)]) X dL_law_690 hl (by decide) rfl (fun ls hl => ?_)
    refine x_aload_n X dL_law_692 rfl hl 3 rfl ?_
    refine x_aload_n X dL_law_693 rfl hl 1 rfl ?_
    refine x_iload X dL_law_694 hl 5 rfl ?_
    refine x_iconst X dL_law_696 xk_iconst_1 ?_
    refine x_iadd X dL_law_697 ?_
    refine x_sld X hX hsb hbA h1 dL_law_698 ?_
    refine x_aload_n X dL_law_699 rfl hl 1 rfl ?_
    refine x_iload X dL_law_700 hl 5 rfl ?_
    refine x_iconst X dL_law_702 xk_iconst_2 ?_
    refine x_iadd X dL_law_703 ?_
    refine x_sld X hX hsb hbA h2 dL_law_704 ?_
    refine x_aload_n X dL_law_705 rfl hl 1 rfl ?_
    refine x_iload X dL_law_706 hl 5 rfl ?_
    refine x_iconst X dL_law_708 xk_iconst_3 ?_
    refine x_iadd X dL_law_709 ?_
    refine x_sld X hX hsb hbA h3 dL_law_710 ?_
    refine f_cV (w1 := []) (w2 := cwld cI a r.2.2 ++ l_out cJ o (g)) (wc := mwld cI cZ b) (τ := τ) (τ' := τ1) (σ' := (r.2.2, τ1, g)) X 0 8 (mw_o cI cZ b τ) rfl rfl (c_X8_inBuffer l D cI cZ cJ b F hm) (cwV 3 X.2.2.2.2.1 gL_law_X8_inBuffer rfl rfl rfl (by decide +kernel) ⟨Nat.le_of_ble_eq_true rfl, Nat.le_of_ble_eq_true rfl⟩) rfl hl rfl (Nat.le_of_ble_eq_true rfl) hkn dL_law_711 rfl rfl ?_
    refine x_istoreA (lv' := [(6, .int bb), (5, .int (2 : Int32)), (0, .ref sb), (1, .ref (a 0)), (2, .ref (b 0)), (3, .ref o), (4, .int i)]) X dL_law_714 hl (by decide) rfl (fun ls hl => ?_)
    refine x_aload_n X dL_law_716 rfl hl 4 rfl ?_
    refine f_cV (w1 := []) (w2 := cwld cI a r.2.2 ++ l_out cJ o (g)) (wc := mwld cI cZ b) (τ := τ1) (τ' := τ1) (σ' := (r.2.2, τ1, g)) X 0 8 (mw_o cI cZ b τ1) rfl rfl (c_X8_thrown l D cI cZ cJ b F (r := τ1 18 7) rfl) (cwV 0 X.2.2.2.2.1 gL_law_X8_thrown rfl rfl rfl (by decide +kernel) ⟨Nat.le_of_ble_eq_true rfl, Nat.le_of_ble_eq_true rfl⟩) rfl hl rfl (Nat.le_of_ble_eq_true rfl) hkn dL_law_717 rfl rfl ?_
    refine x_iload X dL_law_720 hl 1 rfl ?_
    refine x_icmp_eq (tgt := 727) X dL_law_722 rfl (fun _ => ?_) (fun h9 => absurd ht h9)
    refine x_iload X dL_law_727 hl 1 rfl ?_
    refine x_if_ne (tgt := 744) X dL_law_729 rfl (fun _ => ?_) (fun h9 => absurd h9 (by decide : ¬ ((2 : Int32)) = 0))
    refine x_goto (tgt := 1060) X dL_law_744 rfl ?_
    exact KK _ (lv_sub hl [2, 3, 4, 5, 6] rfl)
set_option maxHeartbeats 4000000 in
set_option maxRecDepth 100000 in
theorem l_gap {p : Program} {l : Launch} {e : Env} {s : State} {m : MethodId} {args : Array Value} {below : List Frame} {meth : Method} {c : Code} {k n : Nat} {Q : State → Prop} {D : va_G} {A : Nat → Prop} {cI cZ cJ : ClassId} {a b : Nat → Nat} {o sb L : Nat} {xs : Nat → Int32} (X : x_X p s m args meth c cL_law 7 (some .boolean) RL wsL_law D (x_tys cI cZ cJ) A) (hX : va_X sb L xs s s.heap) (hsb : sb < s.heap.size) (hbA : ¬ A sb) (LX : x_S s ∧ x_Z A s s.heap ∧ x_N s) (hst : l.stackTraces = false) (F : Nat) {σ τ τ1 : CS} {g : Nat → Int64} {i bb rk : Int32} {r : XR} (h1 : vp_in (i + (1 : Int32)) L) (hf : r_X7_gap F (xs (i + (1 : Int32)).toNatClampNeg) σ = some r) (hm : r_X8_gap F (xs (i + (1 : Int32)).toNatClampNeg) τ = some (bb, τ1)) (ht : τ1 18 7 = rk) (hk : (r.1 = 0 ∧ rk = 0 ∧ r.2.1 = bb) ∨ (r.1 = 1 ∧ rk = 1)) (hkn : k + 1 ≤ 1110 ∧ n + 6 ≤ 36308) (kk : ∀ (g : Nat → Int64) (ls : Array Slot), lv_has ls 7 [(0, .ref sb), (1, .ref (a 0)), (2, .ref (b 0)), (3, .ref o), (4, .int i)] → x_W p l e room_1 s m args below meth c A D (lwld cI cZ cJ a b o) (k + 1) (n + 6) Q (r.2.2, τ1, g) (F0 m 1060 ls [])) : ∀ ls : Array Slot, lv_has ls 7 [(0, .ref sb), (1, .ref (a 0)), (2, .ref (b 0)), (3, .ref o), (4, .int i)] → x_W p l e room_1 s m args below meth c A D (lwld cI cZ cJ a b o) k n Q (σ, τ, g) (F0 m 747 ls []) := by
  intro ls hl
  rcases hk with ⟨h0, rfl, hbb⟩ | ⟨h0, rfl⟩
  · have KK := kk (vp_updL g 0 r.2.1.toInt64)
    refine x_aload_n X dL_law_747 rfl hl 1 rfl ?_
    refine x_aload_n X dL_law_748 rfl hl 0 rfl ?_
    refine x_iload X dL_law_749 hl 4 rfl ?_
    refine x_iconst X dL_law_751 xk_iconst_1 ?_
    refine x_iadd X dL_law_752 ?_
    refine x_sld X hX hsb hbA h1 dL_law_753 ?_
    refine x_aload_n X dL_law_754 rfl hl 3 rfl ?_
    refine f_cw (w1 := mwld cI cZ b τ) (w2 := []) (wc := wwld cI cJ a o) (τ := (σ, g)) (τ' := (r.2.2, (vp_updL g 0 r.2.1.toInt64))) (σ' := (r.2.2, τ, (vp_updL g 0 r.2.1.toInt64))) X LX (c_L_gap l hst D cI cZ cJ a o F σ g (xs (i + (1 : Int32)).toNatClampNeg) hf 0 (r.2.2, (vp_updL g 0 r.2.1.toInt64)) (Or.inl ⟨h0, rfl, rfl⟩)) (vx_cwSW 3 X.2.2.2.2.1 gL_law_L_gap rfl rfl rfl (by decide +kernel) ⟨Nat.le_of_ble_eq_true rfl, Nat.le_of_ble_eq_true rfl⟩) rfl hl rfl (Nat.le_of_ble_eq_true rfl) hkn dL_law_755 rfl rfl ?_
    refine x_istoreA (lv' := [(5, .int (0 : Int32)), (0, .ref sb), (1, .ref (a 0)), (2, .ref (b 0)), (3, .ref o), (4, .int i)]) X dL_law_758 hl (by decide) rfl (fun ls hl => ?_)
    refine x_aload_n X dL_law_760 rfl hl 3 rfl ?_
    refine x_aload_n X dL_law_761 rfl hl 1 rfl ?_
    refine x_iload X dL_law_762 hl 5 rfl ?_
    refine x_iconst X dL_law_764 xk_iconst_1 ?_
    refine x_iadd X dL_law_765 ?_
    refine x_sld X hX hsb hbA h1 dL_law_766 ?_
    refine f_cV (w1 := []) (w2 := cwld cI a r.2.2 ++ l_out cJ o ((vp_updL g 0 r.2.1.toInt64))) (wc := mwld cI cZ b) (τ := τ) (τ' := τ1) (σ' := (r.2.2, τ1, (vp_updL g 0 r.2.1.toInt64))) X 0 8 (mw_o cI cZ b τ) rfl rfl (c_X8_gap l D cI cZ cJ b F hm) (cwV 1 X.2.2.2.2.1 gL_law_X8_gap rfl rfl rfl (by decide +kernel) ⟨Nat.le_of_ble_eq_true rfl, Nat.le_of_ble_eq_true rfl⟩) rfl hl rfl (Nat.le_of_ble_eq_true rfl) hkn dL_law_767 rfl rfl ?_
    refine x_istoreA (lv' := [(6, .int bb), (5, .int (0 : Int32)), (0, .ref sb), (1, .ref (a 0)), (2, .ref (b 0)), (3, .ref o), (4, .int i)]) X dL_law_770 hl (by decide) rfl (fun ls hl => ?_)
    refine x_aload_n X dL_law_772 rfl hl 4 rfl ?_
    refine f_cV (w1 := []) (w2 := cwld cI a r.2.2 ++ l_out cJ o ((vp_updL g 0 r.2.1.toInt64))) (wc := mwld cI cZ b) (τ := τ1) (τ' := τ1) (σ' := (r.2.2, τ1, (vp_updL g 0 r.2.1.toInt64))) X 0 8 (mw_o cI cZ b τ1) rfl rfl (c_X8_thrown l D cI cZ cJ b F (r := τ1 18 7) rfl) (cwV 0 X.2.2.2.2.1 gL_law_X8_thrown rfl rfl rfl (by decide +kernel) ⟨Nat.le_of_ble_eq_true rfl, Nat.le_of_ble_eq_true rfl⟩) rfl hl rfl (Nat.le_of_ble_eq_true rfl) hkn dL_law_773 rfl rfl ?_
    refine x_iload X dL_law_776 hl 1 rfl ?_
    refine x_icmp_eq (tgt := 783) X dL_law_778 rfl (fun _ => ?_) (fun h9 => absurd ht h9)
    refine x_iload X dL_law_783 hl 1 rfl ?_
    refine x_if_ne (tgt := 800) X dL_law_785 rfl (fun h9 => absurd (by decide : ((0 : Int32)) = 0) h9) (fun _ => ?_)
    refine x_aload_n X dL_law_788 rfl hl 5 rfl ?_
    refine x_iconst X dL_law_789 xk_iconst_0 ?_
    refine x_lald X 70 2 (lw_o cI cZ cJ a b o (r.2.2, τ1, (vp_updL g 0 r.2.1.toInt64))) rfl (x_in_of (by decide)) dL_law_790 ?_
    refine x_iload X dL_law_791 hl 0 rfl ?_
    refine x_i2l X dL_law_793 ?_
    refine x_lcmp X dL_law_794 ?_
    refine x_if_eq (tgt := 800) X dL_law_795 rfl (fun _ => ?_) (fun h9 => absurd ((lg_cmp_eq _ _).mpr (by show r.2.1.toInt64 = bb.toInt64; rw [hbb])) h9)
    refine x_goto (tgt := 1060) X dL_law_800 rfl ?_
    exact KK _ (lv_sub hl [2, 3, 4, 5, 6] rfl)
  · have KK := kk g
    refine x_aload_n X dL_law_747 rfl hl 1 rfl ?_
    refine x_aload_n X dL_law_748 rfl hl 0 rfl ?_
    refine x_iload X dL_law_749 hl 4 rfl ?_
    refine x_iconst X dL_law_751 xk_iconst_1 ?_
    refine x_iadd X dL_law_752 ?_
    refine x_sld X hX hsb hbA h1 dL_law_753 ?_
    refine x_aload_n X dL_law_754 rfl hl 3 rfl ?_
    refine f_cw (w1 := mwld cI cZ b τ) (w2 := []) (wc := wwld cI cJ a o) (τ := (σ, g)) (τ' := (r.2.2, g)) (σ' := (r.2.2, τ, g)) X LX (c_L_gap l hst D cI cZ cJ a o F σ g (xs (i + (1 : Int32)).toNatClampNeg) hf 1 (r.2.2, g) (Or.inr ⟨h0, rfl, rfl⟩)) (vx_cwSW 3 X.2.2.2.2.1 gL_law_L_gap rfl rfl rfl (by decide +kernel) ⟨Nat.le_of_ble_eq_true rfl, Nat.le_of_ble_eq_true rfl⟩) rfl hl rfl (Nat.le_of_ble_eq_true rfl) hkn dL_law_755 rfl rfl ?_
    refine x_istoreA (lv' := [(5, .int (1 : Int32)), (0, .ref sb), (1, .ref (a 0)), (2, .ref (b 0)), (3, .ref o), (4, .int i)]) X dL_law_758 hl (by decide) rfl (fun ls hl => ?_)
    refine x_aload_n X dL_law_760 rfl hl 3 rfl ?_
    refine x_aload_n X dL_law_761 rfl hl 1 rfl ?_
    refine x_iload X dL_law_762 hl 5 rfl ?_
    refine x_iconst X dL_law_764 xk_iconst_1 ?_
    refine x_iadd X dL_law_765 ?_
    refine x_sld X hX hsb hbA h1 dL_law_766 ?_
    refine f_cV (w1 := []) (w2 := cwld cI a r.2.2 ++ l_out cJ o (g)) (wc := mwld cI cZ b) (τ := τ) (τ' := τ1) (σ' := (r.2.2, τ1, g)) X 0 8 (mw_o cI cZ b τ) rfl rfl (c_X8_gap l D cI cZ cJ b F hm) (cwV 1 X.2.2.2.2.1 gL_law_X8_gap rfl rfl rfl (by decide +kernel) ⟨Nat.le_of_ble_eq_true rfl, Nat.le_of_ble_eq_true rfl⟩) rfl hl rfl (Nat.le_of_ble_eq_true rfl) hkn dL_law_767 rfl rfl ?_
    refine x_istoreA (lv' := [(6, .int bb), (5, .int (1 : Int32)), (0, .ref sb), (1, .ref (a 0)), (2, .ref (b 0)), (3, .ref o), (4, .int i)]) X dL_law_770 hl (by decide) rfl (fun ls hl => ?_)
    refine x_aload_n X dL_law_772 rfl hl 4 rfl ?_
    refine f_cV (w1 := []) (w2 := cwld cI a r.2.2 ++ l_out cJ o (g)) (wc := mwld cI cZ b) (τ := τ1) (τ' := τ1) (σ' := (r.2.2, τ1, g)) X 0 8 (mw_o cI cZ b τ1) rfl rfl (c_X8_thrown l D cI cZ cJ b F (r := τ1 18 7) rfl) (cwV 0 X.2.2.2.2.1 gL_law_X8_thrown rfl rfl rfl (by decide +kernel) ⟨Nat.le_of_ble_eq_true rfl, Nat.le_of_ble_eq_true rfl⟩) rfl hl rfl (Nat.le_of_ble_eq_true rfl) hkn dL_law_773 rfl rfl ?_
    refine x_iload X dL_law_776 hl 1 rfl ?_
    refine x_icmp_eq (tgt := 783) X dL_law_778 rfl (fun _ => ?_) (fun h9 => absurd ht h9)
    refine x_iload X dL_law_783 hl 1 rfl ?_
    refine x_if_ne (tgt := 800) X dL_law_785 rfl (fun _ => ?_) (fun h9 => absurd h9 (by decide : ¬ ((1 : Int32)) = 0))
    refine x_goto (tgt := 1060) X dL_law_800 rfl ?_
    exact KK _ (lv_sub hl [2, 3, 4, 5, 6] rfl)
set_option maxHeartbeats 4000000 in
set_option maxRecDepth 100000 in
theorem l_placeOf {p : Program} {l : Launch} {e : Env} {s : State} {m : MethodId} {args : Array Value} {below : List Frame} {meth : Method} {c : Code} {k n : Nat} {Q : State → Prop} {D : va_G} {A : Nat → Prop} {cI cZ cJ : ClassId} {a b : Nat → Nat} {o sb L : Nat} {xs : Nat → Int32} (X : x_X p s m args meth c cL_law 7 (some .boolean) RL wsL_law D (x_tys cI cZ cJ) A) (hX : va_X sb L xs s s.heap) (hsb : sb < s.heap.size) (hbA : ¬ A sb) (LX : x_S s ∧ x_Z A s s.heap ∧ x_N s) (hst : l.stackTraces = false) (F : Nat) {σ τ τ1 : CS} {g : Nat → Int64} {i bb rk : Int32} {r : XR} (h1 : vp_in (i + (1 : Int32)) L) (hf : r_X7_placeOf F (xs (i + (1 : Int32)).toNatClampNeg) σ = some r) (hm : r_X8_placeOf F (xs (i + (1 : Int32)).toNatClampNeg) τ = some (bb, τ1)) (ht : τ1 18 7 = rk) (hk : (r.1 = 0 ∧ rk = 0 ∧ r.2.1 = bb) ∨ (r.1 = 1 ∧ rk = 1)) (hkn : k + 1 ≤ 1110 ∧ n + 6 ≤ 36308) (kk : ∀ (g : Nat → Int64) (ls : Array Slot), lv_has ls 7 [(0, .ref sb), (1, .ref (a 0)), (2, .ref (b 0)), (3, .ref o), (4, .int i)] → x_W p l e room_1 s m args below meth c A D (lwld cI cZ cJ a b o) (k + 1) (n + 6) Q (r.2.2, τ1, g) (F0 m 1060 ls [])) : ∀ ls : Array Slot, lv_has ls 7 [(0, .ref sb), (1, .ref (a 0)), (2, .ref (b 0)), (3, .ref o), (4, .int i)] → x_W p l e room_1 s m args below meth c A D (lwld cI cZ cJ a b o) k n Q (σ, τ, g) (F0 m 803 ls []) := by
  intro ls hl
  rcases hk with ⟨h0, rfl, hbb⟩ | ⟨h0, rfl⟩
  · have KK := kk (vp_updL g 0 r.2.1.toInt64)
    refine x_aload_n X dL_law_803 rfl hl 1 rfl ?_
    refine x_aload_n X dL_law_804 rfl hl 0 rfl ?_
    refine x_iload X dL_law_805 hl 4 rfl ?_
    refine x_iconst X dL_law_807 xk_iconst_1 ?_
    refine x_iadd X dL_law_808 ?_
    refine x_sld X hX hsb hbA h1 dL_law_809 ?_
    refine x_aload_n X dL_law_810 rfl hl 3 rfl ?_
    refine f_cw (w1 := mwld cI cZ b τ) (w2 := []) (wc := wwld cI cJ a o) (τ := (σ, g)) (τ' := (r.2.2, (vp_updL g 0 r.2.1.toInt64))) (σ' := (r.2.2, τ, (vp_updL g 0 r.2.1.toInt64))) X LX (c_L_placeOf l hst D cI cZ cJ a o F σ g (xs (i + (1 : Int32)).toNatClampNeg) hf 0 (r.2.2, (vp_updL g 0 r.2.1.toInt64)) (Or.inl ⟨h0, rfl, rfl⟩)) (vx_cwSW 3 X.2.2.2.2.1 gL_law_L_placeOf rfl rfl rfl (by decide +kernel) ⟨Nat.le_of_ble_eq_true rfl, Nat.le_of_ble_eq_true rfl⟩) rfl hl rfl (Nat.le_of_ble_eq_true rfl) hkn dL_law_811 rfl rfl ?_
    refine x_istoreA (lv' := [(5, .int (0 : Int32)), (0, .ref sb), (1, .ref (a 0)), (2, .ref (b 0)), (3, .ref o), (4, .int i)]) X dL_law_814 hl (by decide) rfl (fun ls hl => ?_)
    refine x_aload_n X dL_law_816 rfl hl 3 rfl ?_
    refine x_aload_n X dL_law_817 rfl hl 1 rfl ?_
    refine x_iload X dL_law_818 hl 5 rfl ?_
    refine x_iconst X dL_law_820 xk_iconst_1 ?_
    refine x_iadd X dL_law_821 ?_
    refine x_sld X hX hsb hbA h1 dL_law_822 ?_
    refine f_cV (w1 := []) (w2 := cwld cI a r.2.2 ++ l_out cJ o ((vp_updL g 0 r.2.1.toInt64))) (wc := mwld cI cZ b) (τ := τ) (τ' := τ1) (σ' := (r.2.2, τ1, (vp_updL g 0 r.2.1.toInt64))) X 0 8 (mw_o cI cZ b τ) rfl rfl (c_X8_placeOf l D cI cZ cJ b F hm) (cwV 1 X.2.2.2.2.1 gL_law_X8_placeOf rfl rfl rfl (by decide +kernel) ⟨Nat.le_of_ble_eq_true rfl, Nat.le_of_ble_eq_true rfl⟩) rfl hl rfl (Nat.le_of_ble_eq_true rfl) hkn dL_law_823 rfl rfl ?_
    refine x_istoreA (lv' := [(6, .int bb), (5, .int (0 : Int32)), (0, .ref sb), (1, .ref (a 0)), (2, .ref (b 0)), (3, .ref o), (4, .int i)]) X dL_law_826 hl (by decide) rfl (fun ls hl => ?_)
    refine x_aload_n X dL_law_828 rfl hl 4 rfl ?_
    refine f_cV (w1 := []) (w2 := cwld cI a r.2.2 ++ l_out cJ o ((vp_updL g 0 r.2.1.toInt64))) (wc := mwld cI cZ b) (τ := τ1) (τ' := τ1) (σ' := (r.2.2, τ1, (vp_updL g 0 r.2.1.toInt64))) X 0 8 (mw_o cI cZ b τ1) rfl rfl (c_X8_thrown l D cI cZ cJ b F (r := τ1 18 7) rfl) (cwV 0 X.2.2.2.2.1 gL_law_X8_thrown rfl rfl rfl (by decide +kernel) ⟨Nat.le_of_ble_eq_true rfl, Nat.le_of_ble_eq_true rfl⟩) rfl hl rfl (Nat.le_of_ble_eq_true rfl) hkn dL_law_829 rfl rfl ?_
    refine x_iload X dL_law_832 hl 1 rfl ?_
    refine x_icmp_eq (tgt := 839) X dL_law_834 rfl (fun _ => ?_) (fun h9 => absurd ht h9)
    refine x_iload X dL_law_839 hl 1 rfl ?_
    refine x_if_ne (tgt := 856) X dL_law_841 rfl (fun h9 => absurd (by decide : ((0 : Int32)) = 0) h9) (fun _ => ?_)
    refine x_aload_n X dL_law_844 rfl hl 5 rfl ?_
    refine x_iconst X dL_law_845 xk_iconst_0 ?_
    refine x_lald X 70 2 (lw_o cI cZ cJ a b o (r.2.2, τ1, (vp_updL g 0 r.2.1.toInt64))) rfl (x_in_of (by decide)) dL_law_846 ?_
    refine x_iload X dL_law_847 hl 0 rfl ?_
    refine x_i2l X dL_law_849 ?_
    refine x_lcmp X dL_law_850 ?_
    refine x_if_eq (tgt := 856) X dL_law_851 rfl (fun _ => ?_) (fun h9 => absurd ((lg_cmp_eq _ _).mpr (by show r.2.1.toInt64 = bb.toInt64; rw [hbb])) h9)
    refine x_goto (tgt := 1060) X dL_law_856 rfl ?_
    exact KK _ (lv_sub hl [2, 3, 4, 5, 6] rfl)
  · have KK := kk g
    refine x_aload_n X dL_law_803 rfl hl 1 rfl ?_
    refine x_aload_n X dL_law_804 rfl hl 0 rfl ?_
    refine x_iload X dL_law_805 hl 4 rfl ?_
    refine x_iconst X dL_law_807 xk_iconst_1 ?_
    refine x_iadd X dL_law_808 ?_
    refine x_sld X hX hsb hbA h1 dL_law_809 ?_
    refine x_aload_n X dL_law_810 rfl hl 3 rfl ?_
    refine f_cw (w1 := mwld cI cZ b τ) (w2 := []) (wc := wwld cI cJ a o) (τ := (σ, g)) (τ' := (r.2.2, g)) (σ' := (r.2.2, τ, g)) X LX (c_L_placeOf l hst D cI cZ cJ a o F σ g (xs (i + (1 : Int32)).toNatClampNeg) hf 1 (r.2.2, g) (Or.inr ⟨h0, rfl, rfl⟩)) (vx_cwSW 3 X.2.2.2.2.1 gL_law_L_placeOf rfl rfl rfl (by decide +kernel) ⟨Nat.le_of_ble_eq_true rfl, Nat.le_of_ble_eq_true rfl⟩) rfl hl rfl (Nat.le_of_ble_eq_true rfl) hkn dL_law_811 rfl rfl ?_
    refine x_istoreA (lv' := [(5, .int (1 : Int32)), (0, .ref sb), (1, .ref (a 0)), (2, .ref (b 0)), (3, .ref o), (4, .int i)]) X dL_law_814 hl (by decide) rfl (fun ls hl => ?_)
    refine x_aload_n X dL_law_816 rfl hl 3 rfl ?_
    refine x_aload_n X dL_law_817 rfl hl 1 rfl ?_
    refine x_iload X dL_law_818 hl 5 rfl ?_
    refine x_iconst X dL_law_820 xk_iconst_1 ?_
    refine x_iadd X dL_law_821 ?_
    refine x_sld X hX hsb hbA h1 dL_law_822 ?_
    refine f_cV (w1 := []) (w2 := cwld cI a r.2.2 ++ l_out cJ o (g)) (wc := mwld cI cZ b) (τ := τ) (τ' := τ1) (σ' := (r.2.2, τ1, g)) X 0 8 (mw_o cI cZ b τ) rfl rfl (c_X8_placeOf l D cI cZ cJ b F hm) (cwV 1 X.2.2.2.2.1 gL_law_X8_placeOf rfl rfl rfl (by decide +kernel) ⟨Nat.le_of_ble_eq_true rfl, Nat.le_of_ble_eq_true rfl⟩) rfl hl rfl (Nat.le_of_ble_eq_true rfl) hkn dL_law_823 rfl rfl ?_
    refine x_istoreA (lv' := [(6, .int bb), (5, .int (1 : Int32)), (0, .ref sb), (1, .ref (a 0)), (2, .ref (b 0)), (3, .ref o), (4, .int i)]) X dL_law_826 hl (by decide) rfl (fun ls hl => ?_)
    refine x_aload_n X dL_law_828 rfl hl 4 rfl ?_
    refine f_cV (w1 := []) (w2 := cwld cI a r.2.2 ++ l_out cJ o (g)) (wc := mwld cI cZ b) (τ := τ1) (τ' := τ1) (σ' := (r.2.2, τ1, g)) X 0 8 (mw_o cI cZ b τ1) rfl rfl (c_X8_thrown l D cI cZ cJ b F (r := τ1 18 7) rfl) (cwV 0 X.2.2.2.2.1 gL_law_X8_thrown rfl rfl rfl (by decide +kernel) ⟨Nat.le_of_ble_eq_true rfl, Nat.le_of_ble_eq_true rfl⟩) rfl hl rfl (Nat.le_of_ble_eq_true rfl) hkn dL_law_829 rfl rfl ?_
    refine x_iload X dL_law_832 hl 1 rfl ?_
    refine x_icmp_eq (tgt := 839) X dL_law_834 rfl (fun _ => ?_) (fun h9 => absurd ht h9)
    refine x_iload X dL_law_839 hl 1 rfl ?_
    refine x_if_ne (tgt := 856) X dL_law_841 rfl (fun _ => ?_) (fun h9 => absurd h9 (by decide : ¬ ((1 : Int32)) = 0))
    refine x_goto (tgt := 1060) X dL_law_856 rfl ?_
    exact KK _ (lv_sub hl [2, 3, 4, 5, 6] rfl)
set_option maxHeartbeats 4000000 in
set_option maxRecDepth 100000 in
theorem l_hops {p : Program} {l : Launch} {e : Env} {s : State} {m : MethodId} {args : Array Value} {below : List Frame} {meth : Method} {c : Code} {k n : Nat} {Q : State → Prop} {D : va_G} {A : Nat → Prop} {cI cZ cJ : ClassId} {a b : Nat → Nat} {o sb L : Nat} {xs : Nat → Int32} (X : x_X p s m args meth c cL_law 7 (some .boolean) RL wsL_law D (x_tys cI cZ cJ) A) (hX : va_X sb L xs s s.heap) (hsb : sb < s.heap.size) (hbA : ¬ A sb) (LX : x_S s ∧ x_Z A s s.heap ∧ x_N s) (hst : l.stackTraces = false) (F : Nat) {σ τ τ1 : CS} {g : Nat → Int64} {i bb rk : Int32} {r : XR} (h1 : vp_in (i + (1 : Int32)) L) (hf : r_X7_hops F (xs (i + (1 : Int32)).toNatClampNeg) σ = some r) (hm : r_X8_hops F (xs (i + (1 : Int32)).toNatClampNeg) τ = some (bb, τ1)) (ht : τ1 18 7 = rk) (hk : (r.1 = 0 ∧ rk = 0 ∧ r.2.1 = bb) ∨ (r.1 = 1 ∧ rk = 1)) (hkn : k + 1 ≤ 1110 ∧ n + 6 ≤ 36308) (kk : ∀ (g : Nat → Int64) (ls : Array Slot), lv_has ls 7 [(0, .ref sb), (1, .ref (a 0)), (2, .ref (b 0)), (3, .ref o), (4, .int i)] → x_W p l e room_1 s m args below meth c A D (lwld cI cZ cJ a b o) (k + 1) (n + 6) Q (r.2.2, τ1, g) (F0 m 1060 ls [])) : ∀ ls : Array Slot, lv_has ls 7 [(0, .ref sb), (1, .ref (a 0)), (2, .ref (b 0)), (3, .ref o), (4, .int i)] → x_W p l e room_1 s m args below meth c A D (lwld cI cZ cJ a b o) k n Q (σ, τ, g) (F0 m 859 ls []) := by
  intro ls hl
  rcases hk with ⟨h0, rfl, hbb⟩ | ⟨h0, rfl⟩
  · have KK := kk (vp_updL g 0 r.2.1.toInt64)
    refine x_aload_n X dL_law_859 rfl hl 1 rfl ?_
    refine x_aload_n X dL_law_860 rfl hl 0 rfl ?_
    refine x_iload X dL_law_861 hl 4 rfl ?_
    refine x_iconst X dL_law_863 xk_iconst_1 ?_
    refine x_iadd X dL_law_864 ?_
    refine x_sld X hX hsb hbA h1 dL_law_865 ?_
    refine x_aload_n X dL_law_866 rfl hl 3 rfl ?_
    refine f_cw (w1 := mwld cI cZ b τ) (w2 := []) (wc := wwld cI cJ a o) (τ := (σ, g)) (τ' := (r.2.2, (vp_updL g 0 r.2.1.toInt64))) (σ' := (r.2.2, τ, (vp_updL g 0 r.2.1.toInt64))) X LX (c_L_hops l hst D cI cZ cJ a o F σ g (xs (i + (1 : Int32)).toNatClampNeg) hf 0 (r.2.2, (vp_updL g 0 r.2.1.toInt64)) (Or.inl ⟨h0, rfl, rfl⟩)) (vx_cwSW 3 X.2.2.2.2.1 gL_law_L_hops rfl rfl rfl (by decide +kernel) ⟨Nat.le_of_ble_eq_true rfl, Nat.le_of_ble_eq_true rfl⟩) rfl hl rfl (Nat.le_of_ble_eq_true rfl) hkn dL_law_867 rfl rfl ?_
    refine x_istoreA (lv' := [(5, .int (0 : Int32)), (0, .ref sb), (1, .ref (a 0)), (2, .ref (b 0)), (3, .ref o), (4, .int i)]) X dL_law_870 hl (by decide) rfl (fun ls hl => ?_)
    refine x_aload_n X dL_law_872 rfl hl 3 rfl ?_
    refine x_aload_n X dL_law_873 rfl hl 1 rfl ?_
    refine x_iload X dL_law_874 hl 5 rfl ?_
    refine x_iconst X dL_law_876 xk_iconst_1 ?_
    refine x_iadd X dL_law_877 ?_
    refine x_sld X hX hsb hbA h1 dL_law_878 ?_
    refine f_cV (w1 := []) (w2 := cwld cI a r.2.2 ++ l_out cJ o ((vp_updL g 0 r.2.1.toInt64))) (wc := mwld cI cZ b) (τ := τ) (τ' := τ1) (σ' := (r.2.2, τ1, (vp_updL g 0 r.2.1.toInt64))) X 0 8 (mw_o cI cZ b τ) rfl rfl (c_X8_hops l D cI cZ cJ b F hm) (cwV 1 X.2.2.2.2.1 gL_law_X8_hops rfl rfl rfl (by decide +kernel) ⟨Nat.le_of_ble_eq_true rfl, Nat.le_of_ble_eq_true rfl⟩) rfl hl rfl (Nat.le_of_ble_eq_true rfl) hkn dL_law_879 rfl rfl ?_
    refine x_istoreA (lv' := [(6, .int bb), (5, .int (0 : Int32)), (0, .ref sb), (1, .ref (a 0)), (2, .ref (b 0)), (3, .ref o), (4, .int i)]) X dL_law_882 hl (by decide) rfl (fun ls hl => ?_)
    refine x_aload_n X dL_law_884 rfl hl 4 rfl ?_
    refine f_cV (w1 := []) (w2 := cwld cI a r.2.2 ++ l_out cJ o ((vp_updL g 0 r.2.1.toInt64))) (wc := mwld cI cZ b) (τ := τ1) (τ' := τ1) (σ' := (r.2.2, τ1, (vp_updL g 0 r.2.1.toInt64))) X 0 8 (mw_o cI cZ b τ1) rfl rfl (c_X8_thrown l D cI cZ cJ b F (r := τ1 18 7) rfl) (cwV 0 X.2.2.2.2.1 gL_law_X8_thrown rfl rfl rfl (by decide +kernel) ⟨Nat.le_of_ble_eq_true rfl, Nat.le_of_ble_eq_true rfl⟩) rfl hl rfl (Nat.le_of_ble_eq_true rfl) hkn dL_law_885 rfl rfl ?_
    refine x_iload X dL_law_888 hl 1 rfl ?_
    refine x_icmp_eq (tgt := 895) X dL_law_890 rfl (fun _ => ?_) (fun h9 => absurd ht h9)
    refine x_iload X dL_law_895 hl 1 rfl ?_
    refine x_if_ne (tgt := 912) X dL_law_897 rfl (fun h9 => absurd (by decide : ((0 : Int32)) = 0) h9) (fun _ => ?_)
    refine x_aload_n X dL_law_900 rfl hl 5 rfl ?_
    refine x_iconst X dL_law_901 xk_iconst_0 ?_
    refine x_lald X 70 2 (lw_o cI cZ cJ a b o (r.2.2, τ1, (vp_updL g 0 r.2.1.toInt64))) rfl (x_in_of (by decide)) dL_law_902 ?_
    refine x_iload X dL_law_903 hl 0 rfl ?_
    refine x_i2l X dL_law_905 ?_
    refine x_lcmp X dL_law_906 ?_
    refine x_if_eq (tgt := 912) X dL_law_907 rfl (fun _ => ?_) (fun h9 => absurd ((lg_cmp_eq _ _).mpr (by show r.2.1.toInt64 = bb.toInt64; rw [hbb])) h9)
    refine x_goto (tgt := 1060) X dL_law_912 rfl ?_
    exact KK _ (lv_sub hl [2, 3, 4, 5, 6] rfl)
  · have KK := kk g
    refine x_aload_n X dL_law_859 rfl hl 1 rfl ?_
    refine x_aload_n X dL_law_860 rfl hl 0 rfl ?_
    refine x_iload X dL_law_861 hl 4 rfl ?_
    refine x_iconst X dL_law_863 xk_iconst_1 ?_
    refine x_iadd X dL_law_864 ?_
    refine x_sld X hX hsb hbA h1 dL_law_865 ?_
    refine x_aload_n X dL_law_866 rfl hl 3 rfl ?_
    refine f_cw (w1 := mwld cI cZ b τ) (w2 := []) (wc := wwld cI cJ a o) (τ := (σ, g)) (τ' := (r.2.2, g)) (σ' := (r.2.2, τ, g)) X LX (c_L_hops l hst D cI cZ cJ a o F σ g (xs (i + (1 : Int32)).toNatClampNeg) hf 1 (r.2.2, g) (Or.inr ⟨h0, rfl, rfl⟩)) (vx_cwSW 3 X.2.2.2.2.1 gL_law_L_hops rfl rfl rfl (by decide +kernel) ⟨Nat.le_of_ble_eq_true rfl, Nat.le_of_ble_eq_true rfl⟩) rfl hl rfl (Nat.le_of_ble_eq_true rfl) hkn dL_law_867 rfl rfl ?_
    refine x_istoreA (lv' := [(5, .int (1 : Int32)), (0, .ref sb), (1, .ref (a 0)), (2, .ref (b 0)), (3, .ref o), (4, .int i)]) X dL_law_870 hl (by decide) rfl (fun ls hl => ?_)
    refine x_aload_n X dL_law_872 rfl hl 3 rfl ?_
    refine x_aload_n X dL_law_873 rfl hl 1 rfl ?_
    refine x_iload X dL_law_874 hl 5 rfl ?_
    refine x_iconst X dL_law_876 xk_iconst_1 ?_
    refine x_iadd X dL_law_877 ?_
    refine x_sld X hX hsb hbA h1 dL_law_878 ?_
    refine f_cV (w1 := []) (w2 := cwld cI a r.2.2 ++ l_out cJ o (g)) (wc := mwld cI cZ b) (τ := τ) (τ' := τ1) (σ' := (r.2.2, τ1, g)) X 0 8 (mw_o cI cZ b τ) rfl rfl (c_X8_hops l D cI cZ cJ b F hm) (cwV 1 X.2.2.2.2.1 gL_law_X8_hops rfl rfl rfl (by decide +kernel) ⟨Nat.le_of_ble_eq_true rfl, Nat.le_of_ble_eq_true rfl⟩) rfl hl rfl (Nat.le_of_ble_eq_true rfl) hkn dL_law_879 rfl rfl ?_
    refine x_istoreA (lv' := [(6, .int bb), (5, .int (1 : Int32)), (0, .ref sb), (1, .ref (a 0)), (2, .ref (b 0)), (3, .ref o), (4, .int i)]) X dL_law_882 hl (by decide) rfl (fun ls hl => ?_)
    refine x_aload_n X dL_law_884 rfl hl 4 rfl ?_
    refine f_cV (w1 := []) (w2 := cwld cI a r.2.2 ++ l_out cJ o (g)) (wc := mwld cI cZ b) (τ := τ1) (τ' := τ1) (σ' := (r.2.2, τ1, g)) X 0 8 (mw_o cI cZ b τ1) rfl rfl (c_X8_thrown l D cI cZ cJ b F (r := τ1 18 7) rfl) (cwV 0 X.2.2.2.2.1 gL_law_X8_thrown rfl rfl rfl (by decide +kernel) ⟨Nat.le_of_ble_eq_true rfl, Nat.le_of_ble_eq_true rfl⟩) rfl hl rfl (Nat.le_of_ble_eq_true rfl) hkn dL_law_885 rfl rfl ?_
    refine x_iload X dL_law_888 hl 1 rfl ?_
    refine x_icmp_eq (tgt := 895) X dL_law_890 rfl (fun _ => ?_) (fun h9 => absurd ht h9)
    refine x_iload X dL_law_895 hl 1 rfl ?_
    refine x_if_ne (tgt := 912) X dL_law_897 rfl (fun _ => ?_) (fun h9 => absurd h9 (by decide : ¬ ((1 : Int32)) = 0))
    refine x_goto (tgt := 1060) X dL_law_912 rfl ?_
    exact KK _ (lv_sub hl [2, 3, 4, 5, 6] rfl)
set_option maxHeartbeats 4000000 in
set_option maxRecDepth 100000 in
theorem l_isMarked {p : Program} {l : Launch} {e : Env} {s : State} {m : MethodId} {args : Array Value} {below : List Frame} {meth : Method} {c : Code} {k n : Nat} {Q : State → Prop} {D : va_G} {A : Nat → Prop} {cI cZ cJ : ClassId} {a b : Nat → Nat} {o sb L : Nat} {xs : Nat → Int32} (X : x_X p s m args meth c cL_law 7 (some .boolean) RL wsL_law D (x_tys cI cZ cJ) A) (hX : va_X sb L xs s s.heap) (hsb : sb < s.heap.size) (hbA : ¬ A sb) (LX : x_S s ∧ x_Z A s s.heap ∧ x_N s) (hst : l.stackTraces = false) (F : Nat) {σ τ τ1 : CS} {g : Nat → Int64} {i bb rk : Int32} {r : XR} (h1 : vp_in (i + (1 : Int32)) L) (hf : r_X7_isMarked F (xs (i + (1 : Int32)).toNatClampNeg) σ = some r) (hm : r_X8_isMarked F (xs (i + (1 : Int32)).toNatClampNeg) τ = some (bb, τ1)) (ht : τ1 18 7 = rk) (hk : (r.1 = 0 ∧ rk = 0 ∧ r.2.1 = bb) ∨ (r.1 = 1 ∧ rk = 1)) (hkn : k + 1 ≤ 1110 ∧ n + 6 ≤ 36308) (kk : ∀ (g : Nat → Int64) (ls : Array Slot), lv_has ls 7 [(0, .ref sb), (1, .ref (a 0)), (2, .ref (b 0)), (3, .ref o), (4, .int i)] → x_W p l e room_1 s m args below meth c A D (lwld cI cZ cJ a b o) (k + 1) (n + 6) Q (r.2.2, τ1, g) (F0 m 1060 ls [])) : ∀ ls : Array Slot, lv_has ls 7 [(0, .ref sb), (1, .ref (a 0)), (2, .ref (b 0)), (3, .ref o), (4, .int i)] → x_W p l e room_1 s m args below meth c A D (lwld cI cZ cJ a b o) k n Q (σ, τ, g) (F0 m 915 ls []) := by
  intro ls hl
  rcases hk with ⟨h0, rfl, hbb⟩ | ⟨h0, rfl⟩
  · have KK := kk (vp_updL g 0 (if r.2.1 = 0 then 0 else 1))
    by_cases hz : bb = 0
    · refine x_aload_n X dL_law_915 rfl hl 1 rfl ?_
      refine x_aload_n X dL_law_916 rfl hl 0 rfl ?_
      refine x_iload X dL_law_917 hl 4 rfl ?_
      refine x_iconst X dL_law_919 xk_iconst_1 ?_
      refine x_iadd X dL_law_920 ?_
      refine x_sld X hX hsb hbA h1 dL_law_921 ?_
      refine x_aload_n X dL_law_922 rfl hl 3 rfl ?_
      refine f_cw (w1 := mwld cI cZ b τ) (w2 := []) (wc := wwld cI cJ a o) (τ := (σ, g)) (τ' := (r.2.2, (vp_updL g 0 (if r.2.1 = 0 then 0 else 1)))) (σ' := (r.2.2, τ, (vp_updL g 0 (if r.2.1 = 0 then 0 else 1)))) X LX (c_L_isMarked l hst D cI cZ cJ a o F σ g (xs (i + (1 : Int32)).toNatClampNeg) hf 0 (r.2.2, (vp_updL g 0 (if r.2.1 = 0 then 0 else 1))) (Or.inl ⟨h0, rfl, rfl⟩)) (vx_cwSW 3 X.2.2.2.2.1 gL_law_L_isMarked rfl rfl rfl (by decide +kernel) ⟨Nat.le_of_ble_eq_true rfl, Nat.le_of_ble_eq_true rfl⟩) rfl hl rfl (Nat.le_of_ble_eq_true rfl) hkn dL_law_923 rfl rfl ?_
      refine x_istoreA (lv' := [(5, .int (0 : Int32)), (0, .ref sb), (1, .ref (a 0)), (2, .ref (b 0)), (3, .ref o), (4, .int i)]) X dL_law_926 hl (by decide) rfl (fun ls hl => ?_)
      refine x_aload_n X dL_law_928 rfl hl 3 rfl ?_
      refine x_aload_n X dL_law_929 rfl hl 1 rfl ?_
      refine x_iload X dL_law_930 hl 5 rfl ?_
      refine x_iconst X dL_law_932 xk_iconst_1 ?_
      refine x_iadd X dL_law_933 ?_
      refine x_sld X hX hsb hbA h1 dL_law_934 ?_
      refine f_cV (w1 := []) (w2 := cwld cI a r.2.2 ++ l_out cJ o ((vp_updL g 0 (if r.2.1 = 0 then 0 else 1)))) (wc := mwld cI cZ b) (τ := τ) (τ' := τ1) (σ' := (r.2.2, τ1, (vp_updL g 0 (if r.2.1 = 0 then 0 else 1)))) X 0 8 (mw_o cI cZ b τ) rfl rfl (c_X8_isMarked l D cI cZ cJ b F hm) (cwV 1 X.2.2.2.2.1 gL_law_X8_isMarked rfl rfl rfl (by decide +kernel) ⟨Nat.le_of_ble_eq_true rfl, Nat.le_of_ble_eq_true rfl⟩) rfl hl rfl (Nat.le_of_ble_eq_true rfl) hkn dL_law_935 rfl rfl ?_
      refine x_istoreA (lv' := [(6, .int bb), (5, .int (0 : Int32)), (0, .ref sb), (1, .ref (a 0)), (2, .ref (b 0)), (3, .ref o), (4, .int i)]) X dL_law_938 hl (by decide) rfl (fun ls hl => ?_)
      refine x_aload_n X dL_law_940 rfl hl 4 rfl ?_
      refine f_cV (w1 := []) (w2 := cwld cI a r.2.2 ++ l_out cJ o ((vp_updL g 0 (if r.2.1 = 0 then 0 else 1)))) (wc := mwld cI cZ b) (τ := τ1) (τ' := τ1) (σ' := (r.2.2, τ1, (vp_updL g 0 (if r.2.1 = 0 then 0 else 1)))) X 0 8 (mw_o cI cZ b τ1) rfl rfl (c_X8_thrown l D cI cZ cJ b F (r := τ1 18 7) rfl) (cwV 0 X.2.2.2.2.1 gL_law_X8_thrown rfl rfl rfl (by decide +kernel) ⟨Nat.le_of_ble_eq_true rfl, Nat.le_of_ble_eq_true rfl⟩) rfl hl rfl (Nat.le_of_ble_eq_true rfl) hkn dL_law_941 rfl rfl ?_
      refine x_iload X dL_law_944 hl 1 rfl ?_
      refine x_icmp_eq (tgt := 951) X dL_law_946 rfl (fun _ => ?_) (fun h9 => absurd ht h9)
      refine x_iload X dL_law_951 hl 1 rfl ?_
      refine x_if_ne (tgt := 975) X dL_law_953 rfl (fun h9 => absurd (by decide : ((0 : Int32)) = 0) h9) (fun _ => ?_)
      refine x_aload_n X dL_law_956 rfl hl 5 rfl ?_
      refine x_iconst X dL_law_957 xk_iconst_0 ?_
      refine x_lald X 70 2 (lw_o cI cZ cJ a b o (r.2.2, τ1, (vp_updL g 0 (if r.2.1 = 0 then 0 else 1)))) rfl (x_in_of (by decide)) dL_law_958 ?_
      refine x_iload X dL_law_959 hl 0 rfl ?_
      refine x_if_eq (tgt := 968) X dL_law_961 rfl (fun _ => ?_) (fun h9 => absurd hz h9)
      refine x_lconst (v := 0) X dL_law_968 (by decide) ?_
      refine x_lcmp X dL_law_969 ?_
      refine x_if_eq (tgt := 975) X dL_law_970 rfl (fun _ => ?_) (fun h9 => absurd ((lg_cmp_eq _ _).mpr (by show (if r.2.1 = 0 then (0 : Int64) else 1) = 0; rw [hbb]; exact if_pos hz)) h9)
      refine x_goto (tgt := 1060) X dL_law_975 rfl ?_
      exact KK _ (lv_sub hl [2, 3, 4, 5, 6] rfl)
    · refine x_aload_n X dL_law_915 rfl hl 1 rfl ?_
      refine x_aload_n X dL_law_916 rfl hl 0 rfl ?_
      refine x_iload X dL_law_917 hl 4 rfl ?_
      refine x_iconst X dL_law_919 xk_iconst_1 ?_
      refine x_iadd X dL_law_920 ?_
      refine x_sld X hX hsb hbA h1 dL_law_921 ?_
      refine x_aload_n X dL_law_922 rfl hl 3 rfl ?_
      refine f_cw (w1 := mwld cI cZ b τ) (w2 := []) (wc := wwld cI cJ a o) (τ := (σ, g)) (τ' := (r.2.2, (vp_updL g 0 (if r.2.1 = 0 then 0 else 1)))) (σ' := (r.2.2, τ, (vp_updL g 0 (if r.2.1 = 0 then 0 else 1)))) X LX (c_L_isMarked l hst D cI cZ cJ a o F σ g (xs (i + (1 : Int32)).toNatClampNeg) hf 0 (r.2.2, (vp_updL g 0 (if r.2.1 = 0 then 0 else 1))) (Or.inl ⟨h0, rfl, rfl⟩)) (vx_cwSW 3 X.2.2.2.2.1 gL_law_L_isMarked rfl rfl rfl (by decide +kernel) ⟨Nat.le_of_ble_eq_true rfl, Nat.le_of_ble_eq_true rfl⟩) rfl hl rfl (Nat.le_of_ble_eq_true rfl) hkn dL_law_923 rfl rfl ?_
      refine x_istoreA (lv' := [(5, .int (0 : Int32)), (0, .ref sb), (1, .ref (a 0)), (2, .ref (b 0)), (3, .ref o), (4, .int i)]) X dL_law_926 hl (by decide) rfl (fun ls hl => ?_)
      refine x_aload_n X dL_law_928 rfl hl 3 rfl ?_
      refine x_aload_n X dL_law_929 rfl hl 1 rfl ?_
      refine x_iload X dL_law_930 hl 5 rfl ?_
      refine x_iconst X dL_law_932 xk_iconst_1 ?_
      refine x_iadd X dL_law_933 ?_
      refine x_sld X hX hsb hbA h1 dL_law_934 ?_
      refine f_cV (w1 := []) (w2 := cwld cI a r.2.2 ++ l_out cJ o ((vp_updL g 0 (if r.2.1 = 0 then 0 else 1)))) (wc := mwld cI cZ b) (τ := τ) (τ' := τ1) (σ' := (r.2.2, τ1, (vp_updL g 0 (if r.2.1 = 0 then 0 else 1)))) X 0 8 (mw_o cI cZ b τ) rfl rfl (c_X8_isMarked l D cI cZ cJ b F hm) (cwV 1 X.2.2.2.2.1 gL_law_X8_isMarked rfl rfl rfl (by decide +kernel) ⟨Nat.le_of_ble_eq_true rfl, Nat.le_of_ble_eq_true rfl⟩) rfl hl rfl (Nat.le_of_ble_eq_true rfl) hkn dL_law_935 rfl rfl ?_
      refine x_istoreA (lv' := [(6, .int bb), (5, .int (0 : Int32)), (0, .ref sb), (1, .ref (a 0)), (2, .ref (b 0)), (3, .ref o), (4, .int i)]) X dL_law_938 hl (by decide) rfl (fun ls hl => ?_)
      refine x_aload_n X dL_law_940 rfl hl 4 rfl ?_
      refine f_cV (w1 := []) (w2 := cwld cI a r.2.2 ++ l_out cJ o ((vp_updL g 0 (if r.2.1 = 0 then 0 else 1)))) (wc := mwld cI cZ b) (τ := τ1) (τ' := τ1) (σ' := (r.2.2, τ1, (vp_updL g 0 (if r.2.1 = 0 then 0 else 1)))) X 0 8 (mw_o cI cZ b τ1) rfl rfl (c_X8_thrown l D cI cZ cJ b F (r := τ1 18 7) rfl) (cwV 0 X.2.2.2.2.1 gL_law_X8_thrown rfl rfl rfl (by decide +kernel) ⟨Nat.le_of_ble_eq_true rfl, Nat.le_of_ble_eq_true rfl⟩) rfl hl rfl (Nat.le_of_ble_eq_true rfl) hkn dL_law_941 rfl rfl ?_
      refine x_iload X dL_law_944 hl 1 rfl ?_
      refine x_icmp_eq (tgt := 951) X dL_law_946 rfl (fun _ => ?_) (fun h9 => absurd ht h9)
      refine x_iload X dL_law_951 hl 1 rfl ?_
      refine x_if_ne (tgt := 975) X dL_law_953 rfl (fun h9 => absurd (by decide : ((0 : Int32)) = 0) h9) (fun _ => ?_)
      refine x_aload_n X dL_law_956 rfl hl 5 rfl ?_
      refine x_iconst X dL_law_957 xk_iconst_0 ?_
      refine x_lald X 70 2 (lw_o cI cZ cJ a b o (r.2.2, τ1, (vp_updL g 0 (if r.2.1 = 0 then 0 else 1)))) rfl (x_in_of (by decide)) dL_law_958 ?_
      refine x_iload X dL_law_959 hl 0 rfl ?_
      refine x_if_eq (tgt := 968) X dL_law_961 rfl (fun h9 => absurd h9 hz) (fun _ => ?_)
      refine x_lconst (v := 1) X dL_law_964 (by decide) ?_
      refine x_goto (tgt := 969) X dL_law_965 rfl ?_
      refine x_lcmp X dL_law_969 ?_
      refine x_if_eq (tgt := 975) X dL_law_970 rfl (fun _ => ?_) (fun h9 => absurd ((lg_cmp_eq _ _).mpr (by show (if r.2.1 = 0 then (0 : Int64) else 1) = 1; rw [hbb]; exact if_neg hz)) h9)
      refine x_goto (tgt := 1060) X dL_law_975 rfl ?_
      exact KK _ (lv_sub hl [2, 3, 4, 5, 6] rfl)
  · have KK := kk g
    refine x_aload_n X dL_law_915 rfl hl 1 rfl ?_
    refine x_aload_n X dL_law_916 rfl hl 0 rfl ?_
    refine x_iload X dL_law_917 hl 4 rfl ?_
    refine x_iconst X dL_law_919 xk_iconst_1 ?_
    refine x_iadd X dL_law_920 ?_
    refine x_sld X hX hsb hbA h1 dL_law_921 ?_
    refine x_aload_n X dL_law_922 rfl hl 3 rfl ?_
    refine f_cw (w1 := mwld cI cZ b τ) (w2 := []) (wc := wwld cI cJ a o) (τ := (σ, g)) (τ' := (r.2.2, g)) (σ' := (r.2.2, τ, g)) X LX (c_L_isMarked l hst D cI cZ cJ a o F σ g (xs (i + (1 : Int32)).toNatClampNeg) hf 1 (r.2.2, g) (Or.inr ⟨h0, rfl, rfl⟩)) (vx_cwSW 3 X.2.2.2.2.1 gL_law_L_isMarked rfl rfl rfl (by decide +kernel) ⟨Nat.le_of_ble_eq_true rfl, Nat.le_of_ble_eq_true rfl⟩) rfl hl rfl (Nat.le_of_ble_eq_true rfl) hkn dL_law_923 rfl rfl ?_
    refine x_istoreA (lv' := [(5, .int (1 : Int32)), (0, .ref sb), (1, .ref (a 0)), (2, .ref (b 0)), (3, .ref o), (4, .int i)]) X dL_law_926 hl (by decide) rfl (fun ls hl => ?_)
    refine x_aload_n X dL_law_928 rfl hl 3 rfl ?_
    refine x_aload_n X dL_law_929 rfl hl 1 rfl ?_
    refine x_iload X dL_law_930 hl 5 rfl ?_
    refine x_iconst X dL_law_932 xk_iconst_1 ?_
    refine x_iadd X dL_law_933 ?_
    refine x_sld X hX hsb hbA h1 dL_law_934 ?_
    refine f_cV (w1 := []) (w2 := cwld cI a r.2.2 ++ l_out cJ o (g)) (wc := mwld cI cZ b) (τ := τ) (τ' := τ1) (σ' := (r.2.2, τ1, g)) X 0 8 (mw_o cI cZ b τ) rfl rfl (c_X8_isMarked l D cI cZ cJ b F hm) (cwV 1 X.2.2.2.2.1 gL_law_X8_isMarked rfl rfl rfl (by decide +kernel) ⟨Nat.le_of_ble_eq_true rfl, Nat.le_of_ble_eq_true rfl⟩) rfl hl rfl (Nat.le_of_ble_eq_true rfl) hkn dL_law_935 rfl rfl ?_
    refine x_istoreA (lv' := [(6, .int bb), (5, .int (1 : Int32)), (0, .ref sb), (1, .ref (a 0)), (2, .ref (b 0)), (3, .ref o), (4, .int i)]) X dL_law_938 hl (by decide) rfl (fun ls hl => ?_)
    refine x_aload_n X dL_law_940 rfl hl 4 rfl ?_
    refine f_cV (w1 := []) (w2 := cwld cI a r.2.2 ++ l_out cJ o (g)) (wc := mwld cI cZ b) (τ := τ1) (τ' := τ1) (σ' := (r.2.2, τ1, g)) X 0 8 (mw_o cI cZ b τ1) rfl rfl (c_X8_thrown l D cI cZ cJ b F (r := τ1 18 7) rfl) (cwV 0 X.2.2.2.2.1 gL_law_X8_thrown rfl rfl rfl (by decide +kernel) ⟨Nat.le_of_ble_eq_true rfl, Nat.le_of_ble_eq_true rfl⟩) rfl hl rfl (Nat.le_of_ble_eq_true rfl) hkn dL_law_941 rfl rfl ?_
    refine x_iload X dL_law_944 hl 1 rfl ?_
    refine x_icmp_eq (tgt := 951) X dL_law_946 rfl (fun _ => ?_) (fun h9 => absurd ht h9)
    refine x_iload X dL_law_951 hl 1 rfl ?_
    refine x_if_ne (tgt := 975) X dL_law_953 rfl (fun _ => ?_) (fun h9 => absurd h9 (by decide : ¬ ((1 : Int32)) = 0))
    refine x_goto (tgt := 1060) X dL_law_975 rfl ?_
    exact KK _ (lv_sub hl [2, 3, 4, 5, 6] rfl)
set_option maxHeartbeats 4000000 in
set_option maxRecDepth 100000 in
theorem l_wants {p : Program} {l : Launch} {e : Env} {s : State} {m : MethodId} {args : Array Value} {below : List Frame} {meth : Method} {c : Code} {k n : Nat} {Q : State → Prop} {D : va_G} {A : Nat → Prop} {cI cZ cJ : ClassId} {a b : Nat → Nat} {o sb L : Nat} {xs : Nat → Int32} (X : x_X p s m args meth c cL_law 7 (some .boolean) RL wsL_law D (x_tys cI cZ cJ) A) (hX : va_X sb L xs s s.heap) (hsb : sb < s.heap.size) (hbA : ¬ A sb) (LX : x_S s ∧ x_Z A s s.heap ∧ x_N s) (hst : l.stackTraces = false) (F : Nat) {σ τ τ1 : CS} {g : Nat → Int64} {i bb rk : Int32} {r : XR} (h1 : vp_in (i + (1 : Int32)) L) (hf : r_X7_wants F (xs (i + (1 : Int32)).toNatClampNeg) σ = some r) (hm : r_X8_wants F (xs (i + (1 : Int32)).toNatClampNeg) τ = some (bb, τ1)) (ht : τ1 18 7 = rk) (hk : (r.1 = 0 ∧ rk = 0 ∧ r.2.1 = bb) ∨ (r.1 = 1 ∧ rk = 1)) (hkn : k + 1 ≤ 1110 ∧ n + 6 ≤ 36308) (kk : ∀ (g : Nat → Int64) (ls : Array Slot), lv_has ls 7 [(0, .ref sb), (1, .ref (a 0)), (2, .ref (b 0)), (3, .ref o), (4, .int i)] → x_W p l e room_1 s m args below meth c A D (lwld cI cZ cJ a b o) (k + 1) (n + 6) Q (r.2.2, τ1, g) (F0 m 1060 ls [])) : ∀ ls : Array Slot, lv_has ls 7 [(0, .ref sb), (1, .ref (a 0)), (2, .ref (b 0)), (3, .ref o), (4, .int i)] → x_W p l e room_1 s m args below meth c A D (lwld cI cZ cJ a b o) k n Q (σ, τ, g) (F0 m 978 ls []) := by
  intro ls hl
  rcases hk with ⟨h0, rfl, hbb⟩ | ⟨h0, rfl⟩
  · have KK := kk (vp_updL g 0 r.2.1.toInt64)
    refine x_aload_n X dL_law_978 rfl hl 1 rfl ?_
    refine x_aload_n X dL_law_979 rfl hl 0 rfl ?_
    refine x_iload X dL_law_980 hl 4 rfl ?_
    refine x_iconst X dL_law_982 xk_iconst_1 ?_
    refine x_iadd X dL_law_983 ?_
    refine x_sld X hX hsb hbA h1 dL_law_984 ?_
    refine x_aload_n X dL_law_985 rfl hl 3 rfl ?_
    refine f_cw (w1 := mwld cI cZ b τ) (w2 := []) (wc := wwld cI cJ a o) (τ := (σ, g)) (τ' := (r.2.2, (vp_updL g 0 r.2.1.toInt64))) (σ' := (r.2.2, τ, (vp_updL g 0 r.2.1.toInt64))) X LX (c_L_wants l hst D cI cZ cJ a o F σ g (xs (i + (1 : Int32)).toNatClampNeg) hf 0 (r.2.2, (vp_updL g 0 r.2.1.toInt64)) (Or.inl ⟨h0, rfl, rfl⟩)) (vx_cwSW 3 X.2.2.2.2.1 gL_law_L_wants rfl rfl rfl (by decide +kernel) ⟨Nat.le_of_ble_eq_true rfl, Nat.le_of_ble_eq_true rfl⟩) rfl hl rfl (Nat.le_of_ble_eq_true rfl) hkn dL_law_986 rfl rfl ?_
    refine x_istoreA (lv' := [(5, .int (0 : Int32)), (0, .ref sb), (1, .ref (a 0)), (2, .ref (b 0)), (3, .ref o), (4, .int i)]) X dL_law_989 hl (by decide) rfl (fun ls hl => ?_)
    refine x_aload_n X dL_law_991 rfl hl 3 rfl ?_
    refine x_aload_n X dL_law_992 rfl hl 1 rfl ?_
    refine x_iload X dL_law_993 hl 5 rfl ?_
    refine x_iconst X dL_law_995 xk_iconst_1 ?_
    refine x_iadd X dL_law_996 ?_
    refine x_sld X hX hsb hbA h1 dL_law_997 ?_
    refine f_cV (w1 := []) (w2 := cwld cI a r.2.2 ++ l_out cJ o ((vp_updL g 0 r.2.1.toInt64))) (wc := mwld cI cZ b) (τ := τ) (τ' := τ1) (σ' := (r.2.2, τ1, (vp_updL g 0 r.2.1.toInt64))) X 0 8 (mw_o cI cZ b τ) rfl rfl (c_X8_wants l D cI cZ cJ b F hm) (cwV 1 X.2.2.2.2.1 gL_law_X8_wants rfl rfl rfl (by decide +kernel) ⟨Nat.le_of_ble_eq_true rfl, Nat.le_of_ble_eq_true rfl⟩) rfl hl rfl (Nat.le_of_ble_eq_true rfl) hkn dL_law_998 rfl rfl ?_
    refine x_istoreA (lv' := [(6, .int bb), (5, .int (0 : Int32)), (0, .ref sb), (1, .ref (a 0)), (2, .ref (b 0)), (3, .ref o), (4, .int i)]) X dL_law_1001 hl (by decide) rfl (fun ls hl => ?_)
    refine x_aload_n X dL_law_1003 rfl hl 4 rfl ?_
    refine f_cV (w1 := []) (w2 := cwld cI a r.2.2 ++ l_out cJ o ((vp_updL g 0 r.2.1.toInt64))) (wc := mwld cI cZ b) (τ := τ1) (τ' := τ1) (σ' := (r.2.2, τ1, (vp_updL g 0 r.2.1.toInt64))) X 0 8 (mw_o cI cZ b τ1) rfl rfl (c_X8_thrown l D cI cZ cJ b F (r := τ1 18 7) rfl) (cwV 0 X.2.2.2.2.1 gL_law_X8_thrown rfl rfl rfl (by decide +kernel) ⟨Nat.le_of_ble_eq_true rfl, Nat.le_of_ble_eq_true rfl⟩) rfl hl rfl (Nat.le_of_ble_eq_true rfl) hkn dL_law_1004 rfl rfl ?_
    refine x_iload X dL_law_1007 hl 1 rfl ?_
    refine x_icmp_eq (tgt := 1014) X dL_law_1009 rfl (fun _ => ?_) (fun h9 => absurd ht h9)
    refine x_iload X dL_law_1014 hl 1 rfl ?_
    refine x_if_ne (tgt := 1031) X dL_law_1016 rfl (fun h9 => absurd (by decide : ((0 : Int32)) = 0) h9) (fun _ => ?_)
    refine x_aload_n X dL_law_1019 rfl hl 5 rfl ?_
    refine x_iconst X dL_law_1020 xk_iconst_0 ?_
    refine x_lald X 70 2 (lw_o cI cZ cJ a b o (r.2.2, τ1, (vp_updL g 0 r.2.1.toInt64))) rfl (x_in_of (by decide)) dL_law_1021 ?_
    refine x_iload X dL_law_1022 hl 0 rfl ?_
    refine x_i2l X dL_law_1024 ?_
    refine x_lcmp X dL_law_1025 ?_
    refine x_if_eq (tgt := 1031) X dL_law_1026 rfl (fun _ => ?_) (fun h9 => absurd ((lg_cmp_eq _ _).mpr (by show r.2.1.toInt64 = bb.toInt64; rw [hbb])) h9)
    refine x_goto (tgt := 1060) X dL_law_1031 rfl ?_
    exact KK _ (lv_sub hl [2, 3, 4, 5, 6] rfl)
  · have KK := kk g
    refine x_aload_n X dL_law_978 rfl hl 1 rfl ?_
    refine x_aload_n X dL_law_979 rfl hl 0 rfl ?_
    refine x_iload X dL_law_980 hl 4 rfl ?_
    refine x_iconst X dL_law_982 xk_iconst_1 ?_
    refine x_iadd X dL_law_983 ?_
    refine x_sld X hX hsb hbA h1 dL_law_984 ?_
    refine x_aload_n X dL_law_985 rfl hl 3 rfl ?_
    refine f_cw (w1 := mwld cI cZ b τ) (w2 := []) (wc := wwld cI cJ a o) (τ := (σ, g)) (τ' := (r.2.2, g)) (σ' := (r.2.2, τ, g)) X LX (c_L_wants l hst D cI cZ cJ a o F σ g (xs (i + (1 : Int32)).toNatClampNeg) hf 1 (r.2.2, g) (Or.inr ⟨h0, rfl, rfl⟩)) (vx_cwSW 3 X.2.2.2.2.1 gL_law_L_wants rfl rfl rfl (by decide +kernel) ⟨Nat.le_of_ble_eq_true rfl, Nat.le_of_ble_eq_true rfl⟩) rfl hl rfl (Nat.le_of_ble_eq_true rfl) hkn dL_law_986 rfl rfl ?_
    refine x_istoreA (lv' := [(5, .int (1 : Int32)), (0, .ref sb), (1, .ref (a 0)), (2, .ref (b 0)), (3, .ref o), (4, .int i)]) X dL_law_989 hl (by decide) rfl (fun ls hl => ?_)
    refine x_aload_n X dL_law_991 rfl hl 3 rfl ?_
    refine x_aload_n X dL_law_992 rfl hl 1 rfl ?_
    refine x_iload X dL_law_993 hl 5 rfl ?_
    refine x_iconst X dL_law_995 xk_iconst_1 ?_
    refine x_iadd X dL_law_996 ?_
    refine x_sld X hX hsb hbA h1 dL_law_997 ?_
    refine f_cV (w1 := []) (w2 := cwld cI a r.2.2 ++ l_out cJ o (g)) (wc := mwld cI cZ b) (τ := τ) (τ' := τ1) (σ' := (r.2.2, τ1, g)) X 0 8 (mw_o cI cZ b τ) rfl rfl (c_X8_wants l D cI cZ cJ b F hm) (cwV 1 X.2.2.2.2.1 gL_law_X8_wants rfl rfl rfl (by decide +kernel) ⟨Nat.le_of_ble_eq_true rfl, Nat.le_of_ble_eq_true rfl⟩) rfl hl rfl (Nat.le_of_ble_eq_true rfl) hkn dL_law_998 rfl rfl ?_
    refine x_istoreA (lv' := [(6, .int bb), (5, .int (1 : Int32)), (0, .ref sb), (1, .ref (a 0)), (2, .ref (b 0)), (3, .ref o), (4, .int i)]) X dL_law_1001 hl (by decide) rfl (fun ls hl => ?_)
    refine x_aload_n X dL_law_1003 rfl hl 4 rfl ?_
    refine f_cV (w1 := []) (w2 := cwld cI a r.2.2 ++ l_out cJ o (g)) (wc := mwld cI cZ b) (τ := τ1) (τ' := τ1) (σ' := (r.2.2, τ1, g)) X 0 8 (mw_o cI cZ b τ1) rfl rfl (c_X8_thrown l D cI cZ cJ b F (r := τ1 18 7) rfl) (cwV 0 X.2.2.2.2.1 gL_law_X8_thrown rfl rfl rfl (by decide +kernel) ⟨Nat.le_of_ble_eq_true rfl, Nat.le_of_ble_eq_true rfl⟩) rfl hl rfl (Nat.le_of_ble_eq_true rfl) hkn dL_law_1004 rfl rfl ?_
    refine x_iload X dL_law_1007 hl 1 rfl ?_
    refine x_icmp_eq (tgt := 1014) X dL_law_1009 rfl (fun _ => ?_) (fun h9 => absurd ht h9)
    refine x_iload X dL_law_1014 hl 1 rfl ?_
    refine x_if_ne (tgt := 1031) X dL_law_1016 rfl (fun _ => ?_) (fun h9 => absurd h9 (by decide : ¬ ((1 : Int32)) = 0))
    refine x_goto (tgt := 1060) X dL_law_1031 rfl ?_
    exact KK _ (lv_sub hl [2, 3, 4, 5, 6] rfl)
set_option maxHeartbeats 4000000 in
set_option maxRecDepth 100000 in
theorem l_circle {p : Program} {l : Launch} {e : Env} {s : State} {m : MethodId} {args : Array Value} {below : List Frame} {meth : Method} {c : Code} {k n : Nat} {Q : State → Prop} {D : va_G} {A : Nat → Prop} {cI cZ cJ : ClassId} {a b : Nat → Nat} {o sb L : Nat} {xs : Nat → Int32} (X : x_X p s m args meth c cL_law 7 (some .boolean) RL wsL_law D (x_tys cI cZ cJ) A) (hX : va_X sb L xs s s.heap) (hsb : sb < s.heap.size) (hbA : ¬ A sb) (F : Nat) {σ τ σ1 τ1 : CS} {g : Nat → Int64} {i v : Int32} (hf : r_X7_circle F σ = some (v, σ1)) (hm : r_X8_circle F τ = some (v, τ1)) (hkn : k ≤ 1110 ∧ n ≤ 36308) (kk : ∀ ls : Array Slot, lv_has ls 7 [(0, .ref sb), (1, .ref (a 0)), (2, .ref (b 0)), (3, .ref o), (4, .int i)] → x_W p l e room_1 s m args below meth c A D (lwld cI cZ cJ a b o) k n Q (σ1, τ1, g) (F0 m 1060 ls [])) : ∀ ls : Array Slot, lv_has ls 7 [(0, .ref sb), (1, .ref (a 0)), (2, .ref (b 0)), (3, .ref o), (4, .int i)] → x_W p l e room_1 s m args below meth c A D (lwld cI cZ cJ a b o) k n Q (σ, τ, g) (F0 m 1034 ls []) := by
  intro ls hl
  have KK := kk
  refine x_aload_n X dL_law_1034 rfl hl 1 rfl ?_
  refine f_cV (w1 := mwld cI cZ b τ) (w2 := l_out cJ o g) (wc := cwld cI a) (τ := σ) (τ' := σ1) (σ' := (σ1, τ, g)) X 0 7 (cw_o0 cI a σ) rfl rfl (c_X7_circle l D cI cZ cJ a F hf) (cwV 0 X.2.2.2.2.1 gL_law_X7_circle rfl rfl rfl (by decide +kernel) ⟨Nat.le_of_ble_eq_true rfl, Nat.le_of_ble_eq_true rfl⟩) rfl hl rfl (Nat.le_of_ble_eq_true rfl) hkn dL_law_1035 rfl rfl ?_
  refine x_aload_n X dL_law_1038 rfl hl 2 rfl ?_
  refine f_cV (w1 := []) (w2 := cwld cI a σ1 ++ l_out cJ o g) (wc := mwld cI cZ b) (τ := τ) (τ' := τ1) (σ' := (σ1, τ1, g)) X 0 8 (mw_o cI cZ b τ) rfl rfl (c_X8_circle l D cI cZ cJ b F hm) (cwV 0 X.2.2.2.2.1 gL_law_X8_circle rfl rfl rfl (by decide +kernel) ⟨Nat.le_of_ble_eq_true rfl, Nat.le_of_ble_eq_true rfl⟩) rfl hl rfl (Nat.le_of_ble_eq_true rfl) hkn dL_law_1039 rfl rfl ?_
  refine x_icmp_eq (tgt := 1060) X dL_law_1042 rfl (fun _ => ?_) (fun h9 => absurd rfl h9)
  exact KK _ (lv_sub hl [0, 1, 2, 3, 4] rfl)
set_option maxHeartbeats 4000000 in
set_option maxRecDepth 100000 in
theorem l_mayCircle {p : Program} {l : Launch} {e : Env} {s : State} {m : MethodId} {args : Array Value} {below : List Frame} {meth : Method} {c : Code} {k n : Nat} {Q : State → Prop} {D : va_G} {A : Nat → Prop} {cI cZ cJ : ClassId} {a b : Nat → Nat} {o sb L : Nat} {xs : Nat → Int32} (X : x_X p s m args meth c cL_law 7 (some .boolean) RL wsL_law D (x_tys cI cZ cJ) A) (hX : va_X sb L xs s s.heap) (hsb : sb < s.heap.size) (hbA : ¬ A sb) (F : Nat) {σ τ σ1 τ1 : CS} {g : Nat → Int64} {i v : Int32} (hf : r_X7_mayCircle F σ = some (v, σ1)) (hm : r_X8_mayCircle F τ = some (v, τ1)) (hkn : k ≤ 1110 ∧ n ≤ 36308) (kk : ∀ ls : Array Slot, lv_has ls 7 [(0, .ref sb), (1, .ref (a 0)), (2, .ref (b 0)), (3, .ref o), (4, .int i)] → x_W p l e room_1 s m args below meth c A D (lwld cI cZ cJ a b o) k n Q (σ1, τ1, g) (F0 m 1060 ls [])) : ∀ ls : Array Slot, lv_has ls 7 [(0, .ref sb), (1, .ref (a 0)), (2, .ref (b 0)), (3, .ref o), (4, .int i)] → x_W p l e room_1 s m args below meth c A D (lwld cI cZ cJ a b o) k n Q (σ, τ, g) (F0 m 1047 ls []) := by
  intro ls hl
  have KK := kk
  refine x_aload_n X dL_law_1047 rfl hl 1 rfl ?_
  refine f_cV (w1 := mwld cI cZ b τ) (w2 := l_out cJ o g) (wc := cwld cI a) (τ := σ) (τ' := σ1) (σ' := (σ1, τ, g)) X 0 7 (cw_o0 cI a σ) rfl rfl (c_X7_mayCircle l D cI cZ cJ a F hf) (cwV 0 X.2.2.2.2.1 gL_law_X7_mayCircle rfl rfl rfl (by decide +kernel) ⟨Nat.le_of_ble_eq_true rfl, Nat.le_of_ble_eq_true rfl⟩) rfl hl rfl (Nat.le_of_ble_eq_true rfl) hkn dL_law_1048 rfl rfl ?_
  refine x_aload_n X dL_law_1051 rfl hl 2 rfl ?_
  refine f_cV (w1 := []) (w2 := cwld cI a σ1 ++ l_out cJ o g) (wc := mwld cI cZ b) (τ := τ) (τ' := τ1) (σ' := (σ1, τ1, g)) X 0 8 (mw_o cI cZ b τ) rfl rfl (c_X8_mayCircle l D cI cZ cJ b F hm) (cwV 0 X.2.2.2.2.1 gL_law_X8_mayCircle rfl rfl rfl (by decide +kernel) ⟨Nat.le_of_ble_eq_true rfl, Nat.le_of_ble_eq_true rfl⟩) rfl hl rfl (Nat.le_of_ble_eq_true rfl) hkn dL_law_1052 rfl rfl ?_
  refine x_icmp_eq (tgt := 1060) X dL_law_1055 rfl (fun _ => ?_) (fun h9 => absurd rfl h9)
  exact KK _ (lv_sub hl [0, 1, 2, 3, 4] rfl)
