def l_S_begin (F : Nat) (J : Nat → CS → CS → Prop) (t : Nat) (σ τ : CS) : Prop := ∀ p1 p2 p3 p4 : Int32, ∃ (r : XR) (bb : Int32) (τ1 : CS), r_X7_begin F p1 p2 p3 p4 σ = some r ∧ r_X8_begin F p1 p2 p3 p4 τ = some (bb, τ1) ∧ ((r.1 = 0 ∧ τ1 18 7 = 0 ∧ r.2.1 = bb) ∨ (r.1 = 2 ∧ τ1 18 7 = 1)) ∧ J (t + 1) r.2.2 τ1
def l_S_send (F : Nat) (J : Nat → CS → CS → Prop) (t : Nat) (σ τ : CS) : Prop := ∀ p1 p2 p3 p4 : Int32, ∃ (r : XR) (bb : Int32) (τ1 : CS), r_X7_send F p1 p2 p3 p4 σ = some r ∧ r_X8_send F p1 p2 p3 p4 τ = some (bb, τ1) ∧ ((r.1 = 0 ∧ τ1 18 7 = 0 ∧ r.2.1 = bb) ∨ (r.1 = 1 ∧ τ1 18 7 = 1) ∨ (r.1 = 2 ∧ τ1 18 7 = 2) ∨ (r.1 = 3 ∧ τ1 18 7 = 3)) ∧ J (t + 1) r.2.2 τ1
def l_S_run (F : Nat) (J : Nat → CS → CS → Prop) (t : Nat) (σ τ : CS) : Prop := ∀ p1 : Int32, ∃ (r : XR) (bb : Int32) (τ1 : CS), r_X7_run F p1 σ = some r ∧ r_X8_run F p1 τ = some (bb, τ1) ∧ ((r.1 = 0 ∧ τ1 18 7 = 0 ∧ r.2.1 = bb) ∨ (r.1 = 2 ∧ τ1 18 7 = 1)) ∧ J (t + 1) r.2.2 τ1
def l_S_pause (F : Nat) (J : Nat → CS → CS → Prop) (t : Nat) (σ τ : CS) : Prop := ∀ p1 p2 : Int32, (p2 = 0 ∨ p2 = 1) → ∃ (r : XR) (bb : Int32) (τ1 : CS), r_X7_pause F p1 p2 σ = some r ∧ r_X8_pause F p1 p2 τ = some (bb, τ1) ∧ ((r.1 = 0 ∧ τ1 18 7 = 0 ∧ r.2.1 = bb) ∨ (r.1 = 1 ∧ τ1 18 7 = 1)) ∧ J (t + 1) r.2.2 τ1
def l_S_lose (F : Nat) (J : Nat → CS → CS → Prop) (t : Nat) (σ τ : CS) : Prop := ∀ p1 p2 p3 : Int32, ∃ (r : XR) (bb : Int32) (τ1 : CS), r_X7_lose F p1 p2 p3 σ = some r ∧ r_X8_lose F p1 p2 p3 τ = some (bb, τ1) ∧ ((r.1 = 0 ∧ τ1 18 7 = 0 ∧ r.2.1 = bb) ∨ (r.1 = 1 ∧ τ1 18 7 = 1) ∨ (r.1 = 2 ∧ τ1 18 7 = 2) ∨ (r.1 = 3 ∧ τ1 18 7 = 3)) ∧ J (t + 1) r.2.2 τ1
def l_S_recover (F : Nat) (J : Nat → CS → CS → Prop) (t : Nat) (σ τ : CS) : Prop := ∃ (v : Int32) (σ1 τ1 : CS), r_X7_recover F σ = some (v, σ1) ∧ r_X8_recover F τ = some (v, τ1) ∧ J (t + 1) σ1 τ1
def l_S_tick (F : Nat) (J : Nat → CS → CS → Prop) (t : Nat) (σ τ : CS) : Prop := ∃ (v : Int32) (σ1 τ1 : CS), r_X7_tick F σ = some (v, σ1) ∧ r_X8_tick F τ = some (v, τ1) ∧ J (t + 1) σ1 τ1
def l_S_packets (F : Nat) (J : Nat → CS → CS → Prop) (t : Nat) (σ τ : CS) : Prop := ∃ (v : Int32) (σ1 τ1 : CS), r_X7_packets F σ = some (v, σ1) ∧ r_X8_packets F τ = some (v, τ1) ∧ J (t + 1) σ1 τ1
def l_S_arrived (F : Nat) (J : Nat → CS → CS → Prop) (t : Nat) (σ τ : CS) : Prop := ∃ (v : Int32) (σ1 τ1 : CS), r_X7_arrived F σ = some (v, σ1) ∧ r_X8_arrived F τ = some (v, τ1) ∧ J (t + 1) σ1 τ1
def l_S_credits (F : Nat) (J : Nat → CS → CS → Prop) (t : Nat) (σ τ : CS) : Prop := ∀ p1 p2 p3 : Int32, ∃ (r : XR) (bb : Int32) (τ1 : CS), r_X7_credits F p1 p2 p3 σ = some r ∧ r_X8_credits F p1 p2 p3 τ = some (bb, τ1) ∧ ((r.1 = 0 ∧ τ1 18 7 = 0 ∧ r.2.1 = bb) ∨ (r.1 = 1 ∧ τ1 18 7 = 1) ∨ (r.1 = 2 ∧ τ1 18 7 = 2)) ∧ J (t + 1) r.2.2 τ1
def l_S_inBuffer (F : Nat) (J : Nat → CS → CS → Prop) (t : Nat) (σ τ : CS) : Prop := ∀ p1 p2 p3 : Int32, ∃ (r : XR) (bb : Int32) (τ1 : CS), r_X7_inBuffer F p1 p2 p3 σ = some r ∧ r_X8_inBuffer F p1 p2 p3 τ = some (bb, τ1) ∧ ((r.1 = 0 ∧ τ1 18 7 = 0 ∧ r.2.1 = bb) ∨ (r.1 = 1 ∧ τ1 18 7 = 1) ∨ (r.1 = 2 ∧ τ1 18 7 = 2)) ∧ J (t + 1) r.2.2 τ1
def l_S_gap (F : Nat) (J : Nat → CS → CS → Prop) (t : Nat) (σ τ : CS) : Prop := ∀ p1 : Int32, ∃ (r : XR) (bb : Int32) (τ1 : CS), r_X7_gap F p1 σ = some r ∧ r_X8_gap F p1 τ = some (bb, τ1) ∧ ((r.1 = 0 ∧ τ1 18 7 = 0 ∧ r.2.1 = bb) ∨ (r.1 = 1 ∧ τ1 18 7 = 1)) ∧ J (t + 1) r.2.2 τ1
def l_S_placeOf (F : Nat) (J : Nat → CS → CS → Prop) (t : Nat) (σ τ : CS) : Prop := ∀ p1 : Int32, ∃ (r : XR) (bb : Int32) (τ1 : CS), r_X7_placeOf F p1 σ = some r ∧ r_X8_placeOf F p1 τ = some (bb, τ1) ∧ ((r.1 = 0 ∧ τ1 18 7 = 0 ∧ r.2.1 = bb) ∨ (r.1 = 1 ∧ τ1 18 7 = 1)) ∧ J (t + 1) r.2.2 τ1
def l_S_hops (F : Nat) (J : Nat → CS → CS → Prop) (t : Nat) (σ τ : CS) : Prop := ∀ p1 : Int32, ∃ (r : XR) (bb : Int32) (τ1 : CS), r_X7_hops F p1 σ = some r ∧ r_X8_hops F p1 τ = some (bb, τ1) ∧ ((r.1 = 0 ∧ τ1 18 7 = 0 ∧ r.2.1 = bb) ∨ (r.1 = 1 ∧ τ1 18 7 = 1)) ∧ J (t + 1) r.2.2 τ1
def l_S_isMarked (F : Nat) (J : Nat → CS → CS → Prop) (t : Nat) (σ τ : CS) : Prop := ∀ p1 : Int32, ∃ (r : XR) (bb : Int32) (τ1 : CS), r_X7_isMarked F p1 σ = some r ∧ r_X8_isMarked F p1 τ = some (bb, τ1) ∧ ((r.1 = 0 ∧ τ1 18 7 = 0 ∧ r.2.1 = bb) ∨ (r.1 = 1 ∧ τ1 18 7 = 1)) ∧ J (t + 1) r.2.2 τ1
def l_S_wants (F : Nat) (J : Nat → CS → CS → Prop) (t : Nat) (σ τ : CS) : Prop := ∀ p1 : Int32, ∃ (r : XR) (bb : Int32) (τ1 : CS), r_X7_wants F p1 σ = some r ∧ r_X8_wants F p1 τ = some (bb, τ1) ∧ ((r.1 = 0 ∧ τ1 18 7 = 0 ∧ r.2.1 = bb) ∨ (r.1 = 1 ∧ τ1 18 7 = 1)) ∧ J (t + 1) r.2.2 τ1
def l_S_circle (F : Nat) (J : Nat → CS → CS → Prop) (t : Nat) (σ τ : CS) : Prop := ∃ (v : Int32) (σ1 τ1 : CS), r_X7_circle F σ = some (v, σ1) ∧ r_X8_circle F τ = some (v, τ1) ∧ J (t + 1) σ1 τ1
def l_S_mayCircle (F : Nat) (J : Nat → CS → CS → Prop) (t : Nat) (σ τ : CS) : Prop := ∃ (v : Int32) (σ1 τ1 : CS), r_X7_mayCircle F σ = some (v, σ1) ∧ r_X8_mayCircle F τ = some (v, τ1) ∧ J (t + 1) σ1 τ1
def l_SIM (F : Nat) (J : Nat → CS → CS → Prop) : Prop := ∀ (t : Nat) (σ τ : CS), t < 512 → J t σ τ → l_S_begin F J t σ τ ∧ l_S_send F J t σ τ ∧ l_S_run F J t σ τ ∧ l_S_pause F J t σ τ ∧ l_S_lose F J t σ τ ∧ l_S_recover F J t σ τ ∧ l_S_tick F J t σ τ ∧ l_S_packets F J t σ τ ∧ l_S_arrived F J t σ τ ∧ l_S_credits F J t σ τ ∧ l_S_inBuffer F J t σ τ ∧ l_S_gap F J t σ τ ∧ l_S_placeOf F J t σ τ ∧ l_S_hops F J t σ τ ∧ l_S_isMarked F J t σ τ ∧ l_S_wants F J t σ τ ∧ l_S_circle F J t σ τ ∧ l_S_mayCircle F J t σ τ ∧ J (t + 1) σ τ
def l_INIT (F : Nat) (J : Nat → CS → CS → Prop) : Prop := ∃ (v1 : Int32) (s1 : CS) (v2 : Int32) (s2 : CS), r_X7_layAnew F (2 : Int32) (2 : Int32) (1 : Int32) (0 : Int32) (fun _ _ => 0) = some (v1, s1) ∧ r_X8_begins F (2 : Int32) (2 : Int32) (1 : Int32) (0 : Int32) y_m0 = some (v2, s2) ∧ J 0 s1 s2
theorem x_out18 {x : Int32} (h0 : ¬ x = (0 : Int32)) (h1 : ¬ x = (1 : Int32)) (h2 : ¬ x = (2 : Int32)) (h3 : ¬ x = (3 : Int32)) (h4 : ¬ x = (4 : Int32)) (h5 : ¬ x = (5 : Int32)) (h6 : ¬ x = (6 : Int32)) (h7 : ¬ x = (7 : Int32)) (h8 : ¬ x = (8 : Int32)) (h9 : ¬ x = (9 : Int32)) (h10 : ¬ x = (10 : Int32)) (h11 : ¬ x = (11 : Int32)) (h12 : ¬ x = (12 : Int32)) (h13 : ¬ x = (13 : Int32)) (h14 : ¬ x = (14 : Int32)) (h15 : ¬ x = (15 : Int32)) (h16 : ¬ x = (16 : Int32)) (h17 : ¬ x = (17 : Int32)) : x.toInt < 0 ∨ 17 < x.toInt := by
  have e : ∀ v : Int32, ¬ x = v → x.toInt ≠ v.toInt := fun v h q => h (Int32.toInt_inj.mp q)
  have a0 : x.toInt ≠ 0 := e 0 h0
  have a1 : x.toInt ≠ 1 := e 1 h1
  have a2 : x.toInt ≠ 2 := e 2 h2
  have a3 : x.toInt ≠ 3 := e 3 h3
  have a4 : x.toInt ≠ 4 := e 4 h4
  have a5 : x.toInt ≠ 5 := e 5 h5
  have a6 : x.toInt ≠ 6 := e 6 h6
  have a7 : x.toInt ≠ 7 := e 7 h7
  have a8 : x.toInt ≠ 8 := e 8 h8
  have a9 : x.toInt ≠ 9 := e 9 h9
  have a10 : x.toInt ≠ 10 := e 10 h10
  have a11 : x.toInt ≠ 11 := e 11 h11
  have a12 : x.toInt ≠ 12 := e 12 h12
  have a13 : x.toInt ≠ 13 := e 13 h13
  have a14 : x.toInt ≠ 14 := e 14 h14
  have a15 : x.toInt ≠ 15 := e 15 h15
  have a16 : x.toInt ≠ 16 := e 16 h16
  have a17 : x.toInt ≠ 17 := e 17 h17
  omega
set_option maxHeartbeats 4000000 in
set_option maxRecDepth 100000 in
theorem law_loop {p : Program} {l : Launch} {e : Env} {s : State} {m : MethodId} {below : List Frame} {meth : Method} {c : Code} {D : va_G} {cI cZ cJ : ClassId} {a b : Nat → Nat} {o sb L : Nat} {xs : Nat → Int32} (X : x_X p s m #[Value.ref sb] meth c cL_law 7 (some .boolean) RL wsL_law D (x_tys cI cZ cJ) (fun q => s.heap.size ≤ q)) (hX : va_X sb L xs s s.heap) (hsb : sb < s.heap.size) (LX : x_S s ∧ x_Z (fun q => s.heap.size ≤ q) s s.heap ∧ x_N s) (hst : l.stackTraces = false) (hr : meth.sig.returnType = ret) (hL : L ≤ 2560) (F : Nat) (J : Nat → CS → CS → Prop) (hsim : l_SIM F J) : ∀ (n t : Nat) (σ τ : CS) (g : Nat → Int64), J t σ τ → 5 * t ≤ L → L + 1 ≤ 5 * t + n → ∀ ls : Array Slot, lv_has ls 7 [(0, .ref sb), (1, .ref (a 0)), (2, .ref (b 0)), (3, .ref o), (4, .int (nI (5 * t)))] → x_W p l e room_1 s m #[Value.ref sb] below meth c (fun q => s.heap.size ≤ q) D (lwld cI cZ cJ a b o) (71 + t) (30671 + 6 * t) (lw_Z below #[Value.ref sb] s) (σ, τ, g) (F0 m 23 ls []) := by
  have hbA : ¬ (fun q : Nat => s.heap.size ≤ q) sb := Nat.not_le.mpr hsb
  intro n
  induction n with
  | zero =>
    intro t σ τ g hJ h5 hn
    exact absurd hn (by omega)
  | succ n ih =>
    intro t σ τ g hJ h5 hn ls hl
    have e5 : nI L - (5 : Int32) = nI L - nI 5 := rfl
    refine x_iload X dL_law_23 hl 4 rfl ?_
    refine x_aload_n X dL_law_25 rfl hl 0 rfl ?_
    refine x_slen X hX hsb hbA dL_law_26 ?_
    refine x_iconst X dL_law_27 xk_iconst_5 ?_
    refine x_isub X dL_law_28 ?_
    refine x_icmp_gt (tgt := 1066) X dL_law_29 rfl (fun q => ?_) (fun q => ?_)
    · refine x_iconst X dL_law_1066 xk_iconst_1 ?_
      intro H locs hP hD hS
      refine va_forget (fun q hq => hS.2.2 q hq) ?_
      refine W.widen (k := 1110) (n := 36308) (by omega) (by omega) ?_
      exact lw_ret X.1 X.2.1 hr X.2.2.2.2.2.2.2.2 dL_law_1067
    · have hle : 5 * t + 5 ≤ L := by
        rw [e5, Int32.lt_iff_toInt_lt, pk_sub_toInt (by omega) (by omega), nI_toInt (by omega)] at q
        omega
      have h1 : vp_in (nI (5 * t) + (1 : Int32)) L := by
        rw [show nI (5 * t) + (1 : Int32) = nI (5 * t + 1) from nI_add (5 * t) 1]
        exact vp_in_nI (by omega) (by omega)
      have h2 : vp_in (nI (5 * t) + (2 : Int32)) L := by
        rw [show nI (5 * t) + (2 : Int32) = nI (5 * t + 2) from nI_add (5 * t) 2]
        exact vp_in_nI (by omega) (by omega)
      have h3 : vp_in (nI (5 * t) + (3 : Int32)) L := by
        rw [show nI (5 * t) + (3 : Int32) = nI (5 * t + 3) from nI_add (5 * t) 3]
        exact vp_in_nI (by omega) (by omega)
      have h4 : vp_in (nI (5 * t) + (4 : Int32)) L := by
        rw [show nI (5 * t) + (4 : Int32) = nI (5 * t + 4) from nI_add (5 * t) 4]
        exact vp_in_nI (by omega) (by omega)
      have h0 : vp_in (nI (5 * t)) L := vp_in_nI (by omega) (by omega)
      have hc : 71 + t + 1 ≤ 1110 ∧ 30671 + 6 * t + 6 ≤ 36308 := ⟨by omega, by omega⟩
      have hc0 : 71 + t ≤ 1110 ∧ 30671 + 6 * t ≤ 36308 := ⟨by omega, by omega⟩
      have next : ∀ (σ τ : CS) (g : Nat → Int64), J (t + 1) σ τ → ∀ ls : Array Slot, lv_has ls 7 [(0, .ref sb), (1, .ref (a 0)), (2, .ref (b 0)), (3, .ref o), (4, .int (nI (5 * t)))] → x_W p l e room_1 s m #[Value.ref sb] below meth c (fun q => s.heap.size ≤ q) D (lwld cI cZ cJ a b o) (71 + t + 1) (30671 + 6 * t + 6) (lw_Z below #[Value.ref sb] s) (σ, τ, g) (F0 m 1060 ls []) := by
        intro σ τ g hJ1 ls hl
        refine x_iinc (v := nI (5 * (t + 1))) (lv' := [(4, .int (nI (5 * (t + 1)))), (0, .ref sb), (1, .ref (a 0)), (2, .ref (b 0)), (3, .ref o)]) X dL_law_1060 hl (j := 4) rfl (by rw [show (5 : Nat) * (t + 1) = 5 * t + 5 from rfl]; exact nI_add (5 * t) 5) (by decide) rfl (fun ls hl => ?_)
        refine x_goto (tgt := 23) X dL_law_1063 rfl ?_
        exact x_widen (by omega) (by omega) (ih (t + 1) σ τ g hJ1 (by omega) (by omega) ls (lv_sub hl [1, 2, 3, 4, 0] rfl))
      refine x_aload_n X dL_law_32 rfl hl 0 rfl ?_
      refine x_iload X dL_law_33 hl 4 rfl ?_
      refine x_sld X hX hsb hbA h0 dL_law_35 ?_
      refine x_bipush X dL_law_36 xk_bipush_31 ?_
      refine x_iand X dL_law_38 ?_
      obtain ⟨hs0, hs1, hs2, hs3, hs4, hs5, hs6, hs7, hs8, hs9, hs10, hs11, hs12, hs13, hs14, hs15, hs16, hs17, hlast⟩ := hsim t σ τ (by omega) hJ
      by_cases q0 : (xs (nI (5 * t)).toNatClampNeg &&& (31 : Int32)) = (0 : Int32)
      · refine x_tabIn (tgt := 124) X q0 dL_law_39 (by decide) (by decide) rfl rfl ?_
        obtain ⟨r, bb, τ1, hf, hm, hk, hJ1⟩ := hs0 (xs (nI (5 * t) + (1 : Int32)).toNatClampNeg) (xs (nI (5 * t) + (2 : Int32)).toNatClampNeg) (xs (nI (5 * t) + (3 : Int32)).toNatClampNeg) (xs (nI (5 * t) + (4 : Int32)).toNatClampNeg)
        exact l_begin X hX hsb hbA LX hst F h1 h2 h3 h4 hf hm rfl hk hc (fun g ls hl => next _ _ g hJ1 ls hl) ls hl
      by_cases q1 : (xs (nI (5 * t)).toNatClampNeg &&& (31 : Int32)) = (1 : Int32)
      · refine x_tabIn (tgt := 216) X q1 dL_law_39 (by decide) (by decide) rfl rfl ?_
        obtain ⟨r, bb, τ1, hf, hm, hk, hJ1⟩ := hs1 (xs (nI (5 * t) + (1 : Int32)).toNatClampNeg) (xs (nI (5 * t) + (2 : Int32)).toNatClampNeg) (xs (nI (5 * t) + (3 : Int32)).toNatClampNeg) (xs (nI (5 * t) + (4 : Int32)).toNatClampNeg)
        exact l_send X hX hsb hbA LX hst F h1 h2 h3 h4 hf hm rfl hk hc (fun g ls hl => next _ _ g hJ1 ls hl) ls hl
      by_cases q2 : (xs (nI (5 * t)).toNatClampNeg &&& (31 : Int32)) = (2 : Int32)
      · refine x_tabIn (tgt := 308) X q2 dL_law_39 (by decide) (by decide) rfl rfl ?_
        obtain ⟨r, bb, τ1, hf, hm, hk, hJ1⟩ := hs2 (xs (nI (5 * t) + (1 : Int32)).toNatClampNeg)
        exact l_run X hX hsb hbA LX hst F h1 hf hm rfl hk hc (fun g ls hl => next _ _ g hJ1 ls hl) ls hl
      by_cases q3 : (xs (nI (5 * t)).toNatClampNeg &&& (31 : Int32)) = (3 : Int32)
      · refine x_tabIn (tgt := 364) X q3 dL_law_39 (by decide) (by decide) rfl rfl ?_
        by_cases qb : (xs (nI (5 * t) + (2 : Int32)).toNatClampNeg) = 0
        · obtain ⟨r, bb, τ1, hf, hm, hk, hJ1⟩ := hs3 (xs (nI (5 * t) + (1 : Int32)).toNatClampNeg) 0 (Or.inl rfl)
          exact l_pause X hX hsb hbA LX hst F h1 h2 (Or.inl ⟨qb, rfl⟩) hf hm rfl hk hc (fun g ls hl => next _ _ g hJ1 ls hl) ls hl
        · obtain ⟨r, bb, τ1, hf, hm, hk, hJ1⟩ := hs3 (xs (nI (5 * t) + (1 : Int32)).toNatClampNeg) 1 (Or.inr rfl)
          exact l_pause X hX hsb hbA LX hst F h1 h2 (Or.inr ⟨qb, rfl⟩) hf hm rfl hk hc (fun g ls hl => next _ _ g hJ1 ls hl) ls hl
      by_cases q4 : (xs (nI (5 * t)).toNatClampNeg &&& (31 : Int32)) = (4 : Int32)
      · refine x_tabIn (tgt := 455) X q4 dL_law_39 (by decide) (by decide) rfl rfl ?_
        obtain ⟨r, bb, τ1, hf, hm, hk, hJ1⟩ := hs4 (xs (nI (5 * t) + (1 : Int32)).toNatClampNeg) (xs (nI (5 * t) + (2 : Int32)).toNatClampNeg) (xs (nI (5 * t) + (3 : Int32)).toNatClampNeg)
        exact l_lose X hX hsb hbA LX hst F h1 h2 h3 hf hm rfl hk hc (fun g ls hl => next _ _ g hJ1 ls hl) ls hl
      by_cases q5 : (xs (nI (5 * t)).toNatClampNeg &&& (31 : Int32)) = (5 : Int32)
      · refine x_tabIn (tgt := 535) X q5 dL_law_39 (by decide) (by decide) rfl rfl ?_
        obtain ⟨v, σ1, τ1, hf, hm, hJ1⟩ := hs5
        exact l_recover X hX hsb hbA F hf hm hc0 (fun ls hl => x_widen (by omega) (by omega) (next _ _ g hJ1 ls hl)) ls hl
      by_cases q6 : (xs (nI (5 * t)).toNatClampNeg &&& (31 : Int32)) = (6 : Int32)
      · refine x_tabIn (tgt := 548) X q6 dL_law_39 (by decide) (by decide) rfl rfl ?_
        obtain ⟨v, σ1, τ1, hf, hm, hJ1⟩ := hs6
        exact l_tick X hX hsb hbA F hf hm hc0 (fun ls hl => x_widen (by omega) (by omega) (next _ _ g hJ1 ls hl)) ls hl
      by_cases q7 : (xs (nI (5 * t)).toNatClampNeg &&& (31 : Int32)) = (7 : Int32)
      · refine x_tabIn (tgt := 561) X q7 dL_law_39 (by decide) (by decide) rfl rfl ?_
        obtain ⟨v, σ1, τ1, hf, hm, hJ1⟩ := hs7
        exact l_packets X hX hsb hbA F hf hm hc0 (fun ls hl => x_widen (by omega) (by omega) (next _ _ g hJ1 ls hl)) ls hl
      by_cases q8 : (xs (nI (5 * t)).toNatClampNeg &&& (31 : Int32)) = (8 : Int32)
      · refine x_tabIn (tgt := 574) X q8 dL_law_39 (by decide) (by decide) rfl rfl ?_
        obtain ⟨v, σ1, τ1, hf, hm, hJ1⟩ := hs8
        exact l_arrived X hX hsb hbA F hf hm hc0 (fun ls hl => x_widen (by omega) (by omega) (next _ _ g hJ1 ls hl)) ls hl
      by_cases q9 : (xs (nI (5 * t)).toNatClampNeg &&& (31 : Int32)) = (9 : Int32)
      · refine x_tabIn (tgt := 587) X q9 dL_law_39 (by decide) (by decide) rfl rfl ?_
        obtain ⟨r, bb, τ1, hf, hm, hk, hJ1⟩ := hs9 (xs (nI (5 * t) + (1 : Int32)).toNatClampNeg) (xs (nI (5 * t) + (2 : Int32)).toNatClampNeg) (xs (nI (5 * t) + (3 : Int32)).toNatClampNeg)
        exact l_credits X hX hsb hbA LX hst F h1 h2 h3 hf hm rfl hk hc (fun g ls hl => next _ _ g hJ1 ls hl) ls hl
      by_cases q10 : (xs (nI (5 * t)).toNatClampNeg &&& (31 : Int32)) = (10 : Int32)
      · refine x_tabIn (tgt := 667) X q10 dL_law_39 (by decide) (by decide) rfl rfl ?_
        obtain ⟨r, bb, τ1, hf, hm, hk, hJ1⟩ := hs10 (xs (nI (5 * t) + (1 : Int32)).toNatClampNeg) (xs (nI (5 * t) + (2 : Int32)).toNatClampNeg) (xs (nI (5 * t) + (3 : Int32)).toNatClampNeg)
        exact l_inBuffer X hX hsb hbA LX hst F h1 h2 h3 hf hm rfl hk hc (fun g ls hl => next _ _ g hJ1 ls hl) ls hl
      by_cases q11 : (xs (nI (5 * t)).toNatClampNeg &&& (31 : Int32)) = (11 : Int32)
      · refine x_tabIn (tgt := 747) X q11 dL_law_39 (by decide) (by decide) rfl rfl ?_
        obtain ⟨r, bb, τ1, hf, hm, hk, hJ1⟩ := hs11 (xs (nI (5 * t) + (1 : Int32)).toNatClampNeg)
        exact l_gap X hX hsb hbA LX hst F h1 hf hm rfl hk hc (fun g ls hl => next _ _ g hJ1 ls hl) ls hl
      by_cases q12 : (xs (nI (5 * t)).toNatClampNeg &&& (31 : Int32)) = (12 : Int32)
      · refine x_tabIn (tgt := 803) X q12 dL_law_39 (by decide) (by decide) rfl rfl ?_
        obtain ⟨r, bb, τ1, hf, hm, hk, hJ1⟩ := hs12 (xs (nI (5 * t) + (1 : Int32)).toNatClampNeg)
        exact l_placeOf X hX hsb hbA LX hst F h1 hf hm rfl hk hc (fun g ls hl => next _ _ g hJ1 ls hl) ls hl
      by_cases q13 : (xs (nI (5 * t)).toNatClampNeg &&& (31 : Int32)) = (13 : Int32)
      · refine x_tabIn (tgt := 859) X q13 dL_law_39 (by decide) (by decide) rfl rfl ?_
        obtain ⟨r, bb, τ1, hf, hm, hk, hJ1⟩ := hs13 (xs (nI (5 * t) + (1 : Int32)).toNatClampNeg)
        exact l_hops X hX hsb hbA LX hst F h1 hf hm rfl hk hc (fun g ls hl => next _ _ g hJ1 ls hl) ls hl
      by_cases q14 : (xs (nI (5 * t)).toNatClampNeg &&& (31 : Int32)) = (14 : Int32)
      · refine x_tabIn (tgt := 915) X q14 dL_law_39 (by decide) (by decide) rfl rfl ?_
        obtain ⟨r, bb, τ1, hf, hm, hk, hJ1⟩ := hs14 (xs (nI (5 * t) + (1 : Int32)).toNatClampNeg)
        exact l_isMarked X hX hsb hbA LX hst F h1 hf hm rfl hk hc (fun g ls hl => next _ _ g hJ1 ls hl) ls hl
      by_cases q15 : (xs (nI (5 * t)).toNatClampNeg &&& (31 : Int32)) = (15 : Int32)
      · refine x_tabIn (tgt := 978) X q15 dL_law_39 (by decide) (by decide) rfl rfl ?_
        obtain ⟨r, bb, τ1, hf, hm, hk, hJ1⟩ := hs15 (xs (nI (5 * t) + (1 : Int32)).toNatClampNeg)
        exact l_wants X hX hsb hbA LX hst F h1 hf hm rfl hk hc (fun g ls hl => next _ _ g hJ1 ls hl) ls hl
      by_cases q16 : (xs (nI (5 * t)).toNatClampNeg &&& (31 : Int32)) = (16 : Int32)
      · refine x_tabIn (tgt := 1034) X q16 dL_law_39 (by decide) (by decide) rfl rfl ?_
        obtain ⟨v, σ1, τ1, hf, hm, hJ1⟩ := hs16
        exact l_circle X hX hsb hbA F hf hm hc0 (fun ls hl => x_widen (by omega) (by omega) (next _ _ g hJ1 ls hl)) ls hl
      by_cases q17 : (xs (nI (5 * t)).toNatClampNeg &&& (31 : Int32)) = (17 : Int32)
      · refine x_tabIn (tgt := 1047) X q17 dL_law_39 (by decide) (by decide) rfl rfl ?_
        obtain ⟨v, σ1, τ1, hf, hm, hJ1⟩ := hs17
        exact l_mayCircle X hX hsb hbA F hf hm hc0 (fun ls hl => x_widen (by omega) (by omega) (next _ _ g hJ1 ls hl)) ls hl
      refine x_tabOut (tgt := 1060) X (x_out18 q0 q1 q2 q3 q4 q5 q6 q7 q8 q9 q10 q11 q12 q13 q14 q15 q16 q17) dL_law_39 rfl ?_
      exact x_widen (by omega) (by omega) (next _ _ g hlast ls hl)
theorem inlX7 : ∀ w ∈ wsX70, w ∈ wsL_law := fun _ h => List.mem_append_left _ (List.mem_append_left _ (List.mem_append_left _ (List.mem_append_left _ (List.mem_append_left _ (List.mem_append_left _ (List.mem_append_left _ (List.mem_append_left _ (List.mem_append_left _ (List.mem_append_left _ (List.mem_append_left _ (List.mem_append_left _ (List.mem_append_right _ h))))))))))))
theorem inlX8 : ∀ w ∈ wsX80, w ∈ wsL_law := fun _ h => List.mem_append_left _ (List.mem_append_left _ (List.mem_append_left _ (List.mem_append_left _ (List.mem_append_left _ (List.mem_append_left _ (List.mem_append_left _ (List.mem_append_left _ (List.mem_append_left _ (List.mem_append_left _ (List.mem_append_left _ (List.mem_append_right _ h)))))))))))
theorem l_arr {s : State} {ar : Array Value} {ty : FieldType} (h : (Cond.arrayClass ty).before ar s = true) : ∃ cA : ClassId, ArrOfT s cA ty ∧ s.vm.findClass ("[" ++ ty.toString) = some cA := by
  obtain ⟨cA, kA, comp, h1, h2, h3⟩ := Cond.arrayClass_spec h
  exact ⟨cA, fun n z => ⟨fun k h => (by cases h), kA, h2, comp, h3⟩, h1⟩
set_option maxRecDepth 100000 in
theorem l_nestT : ∀ w ∈ x_nest, w ∈ lw_tbl := by decide +kernel
theorem l_strT : ∀ q ∈ x_strs, Cond.stringRef RX7 q.1 q.2 ∈ lw_tbl := by decide +kernel
theorem l_strN : ∀ q ∈ x_strs, Cond.exactly (.string RX7 q.1) "java/lang/String" ∈ flatC (Jvm.Cond.and given_1 narrow_1) := by decide +kernel
theorem l_instX0 : Cond.instantiable RX0 3 ∈ lw_tbl := by decide +kernel
theorem l_instX1 : Cond.instantiable RX1 5 ∈ lw_tbl := by decide +kernel
theorem l_instX2 : Cond.instantiable RX2 4 ∈ lw_tbl := by decide +kernel
theorem l_instX3 : Cond.instantiable RX3 4 ∈ lw_tbl := by decide +kernel
theorem l_instX4 : Cond.instantiable RX4 11 ∈ lw_tbl := by decide +kernel
theorem l_instX5 : Cond.instantiable RX5 1 ∈ lw_tbl := by decide +kernel
theorem l_instX6 : Cond.instantiable RX6 2 ∈ lw_tbl := by decide +kernel
theorem l_instX7 : Cond.instantiable RX7 12 ∈ lw_tbl := by decide +kernel
theorem l_instX8 : Cond.instantiable RX8 26 ∈ lw_tbl := by decide +kernel
set_option maxHeartbeats 8000000 in
set_option maxRecDepth 100000 in
theorem start_of {p : Program} {e : Env} {s : State} {m : MethodId} {below : List Frame} {meth : Method} {c : Code} (l : Launch) (hflags : l.flags = flags0) {b L : Nat} {xs : Nat → Int32} (hL : L ≤ 2560) (C0 : lw_At p s m meth c b L xs) (F : Nat) (J : Nat → CS → CS → Prop) (hini : l_INIT F J) (hsim : l_SIM F J) : W p l e room_1 s m #[Value.ref b] below meth c s.heap [] 0 0 (lw_Z below #[Value.ref b] s) (entryFrame m ([Value.ref b] : List Value).toArray 7) := by
  obtain ⟨hx, hb, hr, hml, hown, hts, hX, hbl, hlocks, hgv⟩ := id C0
  have hfl := flat_of_before _ hgv
  have hstk : l.stackTraces = false := by unfold Launch.stackTraces; rw [hflags]; decide
  have hbA : ¬ (fun q : Nat => s.heap.size ≤ q) b := Nat.not_le.mpr hbl
  obtain ⟨c0, i0, hK0⟩ := u_known (C := RX0) (T := TX0) (N := 3) (n := 3) hts lwx_0 (hts _ l_instX0)
  obtain ⟨c1, i1, hK1⟩ := u_known (C := RX1) (T := TX1) (N := 5) (n := 5) hts lwx_1 (hts _ l_instX1)
  obtain ⟨c2, i2, hK2⟩ := u_known (C := RX2) (T := TX2) (N := 4) (n := 4) hts lwx_2 (hts _ l_instX2)
  obtain ⟨c3, i3, hK3⟩ := u_known (C := RX3) (T := TX3) (N := 4) (n := 4) hts lwx_3 (hts _ l_instX3)
  obtain ⟨c4, i4, hK4⟩ := u_known (C := RX4) (T := TX4) (N := 11) (n := 11) hts lwx_4 (hts _ l_instX4)
  obtain ⟨c5, i5, hK5⟩ := u_known (C := RX5) (T := TX5) (N := 1) (n := 1) hts lwx_5 (hts _ l_instX5)
  obtain ⟨c6, i6, hK6⟩ := u_known (C := RX6) (T := TX6) (N := 2) (n := 2) hts lwx_6 (hts _ l_instX6)
  obtain ⟨c7, i7, hK7⟩ := u_known (C := RX7) (T := TX7) (N := 12) (n := 12) hts lwx_7 (hts _ l_instX7)
  obtain ⟨c8, i8, hK8⟩ := u_known (C := RX8) (T := TX8) (N := 26) (n := 26) hts lwx_8 (hts _ l_instX8)
  obtain ⟨cI, hAI, hNI⟩ := l_arr (ty := .int) (hts (.arrayClass .int) (by decide +kernel))
  obtain ⟨cZ, hAZ, hNZ⟩ := l_arr (ty := .boolean) (hts (.arrayClass .boolean) (by decide +kernel))
  obtain ⟨cJ, hAJ, hNJ⟩ := l_arr (ty := .long) (hts (.arrayClass .long) (by decide +kernel))
  obtain ⟨dC, dI, hKc⟩ : ∃ (dC : Nat → ClassId) (dI : Nat → Nat → Nat), ∀ (k : Nat) (q : vw_C), vwCl[k]? = some q → u_Kn s q.1 q.2.1 q.2.2 (dC k) (dI k) := by
    refine ⟨fun k => if k = 0 then c0 else if k = 1 then c1 else if k = 2 then c2 else if k = 3 then c3 else if k = 4 then c4 else if k = 5 then c5 else if k = 6 then c6 else if k = 7 then c7 else c8, fun k => if k = 0 then i0 else if k = 1 then i1 else if k = 2 then i2 else if k = 3 then i3 else if k = 4 then i4 else if k = 5 then i5 else if k = 6 then i6 else if k = 7 then i7 else i8, ?_⟩
    intro k q hq
    match k, hq with
    | 0, hq => cases hq; exact hK0
    | 1, hq => cases hq; exact hK1
    | 2, hq => cases hq; exact hK2
    | 3, hq => cases hq; exact hK3
    | 4, hq => cases hq; exact hK4
    | 5, hq => cases hq; exact hK5
    | 6, hq => cases hq; exact hK6
    | 7, hq => cases hq; exact hK7
    | 8, hq => cases hq; exact hK8
    | k + 9, hq => simp [vwCl] at hq
  have hK : x_K (dC, dI) (x_tys cI cZ cJ) s := by
    refine ⟨⟨hKc, fun k q h => ?_⟩, fun w hw => va_Nw.of (x_nest_on w hw) (hts w (l_nestT w hw))⟩
    match k, h with
    | 0, h => cases h; exact ⟨hAI, hNI⟩
    | 1, h => cases h; exact ⟨hAZ, hNZ⟩
    | 2, h => cases h; exact ⟨hAJ, hNJ⟩
    | k + 3, h => simp [x_tys] at h
  have LX : x_S s ∧ x_Z (fun q => s.heap.size ≤ q) s s.heap ∧ x_N s := by
    refine ⟨fun q hq => ?_, ⟨vx_Zqof (hts (.laysStatic Bundle.tN "UNASSIGNED_STACK" Bundle.steD) (by decide +kernel)) (hts (.initialized Bundle.tN) (by decide +kernel)) (hfl (.isRef (.static Bundle.tN "UNASSIGNED_STACK" Bundle.steD)) (by decide +kernel)) (fun a ha => Nat.not_le.mpr ha), vx_Zqof (hts (.laysStatic Bundle.tN "SUPPRESSED_SENTINEL" Bundle.listD) (by decide +kernel)) (hts (.initialized Bundle.tN) (by decide +kernel)) (hfl (.isRef (.static Bundle.tN "SUPPRESSED_SENTINEL" Bundle.listD)) (by decide +kernel)) (fun a ha => Nat.not_le.mpr ha)⟩, va_Nc.of (hfl (.not (.castable (x_exc 2) (x_exc 1))) (by decide +kernel)), va_Nc.of (hfl (.not (.castable (x_exc 3) (x_exc 1))) (by decide +kernel)), va_Nc.of (hfl (.not (.castable (x_exc 3) (x_exc 2))) (by decide +kernel))⟩
    obtain ⟨sa, c9, cell9, k9, h1, -⟩ := Cond.exactly_spec (hfl _ (l_strN q hq))
    exact ⟨sa, vk_R.of (hts _ (l_strT q hq)) h1⟩
  have X : x_X p s m #[Value.ref b] meth c cL_law 7 (some .boolean) RL wsL_law (dC, dI) (x_tys cI cZ cJ) (fun q => s.heap.size ≤ q) := ⟨hx, hb, hml, hown, fun w hw => hts w (wsL_law_in w hw), hK, fun q h => h, hr, hlocks⟩
  obtain ⟨v1, s1, v2, s2, hf1, hf2, hJ⟩ := hini
  have hl := lv_entry ([.ref b]) (n := 7) (Nat.le_of_ble_eq_true rfl)
  rw [lg_entry_eq]
  generalize (lg_sl ([.ref b]) ++ List.replicate (7 - (lg_sl ([.ref b])).length) Slot.unset).toArray = ls at hl ⊢
  have hl : lv_has ls 7 [(0, .ref b)] := hl
  have start : x_W p l e room_1 s m #[Value.ref b] below meth c (fun q => s.heap.size ≤ q) (dC, dI) (fun _ : Unit => []) 0 0 (lw_Z below #[Value.ref b] s) () (F0 m 0 ls []) := by
    refine y_new (wb := fun q => [(q, .inr (7, [.null, .null, .null, .null, .null, .null, .null, .null, .null, .null, .int 0, .int 0]))]) X inlX7 tyX7 tyX7_ok (by decide +kernel) (by decide +kernel) (by decide +kernel) rfl (by decide) (Nat.le_of_ble_eq_true rfl) (Nat.le_of_ble_eq_true rfl) dL_law_0 (fun _ => rfl) (fun h1 => ?_)
    refine x_dup X dL_law_3 rfl ?_
    refine y_cI (w1 := []) (wc := [(h1, .inr (7, [.null, .null, .null, .null, .null, .null, .null, .null, .null, .null, .int 0, .int 0]))]) (w2 := []) (wb := fun u => cwld cI (y_A h1 u) s1) X (c_X7_init l (dC, dI) cI cZ cJ h1 F hf1) (cwI 0 X.2.2.2.2.1 gL_law_X7_init rfl rfl rfl (X.2.2.2.2.1 (.initialized RX7) (by decide +kernel)) (X.2.2.2.2.1 (.methodLink RL 56 yX7_init) (by decide +kernel)) (X.2.2.2.2.1 (.instanceMethod yX7_init) (by decide +kernel)) rfl (by decide +kernel) ⟨Nat.le_of_ble_eq_true rfl, Nat.le_of_ble_eq_true rfl⟩) rfl hl rfl (Nat.le_of_ble_eq_true rfl) ⟨Nat.le_of_ble_eq_true rfl, Nat.le_of_ble_eq_true rfl⟩ dL_law_4 rfl (fun u => by rw [List.nil_append, List.append_nil]) (fun u1 => ?_)
    obtain ⟨a1, ha1⟩ : ∃ a1 : Nat → Nat, a1 = y_A h1 u1 := ⟨_, rfl⟩
    have ea : h1 = a1 0 := by subst ha1; rfl
    rw [← ha1, ea]
    refine x_astore_n (lv' := [(1, .ref (a1 0)), (0, .ref b)]) X dL_law_7 rfl hl (by decide) rfl (fun ls hl => ?_)
    refine y_new (wb := fun q => cwld cI a1 s1 ++ [(q, .inr (8, [.int 0, .int 0, .int 0, .int 0, .int 0, .int 0, .int 0, .null, .null, .null, .null, .null, .null, .null, .null, .null, .null, .null, .null, .null, .null, .null, .null, .null, .null, .int 0]))]) X inlX8 tyX8 tyX8_ok (by decide +kernel) (by decide +kernel) (by decide +kernel) rfl (by decide) (Nat.le_of_ble_eq_true rfl) (Nat.le_of_ble_eq_true rfl) dL_law_8 (fun _ => rfl) (fun h2 => ?_)
    refine x_dup X dL_law_11 rfl ?_
    refine y_cI (w1 := cwld cI a1 s1) (wc := [(h2, .inr (8, [.int 0, .int 0, .int 0, .int 0, .int 0, .int 0, .int 0, .null, .null, .null, .null, .null, .null, .null, .null, .null, .null, .null, .null, .null, .null, .null, .null, .null, .null, .int 0]))]) (w2 := []) (wb := fun u => cwld cI a1 s1 ++ mwld cI cZ (y_A h2 u) s2) X (c_X8_init l (dC, dI) cI cZ cJ h2 F hf2) (cwI 0 X.2.2.2.2.1 gL_law_X8_init rfl rfl rfl (X.2.2.2.2.1 (.initialized RX8) (by decide +kernel)) (X.2.2.2.2.1 (.methodLink RL 59 yX8_init) (by decide +kernel)) (X.2.2.2.2.1 (.instanceMethod yX8_init) (by decide +kernel)) rfl (by decide +kernel) ⟨Nat.le_of_ble_eq_true rfl, Nat.le_of_ble_eq_true rfl⟩) rfl hl rfl (Nat.le_of_ble_eq_true rfl) ⟨Nat.le_of_ble_eq_true rfl, Nat.le_of_ble_eq_true rfl⟩ dL_law_12 rfl (fun u => by rw [List.append_nil]) (fun u2 => ?_)
    obtain ⟨a2, ha2⟩ : ∃ a2 : Nat → Nat, a2 = y_A h2 u2 := ⟨_, rfl⟩
    have eb : h2 = a2 0 := by subst ha2; rfl
    rw [← ha2, eb]
    refine x_astore_n (lv' := [(2, .ref (a2 0)), (1, .ref (a1 0)), (0, .ref b)]) X dL_law_15 rfl hl (by decide) rfl (fun ls hl => ?_)
    refine x_iconst X dL_law_16 xk_iconst_1 ?_
    refine y_newa (wb := fun q => cwld cI a1 s1 ++ (mwld cI cZ a2 s2 ++ [(q, .inl (cJ, 1, .inr (.inl (fun _ => 0))))])) (atype := .long) X (by decide +kernel) rfl 2 rfl rfl (N := 1) (a0 := (1, .inr (.inl (fun _ => 0)))) (fun _ => rfl) (by decide) (by decide) (Nat.le_of_ble_eq_true rfl) (Nat.le_of_ble_eq_true rfl) (Nat.le_of_ble_eq_true rfl) dL_law_17 (fun _ => by rw [List.append_assoc]) (fun o => ?_)
    refine x_astore_n (lv' := [(3, .ref o), (2, .ref (a2 0)), (1, .ref (a1 0)), (0, .ref b)]) X dL_law_19 rfl hl (by decide) rfl (fun ls hl => ?_)
    refine x_iconst X dL_law_20 xk_iconst_0 ?_
    refine x_istoreA (lv' := [(4, .int (0 : Int32)), (3, .ref o), (2, .ref (a2 0)), (1, .ref (a1 0)), (0, .ref b)]) X dL_law_21 hl (by decide) rfl (fun ls hl => ?_)
    refine y_turn (wld := lwld cI cZ cJ a1 a2 o) (σ := (s1, s2, fun _ => 0)) [51, 52, 53, 54, 55, 56, 57, 58, 59, 60, 61, 62, 63, 64, 65, 66, 67, 68, 69, 0, 1, 2, 3, 4, 5, 6, 7, 8, 9, 10, 11, 12, 13, 14, 15, 16, 17, 18, 19, 20, 21, 22, 23, 24, 25, 26, 27, 28, 29, 30, 31, 32, 33, 34, 35, 36, 37, 38, 39, 40, 41, 42, 43, 44, 45, 46, 47, 48, 49, 50, 70] (by decide +kernel) rfl rfl ?_
    exact x_widen (by decide) (by decide) (law_loop X hX hbl LX hstk hr hL F J hsim (L + 1) 0 s1 s2 (fun _ => 0) hJ (Nat.zero_le _) (by omega) ls (lv_sub hl [4, 3, 2, 1, 0] rfl))
  exact start s.heap [] (fun k q h => by simp at h) ⟨fun i j p q h => by simp at h, fun k q h => by simp at h⟩ va_S.rf
