/-! they leave: all -/
def LV (c r : Nat) (d d1 e eL : DS) (x : Nat) : Prop := (∀ k, k ≠ 0 → k ≠ 1 → k ≠ 2 → k ≠ 3 → k ≠ 4 → k ≠ 15 → eL k = e k) ∧ (∀ i, i < c * r * 5 → eL 15 i = if i < x then (if sl c r d i = 0 then 0 else pk c r d i + 1) else sl c r d i) ∧ (∀ i, i < 80 → eL 4 i = if i < x ∧ sl c r d i ≠ 0 then sl c r d i % 10 else d 1 i) ∧ RLm c r (mst c r d d1 x) eL ∧ ∀ b, b < 160 → qv (eL 0) (eL 1) b = qr c r d x b
theorem LV.start {c r : Nat} {d d1 e0 e : DS} (hJ : JM c r d e0) (hC : CE d d1) (hk : ∀ k, k ≠ 15 → e k = e0 k) (h15 : ∀ i, i < c * r * 5 → e 15 i = sl c r d i) : LV c r d d1 e e 0 := by
  have hJe := hJ.row15 hk
  obtain ⟨ji, ra, rb1, rp, rq, rl⟩ := hJe
  refine ⟨fun _ _ _ _ _ _ _ => rfl, fun i hi => ?_, fun i hi => ?_, ?_, fun b hb => ?_⟩
  · rw [if_neg (by omega)]
    exact h15 i hi
  · rw [if_neg (by omega)]
    exact rb1.2 i hi
  · show RLm c r d1 e
    unfold RLm
    rw [hC.1 16 (by decide) (by decide) (by decide) (by decide), hC.1 17 (by decide) (by decide) (by decide) (by decide), hC.2.1 1 (by decide)]
    exact rl
  · exact qv_same (rq b hb).1 (rq b hb).2
theorem LV.skip {c r : Nat} {d d1 e eL : DS} {x : Nat} (h : LV c r d d1 e eL x) (hs : sl c r d x = 0) : LV c r d d1 e eL (x + 1) := by
  obtain ⟨l1, l2, l3, l4, l5⟩ := h
  refine ⟨l1, fun i hi => ?_, fun i hi => ?_, ?_, fun b hb => ?_⟩
  · rw [l2 i hi]
    by_cases h1 : i < x
    · rw [if_pos h1, if_pos (show i < x + 1 by omega)]
    · rw [if_neg h1]
      by_cases h2 : i = x
      · subst h2
        rw [if_pos (by omega), if_pos hs, hs]
      · rw [if_neg (by omega)]
  · rw [l3 i hi]
    by_cases h1 : i < x ∧ sl c r d i ≠ 0
    · rw [if_pos h1, if_pos ⟨by omega, h1.2⟩]
    · rw [if_neg h1, if_neg]
      intro z
      apply h1
      refine ⟨?_, z.2⟩
      rcases Nat.lt_or_ge i x with g | g
      · exact g
      · exact absurd (by rw [show i = x by omega]; exact hs) z.2
  · rw [mst_0 hs]
    exact l4
  · rw [qr, if_neg (fun z => z.1 hs)]
    exact l5 b hb
theorem sl_le {c r : Nat} {d : DS} {x : Nat} (h : sl c r d x ≠ 0) : sl c r d x ≤ 10 := (srch_ok h).1
theorem LV.step (F : Nat) {c r : Nat} {d d1 e eL : DS} {x : Nat} (hF : 1000 ≤ F) (hJ : JI c r d) (hC : CE d d1) (hG : GrM e c r) (h4 : e 18 4 = d 22 1) (h3 : e 18 3 = d 22 7) (h : LV c r d d1 e eL x) (hx : x < c * r * 5) (hs : sl c r d x ≠ 0) : ∃ eL', r_X8_leaves F (nI (x / 5)) (nI (x % 5)) (EM eL) = some (0, EM eL') ∧ LV c r d d1 e eL' (x + 1) := by
  have hN := hG.2.2
  have h16 := Gr16 hN
  have hM := MI.all hJ hC x (by omega)
  have hP := hM.2.1 x (Nat.le_refl _) hx hs
  have hP0 := ALLP.start hJ (d1 := d) ⟨fun _ _ _ _ _ => rfl, fun _ _ => rfl, hJ.2.1.2⟩ x (Nat.zero_le _) hx hs
  have hMV := hM.mv hx hs
  have s10 := sl_le hs
  obtain ⟨l1, l2, l3, l4, l5⟩ := h
  have hx5 : x / 5 * 5 + x % 5 = x := by omega
  have hsrc : x / 5 * 10 + (sl c r d x - 1) = src c r d x := rfl
  have hb9 : src c r d x < 160 := by
    rw [← hsrc]
    omega
  have hbi : src c r d x % 10 = sl c r d x - 1 := by
    rw [← hsrc]
    omega
  have hbl : src c r d x % 2 = (sl c r d x - 1) % 2 := by
    rw [← hsrc]
    omega
  have hq := l5 _ hb9
  rw [qr_full hJ hx hs x (Nat.le_refl _)] at hq
  obtain ⟨q1, q2⟩ := qv_get hq
  obtain ⟨pw, po, pbw, p0, phd, pwt, pcr⟩ := hP0
  have pcr' := hP.2.2.2.2.2.2
  have i4 := (hJ.2.2.2.1 _ hb9).1
  have j6 := hJ.1.2.2.1
  have j1 := hJ.1.2.2.2.2.1
  have j7 := hJ.1.2.2.2.1
  have hhead := hJ.head (w := x / 5) (j := sl c r d x - 1) pw (by omega) p0
  have hhd : hd d (x / 5 * 10 + (sl c r d x - 1)) = pk c r d x := rfl
  rw [hhd] at hhead
  obtain ⟨z1, z2, z3, z4, z5, z6, z7, z8⟩ := hhead
  have e18 : eL 18 = e 18 := l1 18 (by decide) (by decide) (by decide) (by decide) (by decide) (by decide)
  have hGL : GrM eL c r := by
    unfold GrM
    rw [e18]
    exact hG
  have m22 : mst c r d d1 x 22 1 = d 22 1 ∧ mst c r d d1 x 22 7 = d 22 7 := ⟨(hM.2.2.2 1 (by decide) (by decide)).trans (hC.2.1 1 (by decide)), (hM.2.2.2 7 (by decide) (by decide)).trans (hC.2.1 7 (by decide))⟩
  have hni : sl c r d x - 1 < 8 → nb c r (x / 5) (((sl c r d x - 1) / 2 + 2) % 4) ≠ 0 := fun g => by
    have := hJ.2.2.2.2.2.1 (pk c r d x) z1 (by omega) (by omega)
    rw [z2, z3] at this
    exact this
  have hk := k_leaves F (c := c) (r := r) (w := x / 5) (o := x % 5) (S := sl c r d x) (p := pk c r d x) (e := eL) hF hGL pw po hs s10 (by
    rw [hx5, l2 x hx, if_neg (by omega)]) (by
    rw [hsrc, q1]
    exact p0) (by
    rw [hsrc, q1]
    omega) (by
    have := q2 0 (by rw [q1]; exact p0)
    rw [Nat.add_zero] at this
    rw [hsrc, this]
    exact phd) (by rw [e18, h4]; omega) (by rw [e18, h3]; exact j7) hni (fun g => by
    have g4 : x % 5 < 4 := by omega
    have hh := (l4 (x / 5) pw (x % 5) g4 (pcr g4).1 ((sl c r d x - 1) % 2) (by omega)).1
    have := (pcr' g4).2
    rw [hbl] at this
    omega)
  rw [e18, h4, h3] at hk
  obtain ⟨f1, f4, f15, f2, f3, fs1, fs0⟩ := lvM_f (c := c) (r := r) (e := eL) (w := x / 5) (o := x % 5) (S := sl c r d x) (p := pk c r d x) (T := d 22 1 + 1 + d 22 7) hx5 hsrc
  refine ⟨_, hk, fun k k0 k1 k2 k3 k4 k5 => (f1 k k0 k1 k2 k3 k4 k5).trans (l1 k k0 k1 k2 k3 k4 k5), fun i hi => ?_, fun i hi => ?_, ?_, fun b hb => ?_⟩
  · rw [f15 i]
    by_cases h2 : i = x
    · subst h2
      rw [if_pos rfl, if_pos (by omega), if_neg hs]
    · rw [if_neg h2, l2 i hi]
      by_cases h1 : i < x
      · rw [if_pos h1, if_pos (show i < x + 1 by omega)]
      · rw [if_neg h1, if_neg (by omega)]
  · rw [f4 i]
    by_cases h2 : i = x
    · subst h2
      rw [if_pos rfl, if_pos ⟨by omega, hs⟩]
    · rw [if_neg h2, l3 i hi]
      by_cases h1 : i < x ∧ sl c r d i ≠ 0
      · rw [if_pos h1, if_pos ⟨by omega, h1.2⟩]
      · rw [if_neg h1, if_neg]
        intro z
        exact h1 ⟨by omega, z.2⟩
  · refine RLm.leave hN pw po pbw (by rw [m22.2]; exact j7) l4 hMV (fun g => (pcr g).1) (fun g => ?_) f2 (fun i => by rw [m22.1, m22.2]; exact f3 i)
    rw [hbi]
    exact hni (by omega)
  · rw [qr]
    by_cases hsb : src c r d x = b
    · subst hsb
      rw [if_pos ⟨hs, rfl⟩, ← l5 _ hb]
      refine qv_tail (by rw [q1]; exact p0) (by rw [fs1, if_pos rfl]) (fun j hj => ?_)
      rw [fs0, if_pos (by omega)]
      rfl
    · rw [if_neg (fun z => hsb z.2), ← l5 _ hb]
      refine qv_same (by rw [fs1, if_neg (fun z => hsb z.symm)]) (fun j hj => ?_)
      rw [fs0, if_neg]
      have hsz : (qr c r d x b).length ≤ 3 := by
        have : ∀ y, (qr c r d y b).length ≤ 3 := by
          intro y
          induction y with
          | zero =>
            rw [qr, qv_len]
            have := (hJ.2.2.2.1 b hb).1
            omega
          | succ y ih =>
            rw [qr]
            split
            · rw [List.length_tail]
              omega
            · exact ih
        exact this x
      rw [← l5 b hb, qv_len] at hsz
      intro z
      have : eL 1 (src c r d x) ≤ 3 := by
        rw [q1]
        omega
      rcases Nat.lt_or_ge b (src c r d x) with g | g
      · omega
      · omega
theorem k_t70 (F : Nat) {c r a : Nat} {d d1 e : DS} (hF : 1000 ≤ F) (hJ : JI c r d) (hC : CE d d1) (hG : GrM e c r) (h4 : e 18 4 = d 22 1) (h3 : e 18 3 = d 22 7) : ∀ (m n x : Nat) (eL : DS), x + m = c * r * 5 → m + 1 ≤ n → LV c r d d1 e eL x → ∃ eL', r_X8_ticks_b70 F n (nI a) (nI (c * r * 5)) (nI x) (EM eL) = r_X8_ticks_b102 F F (nI a) (nI (c * r * 5)) (nI 0) (EM eL') ∧ LV c r d d1 e eL' (c * r * 5) := by
  have h16 := Gr16 hG.2.2
  intro m
  induction m with
  | zero =>
    intro n x eL q1 q2 h
    obtain ⟨n, rfl⟩ : ∃ k, n = k + 1 := ⟨n - 1, by omega⟩
    obtain rfl : x = c * r * 5 := by omega
    refine ⟨eL, ?_, h⟩
    rw [r_X8_ticks_b70_s, if_pos (by rw [x_le (by omega) (by omega)]; omega)]
    rfl
  | succ m ih =>
    intro n x eL q1 q2 h
    obtain ⟨n, rfl⟩ : ∃ k, n = k + 1 := ⟨n - 1, by omega⟩
    have a15 : x_at (EM eL) 15 (nI x) = mI (sl c r d x) := by
      show EM eL 15 (nI x).toNatClampNeg = _
      rw [x_cl (by omega), EM_15, h.2.1 x (by omega), if_neg (by omega)]
    rw [r_X8_ticks_b70_s, if_neg (by rw [x_le (by omega) (by omega)]; omega), x_ogT (x_inT (by omega) (by omega)), a15]
    unfold r_X8_ticks_b94
    by_cases hs : sl c r d x = 0
    · rw [hs, if_pos (by decide), x_l1, nI_add]
      exact ih n (x + 1) eL (by omega) (by omega) (h.skip hs)
    · have s10 := sl_le hs
      obtain ⟨eL', f1, f2⟩ := h.step F hF hJ hC hG h4 h3 (by omega) hs
      rw [if_neg (by rw [x_l0, x_m0 (by omega)]; exact hs), x_d5 (by omega), x_r5 (by omega), f1, x_obS, x_l1, nI_add]
      exact ih n (x + 1) eL' (by omega) (by omega) f2
