/-! what hangs on what: both answers -/
theorem wk_ok {c r g m l : Nat} (hN : GrN c r) (hl : l < 2) : ∀ (n w b : Nat), w < c * r → b / 10 = w → b % 2 = l → ∀ q, q ∈ wk c r g m l n w b → q.2 < 4 ∧ nxt c r (q.1 / 10) q.2 (q.1 % 2) ≠ 0 := by
  intro n
  induction n with
  | zero =>
    intro w b hw hb hbl q hq
    exact absurd hq (by simp [wk])
  | succ n ih =>
    intro w b hw hb hbl q hq
    rw [wk] at hq
    by_cases hz : nxt c r w (wt c w g m) l = 0
    · rw [if_pos hz] at hq
      exact absurd hq (by simp)
    · rw [if_neg hz] at hq
      have hle := nxt_le (o := wt c w g m) hN hw hl
      have ho4 := wt_le c w g m
      have ho3 : wt c w g m < 4 := by
        rcases Nat.lt_or_ge (wt c w g m) 4 with y | y
        · exact y
        · exact absurd (hle.2 (by omega)) hz
      have hb1 := nb_lt (dir := wt c w g m) hN hw
      have hnb : nb c r w (wt c w g m) ≠ 0 := fun z => hz (by unfold nxt; rw [if_pos z])
      have hnx : nxt c r w (wt c w g m) l = bf (nb c r w (wt c w g m) - 1) (wt c w g m) l + 1 := by
        unfold nxt
        rw [if_neg hnb]
      rcases List.mem_cons.mp hq with z | z
      · rw [z]
        refine ⟨ho3, ?_⟩
        show nxt c r (b / 10) (wt c w g m) (b % 2) ≠ 0
        rw [hb, hbl]
        exact hz
      · rw [hnx, Nat.add_sub_cancel] at z
        refine ih _ _ (by omega) ?_ ?_ q z
        · show ((nb c r w (wt c w g m) - 1) * 10 + 2 * wt c w g m + l) / 10 = nb c r w (wt c w g m) - 1
          omega
        · show ((nb c r w (wt c w g m) - 1) * 10 + 2 * wt c w g m + l) % 2 = l
          omega
theorem hgs_ok {c r : Nat} {d : DS} (hJ : JI c r d) {n b o : Nat} (hn : n ≤ d 22 4) (h : hgs c r d n b o = 1) : o < 4 ∧ nxt c r (b / 10) o (b % 2) ≠ 0 := by
  obtain ⟨p, hp, h0, hm⟩ := (hgs_iff c r d b o n).mp h
  obtain ⟨a1, a2, a3, a4, a5, a6, a7⟩ := hJ.2.2.1 p (by omega)
  refine wk_ok hJ.1.1.2.2.1 a3 16 (d 10 p - 1) (pb d p) (by omega) ?_ ?_ (b, o) hm
  · show ((d 10 p - 1) * 10 + 2 * d 11 p + d 8 p) / 10 = d 10 p - 1
    omega
  · show ((d 10 p - 1) * 10 + 2 * d 11 p + d 8 p) % 2 = d 8 p
    omega
theorem k_m24 (F : Nat) {M : Nat} {e : DS} {g : Nat → Nat} (hM : M ≤ 160) : ∀ (k n i : Nat), i + k = M → k + 1 ≤ n → r_X8_mayCircle_b24 F n (nI M) (nI i) (EM (dfill (a16 e g) 17 i 0)) = r_X8_mayCircle_b46 F F (nI M) (nI M) (nI 1) (SM e g M (fun _ => 0)) := by
  intro k
  induction k with
  | zero =>
    intro n i h1 h2
    obtain ⟨n, rfl⟩ : ∃ k, n = k + 1 := ⟨n - 1, by omega⟩
    obtain rfl : i = M := by omega
    rw [r_X8_mayCircle_b24_s, if_pos (by rw [x_le (by omega) (by omega)]; omega), x_l1]
    rfl
  | succ k ih =>
    intro n i h1 h2
    obtain ⟨n, rfl⟩ : ∃ k, n = k + 1 := ⟨n - 1, by omega⟩
    have hst : x_st (EM (dfill (a16 e g) 17 i 0)) 17 (nI i) (vp_nar .boolean (0 : Int32)) = EM (dfill (a16 e g) 17 (i + 1) 0) := by
      show cset (EM (dfill (a16 e g) 17 i 0)) 17 (nI i).toNatClampNeg (vp_nar .boolean (nI 0)) = _
      rw [x_cl (by omega), x_zn (by decide), EMs_17, dfl_s]
    rw [r_X8_mayCircle_b24_s, if_neg (by rw [x_le (by omega) (by omega)]; omega), x_ogT (x_inT (by omega) (by omega)), hst, x_osS, x_l1, nI_add]
    exact ih n (i + 1) (by omega) (by omega)
theorem sumN_z : ∀ M, sumN (fun _ => 0) M = 0 := by
  intro M
  induction M with
  | zero => rfl
  | succ M ih => exact ih
theorem k_mayCircle (F : Nat) {c r : Nat} {d e : DS} (hF : 30000 ≤ F) (hJ : JJ c r d e) : ∃ v g u, r_X8_mayCircle F (EM e) = some (nI v, SM (dset e 18 7 0) g (c * r * 10) u) ∧ v ≤ 1 ∧ (v = 1 ↔ ∃ X, clo c r (hgs c r d (d 22 4)) X ∧ ∃ b, X b) := by
  have hN := hJ.1.1.2.2.1
  have h16 := Gr16 hN
  have hJ0 := hJ.thrown 0
  have hG := hJ0.grm
  have hJI := hJ.ji
  obtain ⟨g, e1, e2, e3⟩ := k_lays F hF hJ0
  have h24 := k_m24 F (M := c * r * 10) (e := dset e 18 7 0) (g := g) (by omega) (c * r * 10) F 0 (by omega) (by omega)
  rw [dfl_0] at h24
  obtain ⟨u, f1, f2, f3, f4⟩ := k_m46 F (M := c * r * 10) (e := dset e 18 7 0) (by omega) (by omega) e2 (c * r * 10) F 1 (fun _ => 0) (by omega) (by omega) (fun _ => Nat.zero_le _) (Or.inr rfl)
  rw [sumN_z, Nat.sub_zero] at f1
  have z0 : EM (a16 (dset e 18 7 0) g) 18 0 = nI c := congrArg nI hG.1
  have z1 : EM (a16 (dset e 18 7 0) g) 18 1 = nI r := congrArg nI hG.2.1
  refine ⟨if sumN u (c * r * 10) < c * r * 10 then 1 else 0, g, u, ?_, by split <;> omega, ?_⟩
  · unfold r_X8_mayCircle
    rw [x_l0, EMs_18, x_osS, e1, x_obS, z0, z1, x_l10, pk_mul, pk_mul, x_oiS]
    exact h24.trans f1
  · have hsl := sum_lt f2 (c * r * 10)
    have hv : ((if sumN u (c * r * 10) < c * r * 10 then 1 else 0) = 1) ↔ sumN u (c * r * 10) < c * r * 10 := by
      by_cases h : sumN u (c * r * 10) < c * r * 10
      · rw [if_pos h]
        exact ⟨fun _ => h, fun _ => rfl⟩
      · rw [if_neg h]
        exact ⟨fun z => absurd z (by decide), fun z => absurd z h⟩
    rw [hv, hsl]
    constructor
    · rintro ⟨b0, hb0, hz0⟩
      refine ⟨fun b => b < c * r * 10 ∧ u b = 0, fun b hb => ?_, b0, hb0, hz0⟩
      obtain ⟨t, t1, t2, t3, t4⟩ := (edf_0 g u b _ 0).mp (f4 b hb.1 hb.2)
      have ht := e2 (160 * b + t)
      obtain ⟨b', o, k1, k2⟩ := (e3 (160 * b + t)).mp (by omega)
      have k3 := hgs_lt hJI (Nat.le_refl _) k1
      obtain ⟨k4, k5⟩ := hgs_ok hJI (Nat.le_refl _) k1
      have k6 := (nxt_le (o := o) hN (show b' / 10 < c * r by omega) (show b' % 2 < 2 from Nat.mod_lt _ (by decide))).1
      have k7 : 160 * b + t = 160 * b' + (nxt c r (b' / 10) o (b' % 2) - 1) := k2
      have k8 : b = b' := by omega
      subst k8
      have k9 : t = nxt c r (b / 10) o (b % 2) - 1 := by omega
      exact ⟨o, k4, k1, k5, by rw [← k9]; omega, by rw [← k9]; exact t4⟩
    · rintro ⟨X, hX, b, hb⟩
      have hlt : ∀ b, X b → b < c * r * 10 := fun b hb => by
        obtain ⟨o, ho, q1, q2, q3⟩ := hX b hb
        exact hgs_lt hJI (Nat.le_refl _) q1
      refine ⟨b, hlt b hb, f3 X (fun b hb => ⟨hlt b hb, ?_⟩) (fun _ _ => rfl) b hb⟩
      obtain ⟨o, ho, q1, q2, q3⟩ := hX b hb
      refine ⟨nxt c r (b / 10) o (b % 2) - 1, hlt _ q3, ?_, q3⟩
      have hone := (e3 (160 * b + (nxt c r (b / 10) o (b % 2) - 1))).mpr ⟨b, o, q1, rfl⟩
      omega
theorem s_mayCircle (F t : Nat) (hF : 30000 ≤ F) {σ τ : CS} (h : JX t σ τ) : l_S_mayCircle F JX t σ τ := by
  obtain ⟨c, r, d, e, rfl, rfl, hJ, ht⟩ := h
  obtain ⟨v, h', n1, n2, n3⟩ := n_mayCircle F (by omega) hJ.ji
  obtain ⟨v', g, u, k1, k2, k3⟩ := k_mayCircle F hF hJ
  have hv : v = v' := by
    have key := n3.trans k3.symm
    by_cases z : v = 1
    · rw [z, key.mp z]
    · have z' : ¬ v' = 1 := fun y => z (key.mpr y)
      omega
  rw [← hv] at k1
  exact ⟨nI v, _, _, n1, k1, c, r, _, _, rfl, rfl, hJ.thrown 0, (show d 22 1 ≤ 50 * (t + 1) by omega)⟩
