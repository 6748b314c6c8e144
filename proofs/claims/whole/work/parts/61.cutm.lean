/-! cutting ends: the reference's side -/
def a17 (e : DS) (M : Nat) (u : Nat → Nat) : DS := fun k i => if k = 17 ∧ i < M then u i else e k i
theorem a17_s (e : DS) (M : Nat) (u : Nat → Nat) {i : Nat} (v : Nat) (hi : i < M) : dset (a17 e M u) 17 i v = a17 e M (fun j => if j = i then v else u j) := by
  funext k j
  rw [dset_a]
  unfold a17
  by_cases h : k = 17 ∧ j = i
  · rw [if_pos h, if_pos ⟨h.1, by omega⟩]
    exact (if_pos h.2).symm
  · rw [if_neg h]
    by_cases h2 : k = 17 ∧ j < M
    · rw [if_pos h2, if_pos h2]
      exact (if_neg (fun z => h ⟨h2.1, z⟩)).symm
    · rw [if_neg h2, if_neg h2]
/-- 1: none of k buffers from t on on which b hangs is left -/
def edf (g u : Nat → Nat) (b : Nat) : Nat → Nat → Nat
  | 0, _ => 1
  | k + 1, t => if g (160 * b + t) = 0 then edf g u b k (t + 1) else if u t = 0 then 0 else edf g u b k (t + 1)
theorem edf_le (g u : Nat → Nat) (b : Nat) : ∀ k t, edf g u b k t ≤ 1 := by
  intro k
  induction k with
  | zero => exact fun _ => Nat.le_refl _
  | succ k ih =>
    intro t
    rw [edf]
    split
    · exact ih _
    · split
      · exact Nat.zero_le _
      · exact ih _
theorem edf_0 (g u : Nat → Nat) (b : Nat) : ∀ k t, edf g u b k t = 0 ↔ ∃ t', t ≤ t' ∧ t' < t + k ∧ g (160 * b + t') ≠ 0 ∧ u t' = 0 := by
  intro k
  induction k with
  | zero =>
    intro t
    constructor
    · intro z
      exact absurd (show (1 : Nat) = 0 from z) (by decide)
    · rintro ⟨t', h1, h2, -⟩
      omega
  | succ k ih =>
    intro t
    have step : (¬ (g (160 * b + t) ≠ 0 ∧ u t = 0)) → (edf g u b k (t + 1) = 0 ↔ ∃ t', t ≤ t' ∧ t' < t + (k + 1) ∧ g (160 * b + t') ≠ 0 ∧ u t' = 0) := fun hno => by
      rw [ih]
      constructor
      · rintro ⟨t', h1, h2, q⟩
        exact ⟨t', by omega, by omega, q⟩
      · rintro ⟨t', h1, h2, q⟩
        rcases Nat.eq_or_lt_of_le h1 with z | z
        · subst z
          exact absurd q hno
        · exact ⟨t', by omega, by omega, q⟩
    rw [edf]
    by_cases h0 : g (160 * b + t) = 0
    · rw [if_pos h0]
      exact step (fun z => z.1 h0)
    · rw [if_neg h0]
      by_cases h1 : u t = 0
      · rw [if_pos h1]
        exact ⟨fun _ => ⟨t, Nat.le_refl _, by omega, h0, h1⟩, fun _ => rfl⟩
      · rw [if_neg h1]
        exact step (fun z => h1 z.2)
abbrev SM (e : DS) (g : Nat → Nat) (M : Nat) (u : Nat → Nat) : CS := EM (a17 (a16 e g) M u)
theorem SM_16 (e : DS) (g : Nat → Nat) (M : Nat) (u : Nat → Nat) {i : Nat} (hi : i < 25600) : x_at (SM e g M u) 16 (nI i) = nI (g i) := by
  show EM (a17 (a16 e g) M u) 16 (nI i).toNatClampNeg = _
  rw [x_cl (by omega), EM_16]
  exact congrArg nI ((if_neg (fun z => absurd z.1 (by decide))).trans (if_pos ⟨rfl, hi⟩))
theorem SM_17 (e : DS) (g : Nat → Nat) {M : Nat} (u : Nat → Nat) {i : Nat} (hM : M ≤ 160) (hi : i < M) : x_at (SM e g M u) 17 (nI i) = nI (u i) := by
  show EM (a17 (a16 e g) M u) 17 (nI i).toNatClampNeg = _
  rw [x_cl (by omega), EM_17]
  exact congrArg nI (if_pos ⟨rfl, hi⟩)
theorem k_m81 (K : Int32 → Int32 → Int32 → Int32 → CS → Option (Int32 × CS)) (F : Nat) {M b lf nw : Nat} {e : DS} {g u : Nat → Nat} (hM : M ≤ 160) (hb : b < M) (hg : ∀ i, g i ≤ 1) (hu : ∀ i, u i ≤ 1) : ∀ (k n t : Nat), t + k = M → k + 1 ≤ n → r_X8_mayCircle_b81 K F n (nI M) (nI lf) (nI nw) (nI b) (nI 1) (nI t) (SM e g M u) = r_X8_mayCircle_b132 K F (nI M) (nI lf) (nI nw) (nI b) (nI (edf g u b k t)) (SM e g M u) := by
  intro k
  induction k with
  | zero =>
    intro n t h1 h2
    obtain ⟨n, rfl⟩ : ∃ k, n = k + 1 := ⟨n - 1, by omega⟩
    rw [r_X8_mayCircle_b81_s, if_pos (by rw [x_le (by omega) (by omega)]; omega)]
    rfl
  | succ k ih =>
    intro n t h1 h2
    obtain ⟨n, rfl⟩ : ∃ k, n = k + 1 := ⟨n - 1, by omega⟩
    have ihh := ih n (t + 1) (by omega) (by omega)
    have hgl := hg (160 * b + t)
    have hul := hu t
    rw [r_X8_mayCircle_b81_s, if_neg (by rw [x_le (by omega) (by omega)]; omega), if_neg (by decide), x_l160, pk_mul, nI_add, x_ogT (x_inT (by omega) (by omega)), SM_16 _ _ _ _ (by omega), edf]
    unfold r_X8_mayCircle_b119 r_X8_mayCircle_b124
    by_cases h0 : g (160 * b + t) = 0
    · rw [if_pos h0, h0, if_pos (by rfl), x_l1, nI_add]
      exact ihh
    · rw [if_neg h0, if_neg (by rw [x_l0, x_eq (by omega) (by decide)]; exact h0), x_ogT (x_inT (by omega) (by omega)), SM_17 _ _ _ hM (by omega)]
      by_cases h3 : u t = 0
      · rw [if_pos h3, h3, if_pos (by rfl), x_l1, nI_add]
        obtain ⟨n, rfl⟩ : ∃ k, n = k + 1 := ⟨n - 1, by omega⟩
        rw [r_X8_mayCircle_b81_s, if_pos (show (0 : Int32) = 0 from rfl)]
        by_cases h4 : nI M ≤ nI (t + 1)
        · rw [if_pos h4]
          rfl
        · rw [if_neg h4]
          rfl
      · rw [if_neg h3, if_neg (by rw [x_l0, x_eq (by omega) (by decide)]; exact h3), x_l1, nI_add]
        exact ihh
/-- one round: what is gone, and whether any went -/
def rnd (g : Nat → Nat) (M : Nat) (u : Nat → Nat) : Nat → (Nat → Nat) × Nat
  | 0 => (u, 0)
  | b + 1 => if (rnd g M u b).1 b = 0 then (if edf g (rnd g M u b).1 b M 0 = 0 then rnd g M u b else (fun i => if i = b then 1 else (rnd g M u b).1 i, 1)) else rnd g M u b
theorem rnd_le (g : Nat → Nat) (M : Nat) {u : Nat → Nat} (hu : ∀ i, u i ≤ 1) : ∀ n, (∀ i, (rnd g M u n).1 i ≤ 1) ∧ (rnd g M u n).2 ≤ 1 := by
  intro n
  induction n with
  | zero => exact ⟨hu, Nat.zero_le _⟩
  | succ n ih =>
    rw [rnd]
    split
    · split
      · exact ih
      · refine ⟨fun i => ?_, Nat.le_refl _⟩
        show (if i = n then 1 else (rnd g M u n).1 i) ≤ 1
        split
        · exact Nat.le_refl _
        · exact ih.1 i
    · exact ih
theorem sum_le1 {u : Nat → Nat} (hu : ∀ i, u i ≤ 1) (M : Nat) : sumN u M ≤ M := by
  induction M with
  | zero => exact Nat.le_refl _
  | succ M ih =>
    have := hu M
    show sumN u M + u M ≤ M + 1
    omega
theorem sum_set {u : Nat → Nat} {b M : Nat} (hb : b < M) (h0 : u b = 0) : sumN (fun i => if i = b then 1 else u i) M = sumN u M + 1 := by
  have h := sumN_u (f := u) (g := fun i => if i = b then 1 else u i) (i := b) (n := M) hb (fun j hj => if_neg hj)
  rw [h0, if_pos rfl] at h
  omega
theorem k_m55 (K : Int32 → Int32 → Int32 → CS → Option (Int32 × CS)) (F : Nat) {M : Nat} {e : DS} {g u : Nat → Nat} (hF : 1000 ≤ F) (hM : M ≤ 160) (hg : ∀ i, g i ≤ 1) (hu : ∀ i, u i ≤ 1) : ∀ (k n b : Nat), b + k = M → k + 1 ≤ n → r_X8_mayCircle_b55 K F n (nI M) (nI (M - sumN (rnd g M u b).1 M)) (nI (rnd g M u b).2) (nI b) (SM e g M (rnd g M u b).1) = K (nI M) (nI (M - sumN (rnd g M u M).1 M)) (nI (rnd g M u M).2) (SM e g M (rnd g M u M).1) := by
  intro k
  induction k with
  | zero =>
    intro n b h1 h2
    obtain ⟨n, rfl⟩ : ∃ k, n = k + 1 := ⟨n - 1, by omega⟩
    obtain rfl : b = M := by omega
    rw [r_X8_mayCircle_b55_s, if_pos (by rw [x_le (by omega) (by omega)]; omega)]
  | succ k ih =>
    intro n b h1 h2
    obtain ⟨n, rfl⟩ : ∃ k, n = k + 1 := ⟨n - 1, by omega⟩
    have hb : b < M := by omega
    have ihh := ih n (b + 1) (by omega) (by omega)
    rw [rnd] at ihh
    obtain ⟨hl1, hl2⟩ := rnd_le g M hu b
    have hlb := hl1 b
    have hbM := sum_le1 hl1 M
    rw [r_X8_mayCircle_b55_s, if_neg (by rw [x_le (by omega) (by omega)]; omega), x_ogT (x_inT (by omega) (by omega)), SM_17 _ _ _ hM hb]
    unfold r_X8_mayCircle_b76
    by_cases g1 : (rnd g M u b).1 b = 0
    · rw [if_pos g1] at ihh
      have h81 := k_m81 (r_X8_mayCircle_b55 K F n) F (lf := M - sumN (rnd g M u b).1 M) (nw := (rnd g M u b).2) (e := e) hM hb hg hl1 M F 0 (by omega) (by omega)
      have hef := edf_le g (rnd g M u b).1 b M 0
      rw [g1, if_pos (by rfl), x_l0, x_l1, h81]
      unfold r_X8_mayCircle_b132 r_X8_mayCircle_b150
      by_cases g2 : edf g (rnd g M u b).1 b M 0 = 0
      · rw [if_pos g2] at ihh
        rw [g2, if_pos (by rfl), x_l1, nI_add]
        exact ihh
      · rw [if_neg g2] at ihh
        have hss := sum_set (u := (rnd g M u b).1) hb g1
        have hle2 : sumN (fun i => if i = b then 1 else (rnd g M u b).1 i) M ≤ M := sum_le1 (fun i => by
          show (if i = b then 1 else (rnd g M u b).1 i) ≤ 1
          split
          · exact Nat.le_refl _
          · exact hl1 i) M
        have hst : x_st (SM e g M (rnd g M u b).1) 17 (nI b) (vp_nar .boolean (1 : Int32)) = SM e g M (fun i => if i = b then 1 else (rnd g M u b).1 i) := by
          show cset (EM (a17 (a16 e g) M (rnd g M u b).1)) 17 (nI b).toNatClampNeg (vp_nar .boolean (nI 1)) = _
          rw [x_cl (by omega), x_zn (by decide), EMs_17, a17_s _ _ _ _ hb]
        rw [show edf g (rnd g M u b).1 b M 0 = 1 by omega, if_neg (by decide), x_ogT (x_inT (by omega) (by omega)), hst, x_osS, show (-1 : Int32) = mI 0 from rfl, x_sub1 (by omega), x_l1, nI_add, show M - sumN (rnd g M u b).1 M - 1 = M - sumN (fun i => if i = b then 1 else (rnd g M u b).1 i) M by omega]
        exact ihh
    · rw [if_neg g1] at ihh
      rw [if_neg (by rw [x_l0, x_eq (by omega) (by decide)]; exact g1)]
      obtain ⟨f, hf⟩ : ∃ f, F = f + 1 := ⟨F - 1, by omega⟩
      have h81 : r_X8_mayCircle_b81 (r_X8_mayCircle_b55 K F n) F F (nI M) (nI (M - sumN (rnd g M u b).1 M)) (nI (rnd g M u b).2) (nI b) (0 : Int32) (0 : Int32) (SM e g M (rnd g M u b).1) = r_X8_mayCircle_b132 (r_X8_mayCircle_b55 K F n) F (nI M) (nI (M - sumN (rnd g M u b).1 M)) (nI (rnd g M u b).2) (nI b) (0 : Int32) (SM e g M (rnd g M u b).1) := by
        have key : ∀ f', r_X8_mayCircle_b81 (r_X8_mayCircle_b55 K F n) F (f' + 1) (nI M) (nI (M - sumN (rnd g M u b).1 M)) (nI (rnd g M u b).2) (nI b) (0 : Int32) (0 : Int32) (SM e g M (rnd g M u b).1) = r_X8_mayCircle_b132 (r_X8_mayCircle_b55 K F n) F (nI M) (nI (M - sumN (rnd g M u b).1 M)) (nI (rnd g M u b).2) (nI b) (0 : Int32) (SM e g M (rnd g M u b).1) := fun f' => by
          rw [r_X8_mayCircle_b81_s, if_pos (show (0 : Int32) = 0 from rfl)]
          by_cases h4 : nI M ≤ (0 : Int32)
          · rw [if_pos h4]
          · rw [if_neg h4]
        have kf := key f
        rw [← hf] at kf
        exact kf
      rw [h81]
      unfold r_X8_mayCircle_b132 r_X8_mayCircle_b150
      rw [if_pos (show (0 : Int32) = 0 from rfl), x_l1, nI_add]
      exact ihh
