/-! waiting circles: the reference's side -/
theorem k_c37 (K : Int32 → Int32 → Int32 → CS → Option (Int32 × CS)) (F : Nat) {c r : Nat} {d e : DS} (hJ : JJ c r d e) {b a : Nat} (hb : b < c * r * 10) : ∀ (k n s v : Nat), s + k = c * r * 10 → k + 1 ≤ n → v ≤ c * r * 10 → r_X8_circle_b37 K F n (nI (c * r * 10)) (nI a) (nI b) (mI v) (nI s) (EM e) = K (nI (c * r * 10)) (nI (a + goB (nx c r d) b (k + 1) v)) (nI (b + 1)) (EM e) := by
  have hN := hJ.1.1.2.2.1
  have h16 := Gr16 hN
  have fin : ∀ v : Nat, v ≤ c * r * 10 → r_X8_circle_b68 K F (nI (c * r * 10)) (nI a) (nI b) (mI v) (EM e) = K (nI (c * r * 10)) (nI (a + if v = b + 1 then 1 else 0)) (nI (b + 1)) (EM e) := fun v hv => by
    unfold r_X8_circle_b68 r_X8_circle_b80
    by_cases h : v = b + 1
    · rw [if_pos (by rw [h]; rfl), if_pos h, x_l1, nI_add, nI_add, x_oiS]
    · rw [if_neg (by rw [x_mneq (by omega) (by omega)]; exact h), if_neg h, x_l1, x_l0, nI_add, nI_add, x_oiS]
  intro k
  induction k with
  | zero =>
    intro n s v h1 h2 hv
    obtain ⟨n, rfl⟩ : ∃ k, n = k + 1 := ⟨n - 1, by omega⟩
    obtain rfl : s = c * r * 10 := by omega
    have hg : goB (nx c r d) b (0 + 1) v = if v = b + 1 then 1 else 0 := by
      rw [goB]
      by_cases h0 : v = 0
      · rw [if_pos h0, if_neg (by omega)]
      · rw [if_neg h0]
        rfl
    rw [r_X8_circle_b37_s, if_pos (by rw [x_le (by omega) (by omega)]; omega), fin v hv, hg]
  | succ k ih =>
    intro n s v h1 h2 hv
    obtain ⟨n, rfl⟩ : ∃ k, n = k + 1 := ⟨n - 1, by omega⟩
    rw [r_X8_circle_b37_s, if_neg (by rw [x_le (by omega) (by omega)]; omega), goB]
    by_cases h0 : v = 0
    · rw [if_pos (by rw [x_l0, x_m0 (by omega)]; exact h0), fin v hv, if_pos h0, if_neg (by omega)]
    · rw [if_neg (by rw [x_l0, x_m0 (by omega)]; exact h0), if_neg h0]
      by_cases h3 : v = b + 1
      · rw [if_pos (by rw [h3]; rfl), fin v hv, if_pos h3, if_pos h3]
      · rw [if_neg (by rw [x_mneq (by omega) (by omega)]; exact h3), if_neg h3, mI_p h0, k_waitsFor F hJ (by omega), x_obS, x_l1, nI_add]
        exact ih n (s + 1) _ (by omega) (by omega) (nx_le hN (by omega))
theorem k_circle (F : Nat) {c r : Nat} {d e : DS} (hF : 1000 ≤ F) (hJ : JJ c r d e) : r_X8_circle F (EM e) = some (nI (sumN (fun b => goB (nx c r d) b 160 (nx c r d b)) (c * r * 10)), EM (dset e 18 7 0)) := by
  have hN := hJ.1.1.2.2.1
  have h16 := Gr16 hN
  have hJ0 := hJ.thrown 0
  have hG := hJ0.grm
  have k22 : ∀ (k n b : Nat), b + k = c * r * 10 → k + 1 ≤ n → r_X8_circle_b22 F n (nI (c * r * 10)) (nI (sumN (fun b => goB (nx c r d) b 160 (nx c r d b)) b)) (nI b) (EM (dset e 18 7 0)) = some (nI (sumN (fun b => goB (nx c r d) b 160 (nx c r d b)) (c * r * 10)), EM (dset e 18 7 0)) := by
    intro k
    induction k with
    | zero =>
      intro n b h1 h2
      obtain ⟨n, rfl⟩ : ∃ k, n = k + 1 := ⟨n - 1, by omega⟩
      obtain rfl : b = c * r * 10 := by omega
      rw [r_X8_circle_b22_s, if_pos (by rw [x_le (by omega) (by omega)]; omega)]
    | succ k ih =>
      intro n b h1 h2
      obtain ⟨n, rfl⟩ : ∃ k, n = k + 1 := ⟨n - 1, by omega⟩
      have ihh := ih n (b + 1) (by omega) (by omega)
      rw [sumN] at ihh
      rw [r_X8_circle_b22_s, if_neg (by rw [x_le (by omega) (by omega)]; omega), k_waitsFor F hJ0 (by omega), x_obS, x_l0, k_c37 (r_X8_circle_b22 F n) F hJ0 (show b < c * r * 10 by omega) (c * r * 10) F 0 _ (by omega) (by omega) (nx_le hN (by omega)), goB_stable (k1 := c * r * 10 + 1) (k2 := 160) (M := c * r * 10) (nx_le hN (by omega)) (fun b hb => nx_le hN hb) (by omega) (by omega)]
      exact ihh
  have z0 : dset e 18 7 0 18 0 = c := hG.1
  have z1 : dset e 18 7 0 18 1 = r := hG.2.1
  unfold r_X8_circle
  rw [x_l0, EMs_18, x_osS, EM_18, EM_18, z0, z1, x_l10, pk_mul, pk_mul, x_oiS]
  exact k22 (c * r * 10) F 0 (by omega) (by omega)
theorem s_circle (F t : Nat) (hF : 1000 ≤ F) {σ τ : CS} (h : JX t σ τ) : l_S_circle F JX t σ τ := by
  obtain ⟨c, r, d, e, rfl, rfl, hJ, ht⟩ := h
  refine ⟨_, _, _, n_circle F hF hJ.ji, k_circle F hF hJ, c, r, _, _, rfl, rfl, ?_, (show d 22 1 ≤ 50 * (t + 1) by omega)⟩
  exact hJ.thrown 0
