/-! a run -/
theorem run_loop (F : Nat) {c r T g0 : Nat} (hF : 1000 ≤ F) (hT : T ≤ 50) : ∀ (k n1 n2 i A : Nat) (d e : DS), i + k = T → k + 1 ≤ n1 → k + 1 ≤ n2 → (∃ v', JJ c r d (dset e 18 6 v')) → d 22 1 + k < 30000 → d 22 5 = g0 + A → e 18 6 = g0 → e 18 7 = 0 → A ≤ 80 * i → ∃ d' e' A', r_X7_run_b31 F n1 (nI T) (nI g0) (nI i) (E d) = some (0, nI A', E d') ∧ r_X8_run_b22 F n2 (nI T) (nI A) (nI i) (EM e) = some (nI A', EM e') ∧ JJ c r d' e' ∧ e' 18 7 = 0 ∧ d' 22 1 = d 22 1 + k := by
  intro k
  induction k with
  | zero =>
    intro n1 n2 i A d e h1 h2 h3 hJ ht h5 h6 h7 hA
    obtain ⟨n1, rfl⟩ : ∃ k, n1 = k + 1 := ⟨n1 - 1, by omega⟩
    obtain ⟨n2, rfl⟩ : ∃ k, n2 = k + 1 := ⟨n2 - 1, by omega⟩
    obtain rfl : i = T := by omega
    obtain ⟨v', hJ⟩ := hJ
    have hv : v' = d 22 5 := hJ.2.2.2.2.2.2.2.2.1.2.2.2.2.2.2
    refine ⟨d, dset e 18 6 (g0 + A), A, ?_, ?_, ?_, h7, rfl⟩
    · rw [r_X7_run_b31_s, if_pos (by rw [x_le (by omega) (by omega)]; omega), E_22, h5, x_subN (by omega), Nat.add_sub_cancel_left]
    · rw [r_X8_run_b22_s, if_pos (by rw [x_le (by omega) (by omega)]; omega), EM_18, h6, nI_add, EMs_18]
      rfl
    · rw [← h5, ← hv]
      exact hJ
  | succ k ih =>
    intro n1 n2 i A d e h1 h2 h3 hJ ht h5 h6 h7 hA
    obtain ⟨n1, rfl⟩ : ∃ k, n1 = k + 1 := ⟨n1 - 1, by omega⟩
    obtain ⟨n2, rfl⟩ : ∃ k, n2 = k + 1 := ⟨n2 - 1, by omega⟩
    obtain ⟨v', hJ⟩ := hJ
    obtain ⟨d1, e1, a, f1, f2, f3, f4, f5, f6, f7, f8⟩ := tick_all F hF hJ (by omega)
    obtain ⟨d', e', A', q1, q2, q3, q4, q5⟩ := ih n1 n2 (i + 1) (A + a) d1 e1 (by omega) (by omega) (by omega) f3 (by omega) (by omega) (f5.trans h6) (f7.trans h7) (by omega)
    refine ⟨d', e', A', ?_, ?_, q3, q4, by omega⟩
    · rw [r_X7_run_b31_s, if_neg (by rw [x_le (by omega) (by omega)]; omega), f1, x_obS, x_l1, nI_add]
      exact q1
    · rw [r_X8_run_b22_s, if_neg (by rw [x_le (by omega) (by omega)]; omega), f2, x_obS, nI_add, x_oiS, x_l1, nI_add]
      exact q2
theorem s_run (F t : Nat) (hF : 1000 ≤ F) (h5 : t < 512) {σ τ : CS} (h : JX t σ τ) : l_S_run F JX t σ τ := by
  obtain ⟨c, r, d, e, rfl, rfl, hJ, ht⟩ := h
  intro x
  have z1 : nI 1 ≤ x ∧ x ≤ nI 50 ∨ ¬ (nI 1 ≤ x ∧ x ≤ nI 50) := Classical.em _
  rcases z1 with hx | hx
  · obtain ⟨T, hT1, hT2, rfl⟩ := x_rng (by omega) (by omega) hx
    have hg : (dset e 18 7 0) 18 6 = d 22 5 := hJ.2.2.2.2.2.2.2.2.1.2.2.2.2.2.2
    obtain ⟨d', e', A', q1, q2, q3, q4, q5⟩ := run_loop F (g0 := d 22 5) hF hT2 T F F 0 0 d (dset e 18 7 0) (by omega) (by omega) (by omega) ⟨d 22 5, by
      have := hJ.thrown 0
      rw [dset_id hg]
      exact this⟩ (by omega) rfl hg rfl (Nat.zero_le _)
    refine ⟨(0, nI A', E d'), nI A', EM e', ?_, ?_, Or.inl ⟨rfl, ?_, rfl⟩, c, r, _, _, rfl, rfl, q3, by omega⟩
    · unfold r_X7_run
      rw [if_neg (by rw [x_l1, x_lt (by omega) (by decide)]; omega), if_pos (by rw [x_l50, x_le (by omega) (by decide)]; omega), x_oiS, E_22, x_l0]
      exact q1
    · unfold r_X8_run
      rw [x_l1, x_l50, k_isWithin, if_pos hx, x_obS, k_goesT, x_obS, if_neg (by decide), x_l0]
      exact q2
    · rw [EM_18, q4]
      rfl
  · refine ⟨(2, 0, E d), 0, EM (dset e 18 7 1), ?_, ?_, Or.inr ⟨rfl, rfl⟩, c, r, d, _, rfl, rfl, hJ.thrown 1, by omega⟩
    · unfold r_X7_run r_X7_run_b11
      by_cases g1 : x < (1 : Int32)
      · rw [if_pos g1]
      · rw [if_neg g1, if_neg]
        intro g2
        exact hx ⟨Int32.not_lt.mp g1, g2⟩
    · unfold r_X8_run
      rw [x_l1, x_l50, k_isWithin, if_neg hx, x_obS, k_goesF F e (by decide) (by decide), x_obS, if_pos (by decide)]
