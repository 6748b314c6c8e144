/-! what hangs on what: all that the reference lays -/
theorem k_l24 (F : Nat) {c r : Nat} {d e : DS} (hF : 1000 ≤ F) (hJ : JJ c r d e) : ∀ (k n b : Nat) (g : Nat → Nat), b + k = c * r * 10 → k + 1 ≤ n → (∀ i, g i ≤ 1) → ∃ g', r_X8_lays_b24 F n (nI b) (EM (a16 e g)) = some (0, EM (a16 e g')) ∧ (∀ i, g' i ≤ 1) ∧ ∀ i, g' i = 1 ↔ g i = 1 ∨ ∃ b', b ≤ b' ∧ b' < c * r * 10 ∧ ∃ j, j < d 15 b' ∧ ∃ q, q ∈ wkp c r d (d 14 (3 * b' + j)) ∧ i = edg c r q := by
  have hN := hJ.1.1.2.2.1
  have h16 := Gr16 hN
  have hG := hJ.grm
  obtain ⟨j6, j6', j7, j1, j80⟩ := hJ.1.2
  have z0 : ∀ g, EM (a16 e g) 18 0 = nI c := fun g => congrArg nI hG.1
  have z1 : ∀ g, EM (a16 e g) 18 1 = nI r := fun g => congrArg nI hG.2.1
  intro k
  induction k with
  | zero =>
    intro n b g h1 h2 hg
    obtain ⟨n, rfl⟩ : ∃ k, n = k + 1 := ⟨n - 1, by omega⟩
    refine ⟨g, ?_, hg, fun i => ?_⟩
    · rw [r_X8_lays_b24_s, z0, z1, x_l10, pk_mul, pk_mul, if_pos (by rw [x_le (by omega) (by omega)]; omega)]
    · constructor
      · exact fun h => Or.inl h
      · rintro (h | ⟨b', y1, y2, -⟩)
        · exact h
        · omega
  | succ k ih =>
    intro n b g h1 h2 hg
    obtain ⟨n, rfl⟩ : ∃ k, n = k + 1 := ⟨n - 1, by omega⟩
    have hs := (hJ.2.2.2.1 b (by omega)).1
    obtain ⟨g1, e1, e2, e3⟩ := k_l42 (r_X8_lays_b24 F n) F hF hJ (show b < c * r * 10 by omega) (d 15 b) F 0 g (by omega) (by omega) hg
    obtain ⟨g', f1, f2, f3⟩ := ih n (b + 1) g1 (by omega) (by omega) e2
    refine ⟨g', ?_, f2, fun i => ?_⟩
    · rw [r_X8_lays_b24_s, z0, z1, x_l10, pk_mul, pk_mul, if_neg (by rw [x_le (by omega) (by omega)]; omega)]
      exact e1.trans f1
    · rw [f3, e3]
      constructor
      · rintro ((h | ⟨j, w1, w2, w3⟩) | ⟨b', w1, w2, w3⟩)
        · exact Or.inl h
        · exact Or.inr ⟨b, Nat.le_refl _, by omega, j, w2, w3⟩
        · exact Or.inr ⟨b', by omega, w2, w3⟩
      · rintro (h | ⟨b', w1, w2, j, w3, w4⟩)
        · exact Or.inl (Or.inl h)
        · rcases Nat.eq_or_lt_of_le w1 with z | z
          · subst z
            exact Or.inl (Or.inr ⟨j, Nat.zero_le _, w3, w4⟩)
          · exact Or.inr ⟨b', z, w2, j, w3, w4⟩
theorem dfl_s (d : DS) (k i v : Nat) : dset (dfill d k i v) k i v = dfill d k (i + 1) v := by
  funext k' j
  rw [dset_a]
  unfold dfill
  by_cases h : k' = k ∧ j = i
  · rw [if_pos h, if_pos ⟨h.1, by omega⟩]
  · rw [if_neg h]
    by_cases h2 : k' = k ∧ j < i
    · rw [if_pos h2, if_pos ⟨h2.1, by omega⟩]
    · rw [if_neg h2, if_neg]
      intro z
      by_cases y : j = i
      · exact h ⟨z.1, y⟩
      · exact h2 ⟨z.1, by omega⟩
theorem dfl_0 (d : DS) (k v : Nat) : dfill d k 0 v = d := by
  funext k' j
  unfold dfill
  rw [if_neg (by omega)]
theorem k_l2 (F : Nat) (e : DS) : ∀ (k n i : Nat), i + k = 25600 → k + 1 ≤ n → r_X8_lays_b2 F n (nI i) (EM (dfill e 16 i 0)) = r_X8_lays_b24 F F (nI 0) (EM (a16 e (fun _ => 0))) := by
  intro k
  induction k with
  | zero =>
    intro n i h1 h2
    obtain ⟨n, rfl⟩ : ∃ k, n = k + 1 := ⟨n - 1, by omega⟩
    obtain rfl : i = 25600 := by omega
    rw [r_X8_lays_b2_s, if_pos (by rw [x_l25600, x_le (by omega) (by omega)]; omega), x_l0]
    rfl
  | succ k ih =>
    intro n i h1 h2
    obtain ⟨n, rfl⟩ : ∃ k, n = k + 1 := ⟨n - 1, by omega⟩
    have hst : x_st (EM (dfill e 16 i 0)) 16 (nI i) (vp_nar .boolean (0 : Int32)) = EM (dfill e 16 (i + 1) 0) := by
      show cset (EM (dfill e 16 i 0)) 16 (nI i).toNatClampNeg (vp_nar .boolean (nI 0)) = _
      rw [x_cl (by omega), x_zn (by decide), EMs_16, dfl_s]
    rw [r_X8_lays_b2_s, if_neg (by rw [x_l25600, x_le (by omega) (by omega)]; omega), x_ogT (x_inT (by omega) (by omega)), hst, x_osS, x_l1, nI_add]
    exact ih n (i + 1) (by omega) (by omega)
theorem k_lays (F : Nat) {c r : Nat} {d e : DS} (hF : 30000 ≤ F) (hJ : JJ c r d e) : ∃ g, r_X8_lays F (EM e) = some (0, EM (a16 e g)) ∧ (∀ i, g i ≤ 1) ∧ ∀ i, g i = 1 ↔ ∃ b o, hgs c r d (d 22 4) b o = 1 ∧ i = edg c r (b, o) := by
  have hN := hJ.1.1.2.2.1
  have h16 := Gr16 hN
  have h2 := k_l2 F e 25600 F 0 (by omega) (by omega)
  rw [dfl_0] at h2
  obtain ⟨g, e1, e2, e3⟩ := k_l24 F (by omega) hJ (c * r * 10) F 0 (fun _ => 0) (by omega) (by omega) (fun _ => Nat.zero_le _)
  refine ⟨g, ?_, e2, fun i => ?_⟩
  · unfold r_X8_lays
    rw [x_l0]
    exact h2.trans e1
  · rw [e3]
    constructor
    · rintro (h | ⟨b, w1, w2, j, w3, q, w4, w5⟩)
      · exact absurd (show (0 : Nat) = 1 from h) (by decide)
      · obtain ⟨-, hq⟩ := hJ.2.2.2.1 b (by omega)
        obtain ⟨q1, q2, q3, q4⟩ := hq j w3
        refine ⟨q.1, q.2, ?_, w5⟩
        rw [hgs_iff]
        exact ⟨_, q1, by rw [q2]; exact Nat.succ_ne_zero _, w4⟩
    · rintro ⟨b, o, w1, w2⟩
      obtain ⟨p, w3, w4, w5⟩ := (hgs_iff c r d b o _).mp w1
      obtain ⟨j, w6, w7⟩ := hJ.2.2.2.2.1 p w3 w4
      obtain ⟨p1, p2, p3, p4, p5, p6, p7⟩ := hJ.2.2.1 p w3
      refine Or.inr ⟨pb d p, Nat.zero_le _, ?_, j, w6, (b, o), by rw [w7]; exact w5, w2⟩
      show (d 10 p - 1) * 10 + 2 * d 11 p + d 8 p < c * r * 10
      omega
