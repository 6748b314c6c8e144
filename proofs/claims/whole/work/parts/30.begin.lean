/-! begin, and how it all begins -/
theorem n_b23 (K12 : Int32 → CS → Option (Int32 × CS)) (F c y : Nat) (hc : 2 ≤ c ∧ c ≤ 4) (hy : y ≤ 3) : ∀ (m n x : Nat) (d : DS), x + m = c → m + 1 ≤ n → d 22 2 = c → (∀ w, w < y * c + x → d 4 w = w % c ∧ d 5 w = w / c) → ∃ d' : DS, r_X3_lay_b23 K12 F n (nI y) (nI x) (E d) = K12 (nI (y + 1)) (E d') ∧ (∀ w, w < y * c + c → d' 4 w = w % c ∧ d' 5 w = w / c) ∧ ∀ k, k ≠ 4 → k ≠ 5 → d' k = d k := by
  intro m
  induction m with
  | zero =>
    intro n x d h1 h2 h3 h4
    obtain ⟨n, rfl⟩ : ∃ k, n = k + 1 := ⟨n - 1, by omega⟩
    obtain rfl : x = c := by omega
    refine ⟨d, ?_, h4, fun k _ _ => rfl⟩
    rw [r_X3_lay_b23_s]
    simp (disch := omega) only [x_obS, x_oiS, x_osS, x_og1, x_inT, x_nzT, x_boT, x_lt, x_le, x_eq, x_cl, nI_add, pk_mul, x_at, x_st, x_lm1, x_meq, x_nm, x_mneq, x_m0, x_mge, x_sub1, x_subN, if_pos, if_neg, if_true, if_false, x_l0, x_l1, x_l2, x_l3, x_l4, x_l5, x_l8, x_l10, x_l16, x_l50, x_l80, x_l128, x_l160, x_l640, x_l25600, E_0, E_1, E_2, E_3, E_4, E_5, E_6, E_7, E_8, E_9, E_10, E_11, E_12, E_13, E_14, E_15, E_16, E_17, E_18, E_19, E_20, E_21, E_22, Es_0, Es_1, Es_2, Es_3, Es_4, Es_5, Es_6, Es_7, Es_8, Es_9, Es_11, Es_12, Es_13, Es_14, Es_15, Es_16, Es_17, Es_18, Es_21, Es_22, Es_10, Es_19, Es_20, Es_10n, Es_19n, Es_20n, n_at_0, n_at_1, n_at_2, n_at_3, n_at_4, n_at_5, n_at_6, n_at_7, n_at_8, n_at_9, n_at_10, n_at_11, n_at_12, n_at_13, n_at_14, n_at_15, n_at_16, n_at_17, n_at_18, n_at_19, n_at_20, n_at_21, n_put_0, n_put_1, n_put_2, n_put_3, n_put_4, n_put_5, n_put_6, n_put_7, n_put_8, n_put_9, n_put_10, n_put_11, n_put_12, n_put_13, n_put_14, n_put_15, n_put_16, n_put_17, n_put_18, n_put_19, n_put_20, n_put_21, n_put_10n, n_put_19n, n_put_20n, n_add_0, n_add_1, n_add_2, n_add_3, n_add_4, n_add_5, n_add_6, n_add_7, n_add_8, n_add_9, n_add_11, n_add_12, n_add_13, n_add_14, n_add_15, n_add_16, n_add_17, n_add_18, n_add_21, n_sub_0, n_sub_1, n_sub_2, n_sub_3, n_sub_4, n_sub_5, n_sub_6, n_sub_7, n_sub_8, n_sub_9, n_sub_11, n_sub_12, n_sub_13, n_sub_14, n_sub_15, n_sub_16, n_sub_17, n_sub_18, n_sub_21, h3]
  | succ m ih =>
    intro n x d h1 h2 h3 h4
    obtain ⟨n, rfl⟩ : ∃ k, n = k + 1 := ⟨n - 1, by omega⟩
    have h5 : y * c ≤ 3 * 4 := Nat.mul_le_mul hy hc.2
    have hI : ∀ w, w < y * c + (x + 1) → dset (dset d 4 (y * c + x) x) 5 (y * c + x) y 4 w = w % c ∧ dset (dset d 4 (y * c + x) x) 5 (y * c + x) y 5 w = w / c := by
      intro w hw
      rw [dset_n _ _ _ _ (by decide), dset_a, dset_a, dset_n _ _ _ _ (by decide)]
      by_cases h6 : w = y * c + x
      · subst h6
        rw [if_pos ⟨rfl, rfl⟩, if_pos ⟨rfl, rfl⟩, Nat.mul_comm y c, Nat.mul_add_mod, Nat.mod_eq_of_lt (by omega), Nat.mul_add_div (by omega), Nat.div_eq_of_lt (by omega)]
        exact ⟨rfl, rfl⟩
      · rw [if_neg (by omega), if_neg (by omega)]
        exact h4 w (by omega)
    obtain ⟨d', e1, e2, e3⟩ := ih n (x + 1) _ (by omega) (by omega) (show dset (dset d 4 (y * c + x) x) 5 (y * c + x) y 22 2 = c from h3) hI
    refine ⟨d', ?_, e2, fun k h6 h7 => (e3 k h6 h7).trans ?_⟩
    · rw [r_X3_lay_b23_s]
      simp (disch := omega) only [x_obS, x_oiS, x_osS, x_og1, x_inT, x_nzT, x_boT, x_lt, x_le, x_eq, x_cl, nI_add, pk_mul, x_at, x_st, x_lm1, x_meq, x_nm, x_mneq, x_m0, x_mge, x_sub1, x_subN, if_pos, if_neg, if_true, if_false, x_l0, x_l1, x_l2, x_l3, x_l4, x_l5, x_l8, x_l10, x_l16, x_l50, x_l80, x_l128, x_l160, x_l640, x_l25600, E_0, E_1, E_2, E_3, E_4, E_5, E_6, E_7, E_8, E_9, E_10, E_11, E_12, E_13, E_14, E_15, E_16, E_17, E_18, E_19, E_20, E_21, E_22, Es_0, Es_1, Es_2, Es_3, Es_4, Es_5, Es_6, Es_7, Es_8, Es_9, Es_11, Es_12, Es_13, Es_14, Es_15, Es_16, Es_17, Es_18, Es_21, Es_22, Es_10, Es_19, Es_20, Es_10n, Es_19n, Es_20n, n_at_0, n_at_1, n_at_2, n_at_3, n_at_4, n_at_5, n_at_6, n_at_7, n_at_8, n_at_9, n_at_10, n_at_11, n_at_12, n_at_13, n_at_14, n_at_15, n_at_16, n_at_17, n_at_18, n_at_19, n_at_20, n_at_21, n_put_0, n_put_1, n_put_2, n_put_3, n_put_4, n_put_5, n_put_6, n_put_7, n_put_8, n_put_9, n_put_10, n_put_11, n_put_12, n_put_13, n_put_14, n_put_15, n_put_16, n_put_17, n_put_18, n_put_19, n_put_20, n_put_21, n_put_10n, n_put_19n, n_put_20n, n_add_0, n_add_1, n_add_2, n_add_3, n_add_4, n_add_5, n_add_6, n_add_7, n_add_8, n_add_9, n_add_11, n_add_12, n_add_13, n_add_14, n_add_15, n_add_16, n_add_17, n_add_18, n_add_21, n_sub_0, n_sub_1, n_sub_2, n_sub_3, n_sub_4, n_sub_5, n_sub_6, n_sub_7, n_sub_8, n_sub_9, n_sub_11, n_sub_12, n_sub_13, n_sub_14, n_sub_15, n_sub_16, n_sub_17, n_sub_18, n_sub_21, h3, dset_n]
      exact e1
    · funext j
      rw [dset_n _ _ _ _ h7, dset_n _ _ _ _ h6]
theorem n_b12 (F c r : Nat) (hN : GrN c r) (hF : 1000 ≤ F) : ∀ (m n y : Nat) (d : DS), y + m = r → m + 1 ≤ n → d 22 2 = c → d 22 3 = r → (∀ w, w < y * c → d 4 w = w % c ∧ d 5 w = w / c) → ∃ d' : DS, r_X3_lay_b12 F n (nI y) (E d) = some (0, E d') ∧ (∀ w, w < r * c → d' 4 w = w % c ∧ d' 5 w = w / c) ∧ ∀ k, k ≠ 4 → k ≠ 5 → d' k = d k := by
  obtain ⟨hc1, hc2, hr1, hr2⟩ := hN
  intro m
  induction m with
  | zero =>
    intro n y d h1 h2 h3 h4 h5
    obtain ⟨n, rfl⟩ : ∃ k, n = k + 1 := ⟨n - 1, by omega⟩
    obtain rfl : y = r := by omega
    refine ⟨d, ?_, h5, fun k _ _ => rfl⟩
    rw [r_X3_lay_b12_s]
    simp (disch := omega) only [x_obS, x_oiS, x_osS, x_og1, x_inT, x_nzT, x_boT, x_lt, x_le, x_eq, x_cl, nI_add, pk_mul, x_at, x_st, x_lm1, x_meq, x_nm, x_mneq, x_m0, x_mge, x_sub1, x_subN, if_pos, if_neg, if_true, if_false, x_l0, x_l1, x_l2, x_l3, x_l4, x_l5, x_l8, x_l10, x_l16, x_l50, x_l80, x_l128, x_l160, x_l640, x_l25600, E_0, E_1, E_2, E_3, E_4, E_5, E_6, E_7, E_8, E_9, E_10, E_11, E_12, E_13, E_14, E_15, E_16, E_17, E_18, E_19, E_20, E_21, E_22, Es_0, Es_1, Es_2, Es_3, Es_4, Es_5, Es_6, Es_7, Es_8, Es_9, Es_11, Es_12, Es_13, Es_14, Es_15, Es_16, Es_17, Es_18, Es_21, Es_22, Es_10, Es_19, Es_20, Es_10n, Es_19n, Es_20n, n_at_0, n_at_1, n_at_2, n_at_3, n_at_4, n_at_5, n_at_6, n_at_7, n_at_8, n_at_9, n_at_10, n_at_11, n_at_12, n_at_13, n_at_14, n_at_15, n_at_16, n_at_17, n_at_18, n_at_19, n_at_20, n_at_21, n_put_0, n_put_1, n_put_2, n_put_3, n_put_4, n_put_5, n_put_6, n_put_7, n_put_8, n_put_9, n_put_10, n_put_11, n_put_12, n_put_13, n_put_14, n_put_15, n_put_16, n_put_17, n_put_18, n_put_19, n_put_20, n_put_21, n_put_10n, n_put_19n, n_put_20n, n_add_0, n_add_1, n_add_2, n_add_3, n_add_4, n_add_5, n_add_6, n_add_7, n_add_8, n_add_9, n_add_11, n_add_12, n_add_13, n_add_14, n_add_15, n_add_16, n_add_17, n_add_18, n_add_21, n_sub_0, n_sub_1, n_sub_2, n_sub_3, n_sub_4, n_sub_5, n_sub_6, n_sub_7, n_sub_8, n_sub_9, n_sub_11, n_sub_12, n_sub_13, n_sub_14, n_sub_15, n_sub_16, n_sub_17, n_sub_18, n_sub_21, h4]
  | succ m ih =>
    intro n y d h1 h2 h3 h4 h5
    obtain ⟨n, rfl⟩ : ∃ k, n = k + 1 := ⟨n - 1, by omega⟩
    obtain ⟨d1, e1, e2, e3⟩ := n_b23 (r_X3_lay_b12 F n) F c y ⟨hc1, hc2⟩ (by omega) c F 0 d (by omega) (by omega) h3 h5
    obtain ⟨d', f1, f2, f3⟩ := ih n (y + 1) d1 (by omega) (by omega) (by rw [e3 22 (by decide) (by decide)]; exact h3) (by rw [e3 22 (by decide) (by decide)]; exact h4) (fun w hw => e2 w (by rw [Nat.add_mul] at hw; omega))
    refine ⟨d', ?_, f2, fun k h6 h7 => (f3 k h6 h7).trans (e3 k h6 h7)⟩
    rw [r_X3_lay_b12_s]
    simp (disch := omega) only [x_obS, x_oiS, x_osS, x_og1, x_inT, x_nzT, x_boT, x_lt, x_le, x_eq, x_cl, nI_add, pk_mul, x_at, x_st, x_lm1, x_meq, x_nm, x_mneq, x_m0, x_mge, x_sub1, x_subN, if_pos, if_neg, if_true, if_false, x_l0, x_l1, x_l2, x_l3, x_l4, x_l5, x_l8, x_l10, x_l16, x_l50, x_l80, x_l128, x_l160, x_l640, x_l25600, E_0, E_1, E_2, E_3, E_4, E_5, E_6, E_7, E_8, E_9, E_10, E_11, E_12, E_13, E_14, E_15, E_16, E_17, E_18, E_19, E_20, E_21, E_22, Es_0, Es_1, Es_2, Es_3, Es_4, Es_5, Es_6, Es_7, Es_8, Es_9, Es_11, Es_12, Es_13, Es_14, Es_15, Es_16, Es_17, Es_18, Es_21, Es_22, Es_10, Es_19, Es_20, Es_10n, Es_19n, Es_20n, n_at_0, n_at_1, n_at_2, n_at_3, n_at_4, n_at_5, n_at_6, n_at_7, n_at_8, n_at_9, n_at_10, n_at_11, n_at_12, n_at_13, n_at_14, n_at_15, n_at_16, n_at_17, n_at_18, n_at_19, n_at_20, n_at_21, n_put_0, n_put_1, n_put_2, n_put_3, n_put_4, n_put_5, n_put_6, n_put_7, n_put_8, n_put_9, n_put_10, n_put_11, n_put_12, n_put_13, n_put_14, n_put_15, n_put_16, n_put_17, n_put_18, n_put_19, n_put_20, n_put_21, n_put_10n, n_put_19n, n_put_20n, n_add_0, n_add_1, n_add_2, n_add_3, n_add_4, n_add_5, n_add_6, n_add_7, n_add_8, n_add_9, n_add_11, n_add_12, n_add_13, n_add_14, n_add_15, n_add_16, n_add_17, n_add_18, n_add_21, n_sub_0, n_sub_1, n_sub_2, n_sub_3, n_sub_4, n_sub_5, n_sub_6, n_sub_7, n_sub_8, n_sub_9, n_sub_11, n_sub_12, n_sub_13, n_sub_14, n_sub_15, n_sub_16, n_sub_17, n_sub_18, n_sub_21, h4]
    exact e1.trans f1
theorem n_lay {F c r : Nat} (hN : GrN c r) (hF : 1000 ≤ F) (d : DS) : ∃ d' : DS, r_X3_lay F (nI c) (nI r) (E d) = some (0, E d') ∧ (∀ w, w < c * r → d' 4 w = w % c ∧ d' 5 w = w / c) ∧ d' 22 2 = c ∧ d' 22 3 = r := by
  have hN2 := hN
  obtain ⟨hc1, hc2, hr1, hr2⟩ := hN2
  obtain ⟨d', f1, f2, f3⟩ := n_b12 F c r hN hF r F 0 (dset (dset d 22 2 c) 22 3 r) (by omega) (by omega) rfl rfl (fun w hw => by omega)
  refine ⟨d', ?_, ?_, ?_, ?_⟩
  · unfold r_X3_lay
    simp (disch := omega) only [x_obS, x_oiS, x_osS, x_og1, x_inT, x_nzT, x_boT, x_lt, x_le, x_eq, x_cl, nI_add, pk_mul, x_at, x_st, x_lm1, x_meq, x_nm, x_mneq, x_m0, x_mge, x_sub1, x_subN, if_pos, if_neg, if_true, if_false, x_l0, x_l1, x_l2, x_l3, x_l4, x_l5, x_l8, x_l10, x_l16, x_l50, x_l80, x_l128, x_l160, x_l640, x_l25600, E_0, E_1, E_2, E_3, E_4, E_5, E_6, E_7, E_8, E_9, E_10, E_11, E_12, E_13, E_14, E_15, E_16, E_17, E_18, E_19, E_20, E_21, E_22, Es_0, Es_1, Es_2, Es_3, Es_4, Es_5, Es_6, Es_7, Es_8, Es_9, Es_11, Es_12, Es_13, Es_14, Es_15, Es_16, Es_17, Es_18, Es_21, Es_22, Es_10, Es_19, Es_20, Es_10n, Es_19n, Es_20n, n_at_0, n_at_1, n_at_2, n_at_3, n_at_4, n_at_5, n_at_6, n_at_7, n_at_8, n_at_9, n_at_10, n_at_11, n_at_12, n_at_13, n_at_14, n_at_15, n_at_16, n_at_17, n_at_18, n_at_19, n_at_20, n_at_21, n_put_0, n_put_1, n_put_2, n_put_3, n_put_4, n_put_5, n_put_6, n_put_7, n_put_8, n_put_9, n_put_10, n_put_11, n_put_12, n_put_13, n_put_14, n_put_15, n_put_16, n_put_17, n_put_18, n_put_19, n_put_20, n_put_21, n_put_10n, n_put_19n, n_put_20n, n_add_0, n_add_1, n_add_2, n_add_3, n_add_4, n_add_5, n_add_6, n_add_7, n_add_8, n_add_9, n_add_11, n_add_12, n_add_13, n_add_14, n_add_15, n_add_16, n_add_17, n_add_18, n_add_21, n_sub_0, n_sub_1, n_sub_2, n_sub_3, n_sub_4, n_sub_5, n_sub_6, n_sub_7, n_sub_8, n_sub_9, n_sub_11, n_sub_12, n_sub_13, n_sub_14, n_sub_15, n_sub_16, n_sub_17, n_sub_18, n_sub_21]
    exact f1
  · rw [Nat.mul_comm c r]
    exact f2
  · rw [f3 22 (by decide) (by decide)]
    rfl
  · rw [f3 22 (by decide) (by decide)]
    rfl
def anew (d : DS) (a b : Nat) : DS := dset (dfill (dfill (dfill (dfill (dset (dfill (dfill (dset (dfill (dset (dset (dset d 22 4 0) 22 5 0) 22 6 a) 15 160 0) 22 7 b) 16 160 a) 17 640 0) 22 8 0) 18 16 1) 19 16 0) 0 16 0) 1 80 0) 22 1 0
theorem n_layAnew {F c r : Nat} (hN : GrN c r) (hF : 1000 ≤ F) (a b : Nat) (d : DS) : ∃ d' : DS, r_X7_layAnew F (nI c) (nI r) (nI a) (nI b) (E d) = some (0, E (anew d' a b)) ∧ (∀ w, w < c * r → d' 4 w = w % c ∧ d' 5 w = w / c) ∧ d' 22 2 = c ∧ d' 22 3 = r := by
  obtain ⟨d', f1, f2, f3, f4⟩ := n_lay hN hF d
  refine ⟨d', ?_, f2, f3, f4⟩
  unfold r_X7_layAnew r_X4_clear r_X0_clear r_X2_fill r_X6_clear anew
  rw [f1]
  simp (disch := omega) only [x_obS, x_oiS, x_osS, x_og1, x_inT, x_nzT, x_boT, x_lt, x_le, x_eq, x_cl, nI_add, pk_mul, x_at, x_st, x_lm1, x_meq, x_nm, x_mneq, x_m0, x_mge, x_sub1, x_subN, if_pos, if_neg, if_true, if_false, x_l0, x_l1, x_l2, x_l3, x_l4, x_l5, x_l8, x_l10, x_l16, x_l50, x_l80, x_l128, x_l160, x_l640, x_l25600, E_0, E_1, E_2, E_3, E_4, E_5, E_6, E_7, E_8, E_9, E_10, E_11, E_12, E_13, E_14, E_15, E_16, E_17, E_18, E_19, E_20, E_21, E_22, Es_0, Es_1, Es_2, Es_3, Es_4, Es_5, Es_6, Es_7, Es_8, Es_9, Es_11, Es_12, Es_13, Es_14, Es_15, Es_16, Es_17, Es_18, Es_21, Es_22, Es_10, Es_19, Es_20, Es_10n, Es_19n, Es_20n, n_at_0, n_at_1, n_at_2, n_at_3, n_at_4, n_at_5, n_at_6, n_at_7, n_at_8, n_at_9, n_at_10, n_at_11, n_at_12, n_at_13, n_at_14, n_at_15, n_at_16, n_at_17, n_at_18, n_at_19, n_at_20, n_at_21, n_put_0, n_put_1, n_put_2, n_put_3, n_put_4, n_put_5, n_put_6, n_put_7, n_put_8, n_put_9, n_put_10, n_put_11, n_put_12, n_put_13, n_put_14, n_put_15, n_put_16, n_put_17, n_put_18, n_put_19, n_put_20, n_put_21, n_put_10n, n_put_19n, n_put_20n, n_add_0, n_add_1, n_add_2, n_add_3, n_add_4, n_add_5, n_add_6, n_add_7, n_add_8, n_add_9, n_add_11, n_add_12, n_add_13, n_add_14, n_add_15, n_add_16, n_add_17, n_add_18, n_add_21, n_sub_0, n_sub_1, n_sub_2, n_sub_3, n_sub_4, n_sub_5, n_sub_6, n_sub_7, n_sub_8, n_sub_9, n_sub_11, n_sub_12, n_sub_13, n_sub_14, n_sub_15, n_sub_16, n_sub_17, n_sub_18, n_sub_21, n_fill_15 _ _ _ hF, n_fill_16 _ _ _ hF, n_fill_17 _ _ _ hF, n_fill_18 _ _ _ hF, n_fill_19 _ _ hF, n_fill_0 _ _ _ hF, n_fill_1 _ _ _ hF]
theorem dfill_s (d : DS) (k n v : Nat) : dset (dfill d k n v) k n v = dfill d k (n + 1) v := by
  funext k' j
  rw [dset_a]
  unfold dfill
  by_cases h : k' = k
  · subst h
    by_cases h2 : j = n
    · subst h2
      simp
    · by_cases h3 : j < n
      · simp [h2, h3, show j < n + 1 by omega]
      · simp [h2, h3, show ¬ j < n + 1 by omega]
  · simp [h]
theorem dfill_0 (d : DS) (k v : Nat) : dfill d k 0 v = d := by
  funext k' j
  simp [dfill]
theorem k_b138 (F : Nat) : ∀ (m n i : Nat) (e : DS), i + m = 16 → m + 1 ≤ n → (∀ j, j < i → e 7 j = 0 ∧ e 5 j = 1 ∧ e 6 j = 0) → ∃ e' : DS, r_X8_begins_b138 F n (nI i) (EM e) = some (0, EM e') ∧ (∀ j, j < 16 → e' 7 j = 0 ∧ e' 5 j = 1 ∧ e' 6 j = 0) ∧ ∀ k, k ≠ 5 → k ≠ 6 → k ≠ 7 → e' k = e k := by
  intro m
  induction m with
  | zero =>
    intro n i e h1 h2 h3
    obtain ⟨n, rfl⟩ : ∃ k, n = k + 1 := ⟨n - 1, by omega⟩
    obtain rfl : i = 16 := by omega
    refine ⟨e, ?_, h3, fun k _ _ _ => rfl⟩
    rw [r_X8_begins_b138_s]
    simp (disch := omega) only [x_obS, x_oiS, x_osS, x_og1, x_inT, x_nzT, x_boT, x_lt, x_le, x_eq, x_cl, nI_add, pk_mul, x_at, x_st, x_lm1, x_meq, x_nm, x_mneq, x_m0, x_mge, x_sub1, x_subN, if_pos, if_neg, if_true, if_false, x_l0, x_l1, x_l2, x_l3, x_l4, x_l5, x_l8, x_l10, x_l16, x_l50, x_l80, x_l128, x_l160, x_l640, x_l25600, EM_0, EM_1, EM_2, EM_3, EM_4, EM_5, EM_6, EM_7, EM_8, EM_9, EM_10, EM_11, EM_12, EM_13, EM_14, EM_15, EM_16, EM_17, EM_18, EMs_0, EMs_1, EMs_2, EMs_3, EMs_4, EMs_5, EMs_7, EMs_8, EMs_9, EMs_10, EMs_11, EMs_13, EMs_14, EMs_16, EMs_17, EMs_18, EMs_6, EMs_12, EMs_15, EMs_6n, EMs_12n, EMs_15n, x_zn]
  | succ m ih =>
    intro n i e h1 h2 h3
    obtain ⟨n, rfl⟩ : ∃ k, n = k + 1 := ⟨n - 1, by omega⟩
    have hI : ∀ j, j < i + 1 → dset (dset (dset e 5 i 1) 6 i 0) 7 i 0 7 j = 0 ∧ dset (dset (dset e 5 i 1) 6 i 0) 7 i 0 5 j = 1 ∧ dset (dset (dset e 5 i 1) 6 i 0) 7 i 0 6 j = 0 := by
      intro j hj
      simp only [dset_a]
      by_cases h6 : j = i
      · simp [h6]
      · have := h3 j (by omega)
        simp [h6, this]
    obtain ⟨e', f1, f2, f3⟩ := ih n (i + 1) _ (by omega) (by omega) hI
    refine ⟨e', ?_, f2, fun k h6 h7 h8 => (f3 k h6 h7 h8).trans ?_⟩
    · rw [r_X8_begins_b138_s]
      simp (disch := omega) only [x_obS, x_oiS, x_osS, x_og1, x_inT, x_nzT, x_boT, x_lt, x_le, x_eq, x_cl, nI_add, pk_mul, x_at, x_st, x_lm1, x_meq, x_nm, x_mneq, x_m0, x_mge, x_sub1, x_subN, if_pos, if_neg, if_true, if_false, x_l0, x_l1, x_l2, x_l3, x_l4, x_l5, x_l8, x_l10, x_l16, x_l50, x_l80, x_l128, x_l160, x_l640, x_l25600, EM_0, EM_1, EM_2, EM_3, EM_4, EM_5, EM_6, EM_7, EM_8, EM_9, EM_10, EM_11, EM_12, EM_13, EM_14, EM_15, EM_16, EM_17, EM_18, EMs_0, EMs_1, EMs_2, EMs_3, EMs_4, EMs_5, EMs_7, EMs_8, EMs_9, EMs_10, EMs_11, EMs_13, EMs_14, EMs_16, EMs_17, EMs_18, EMs_6, EMs_12, EMs_15, EMs_6n, EMs_12n, EMs_15n, x_zn]
      exact f1
    · funext j
      rw [dset_n _ _ _ _ h8, dset_n _ _ _ _ h7, dset_n _ _ _ _ h6]
theorem k_b114 (F : Nat) (e : DS) : ∀ (m n i : Nat), i + m = 80 → m + 1 ≤ n → r_X8_begins_b114 F n (nI i) (EM (dfill e 4 i 0)) = r_X8_begins_b138 F F 0 (EM (dfill e 4 80 0)) := by
  intro m
  induction m with
  | zero =>
    intro n i h1 h2
    obtain ⟨n, rfl⟩ : ∃ k, n = k + 1 := ⟨n - 1, by omega⟩
    obtain rfl : i = 80 := by omega
    rw [r_X8_begins_b114_s]
    simp (disch := omega) only [x_obS, x_oiS, x_osS, x_og1, x_inT, x_nzT, x_boT, x_lt, x_le, x_eq, x_cl, nI_add, pk_mul, x_at, x_st, x_lm1, x_meq, x_nm, x_mneq, x_m0, x_mge, x_sub1, x_subN, if_pos, if_neg, if_true, if_false, x_l0, x_l1, x_l2, x_l3, x_l4, x_l5, x_l8, x_l10, x_l16, x_l50, x_l80, x_l128, x_l160, x_l640, x_l25600, EM_0, EM_1, EM_2, EM_3, EM_4, EM_5, EM_6, EM_7, EM_8, EM_9, EM_10, EM_11, EM_12, EM_13, EM_14, EM_15, EM_16, EM_17, EM_18, EMs_0, EMs_1, EMs_2, EMs_3, EMs_4, EMs_5, EMs_7, EMs_8, EMs_9, EMs_10, EMs_11, EMs_13, EMs_14, EMs_16, EMs_17, EMs_18, EMs_6, EMs_12, EMs_15, EMs_6n, EMs_12n, EMs_15n, x_zn]
  | succ m ih =>
    intro n i h1 h2
    obtain ⟨n, rfl⟩ : ∃ k, n = k + 1 := ⟨n - 1, by omega⟩
    rw [r_X8_begins_b114_s]
    simp (disch := omega) only [x_obS, x_oiS, x_osS, x_og1, x_inT, x_nzT, x_boT, x_lt, x_le, x_eq, x_cl, nI_add, pk_mul, x_at, x_st, x_lm1, x_meq, x_nm, x_mneq, x_m0, x_mge, x_sub1, x_subN, if_pos, if_neg, if_true, if_false, x_l0, x_l1, x_l2, x_l3, x_l4, x_l5, x_l8, x_l10, x_l16, x_l50, x_l80, x_l128, x_l160, x_l640, x_l25600, EM_0, EM_1, EM_2, EM_3, EM_4, EM_5, EM_6, EM_7, EM_8, EM_9, EM_10, EM_11, EM_12, EM_13, EM_14, EM_15, EM_16, EM_17, EM_18, EMs_0, EMs_1, EMs_2, EMs_3, EMs_4, EMs_5, EMs_7, EMs_8, EMs_9, EMs_10, EMs_11, EMs_13, EMs_14, EMs_16, EMs_17, EMs_18, EMs_6, EMs_12, EMs_15, EMs_6n, EMs_12n, EMs_15n, x_zn, dfill_s]
    exact ih n (i + 1) (by omega) (by omega)
theorem k_b89 (F : Nat) (e : DS) : ∀ (m n i : Nat), i + m = 640 → m + 1 ≤ n → r_X8_begins_b89 F n (nI i) (EM (dfill e 3 i 0)) = r_X8_begins_b114 F F 0 (EM (dfill e 3 640 0)) := by
  intro m
  induction m with
  | zero =>
    intro n i h1 h2
    obtain ⟨n, rfl⟩ : ∃ k, n = k + 1 := ⟨n - 1, by omega⟩
    obtain rfl : i = 640 := by omega
    rw [r_X8_begins_b89_s]
    simp (disch := omega) only [x_obS, x_oiS, x_osS, x_og1, x_inT, x_nzT, x_boT, x_lt, x_le, x_eq, x_cl, nI_add, pk_mul, x_at, x_st, x_lm1, x_meq, x_nm, x_mneq, x_m0, x_mge, x_sub1, x_subN, if_pos, if_neg, if_true, if_false, x_l0, x_l1, x_l2, x_l3, x_l4, x_l5, x_l8, x_l10, x_l16, x_l50, x_l80, x_l128, x_l160, x_l640, x_l25600, EM_0, EM_1, EM_2, EM_3, EM_4, EM_5, EM_6, EM_7, EM_8, EM_9, EM_10, EM_11, EM_12, EM_13, EM_14, EM_15, EM_16, EM_17, EM_18, EMs_0, EMs_1, EMs_2, EMs_3, EMs_4, EMs_5, EMs_7, EMs_8, EMs_9, EMs_10, EMs_11, EMs_13, EMs_14, EMs_16, EMs_17, EMs_18, EMs_6, EMs_12, EMs_15, EMs_6n, EMs_12n, EMs_15n, x_zn]
  | succ m ih =>
    intro n i h1 h2
    obtain ⟨n, rfl⟩ : ∃ k, n = k + 1 := ⟨n - 1, by omega⟩
    rw [r_X8_begins_b89_s]
    simp (disch := omega) only [x_obS, x_oiS, x_osS, x_og1, x_inT, x_nzT, x_boT, x_lt, x_le, x_eq, x_cl, nI_add, pk_mul, x_at, x_st, x_lm1, x_meq, x_nm, x_mneq, x_m0, x_mge, x_sub1, x_subN, if_pos, if_neg, if_true, if_false, x_l0, x_l1, x_l2, x_l3, x_l4, x_l5, x_l8, x_l10, x_l16, x_l50, x_l80, x_l128, x_l160, x_l640, x_l25600, EM_0, EM_1, EM_2, EM_3, EM_4, EM_5, EM_6, EM_7, EM_8, EM_9, EM_10, EM_11, EM_12, EM_13, EM_14, EM_15, EM_16, EM_17, EM_18, EMs_0, EMs_1, EMs_2, EMs_3, EMs_4, EMs_5, EMs_7, EMs_8, EMs_9, EMs_10, EMs_11, EMs_13, EMs_14, EMs_16, EMs_17, EMs_18, EMs_6, EMs_12, EMs_15, EMs_6n, EMs_12n, EMs_15n, x_zn, dfill_s]
    exact ih n (i + 1) (by omega) (by omega)
theorem k_b64 (F v : Nat) (e : DS) : ∀ (m n i : Nat), i + m = 128 → m + 1 ≤ n → r_X8_begins_b64 F n (nI v) (nI i) (EM (dfill e 2 i v)) = r_X8_begins_b89 F F 0 (EM (dfill e 2 128 v)) := by
  intro m
  induction m with
  | zero =>
    intro n i h1 h2
    obtain ⟨n, rfl⟩ : ∃ k, n = k + 1 := ⟨n - 1, by omega⟩
    obtain rfl : i = 128 := by omega
    rw [r_X8_begins_b64_s]
    simp (disch := omega) only [x_obS, x_oiS, x_osS, x_og1, x_inT, x_nzT, x_boT, x_lt, x_le, x_eq, x_cl, nI_add, pk_mul, x_at, x_st, x_lm1, x_meq, x_nm, x_mneq, x_m0, x_mge, x_sub1, x_subN, if_pos, if_neg, if_true, if_false, x_l0, x_l1, x_l2, x_l3, x_l4, x_l5, x_l8, x_l10, x_l16, x_l50, x_l80, x_l128, x_l160, x_l640, x_l25600, EM_0, EM_1, EM_2, EM_3, EM_4, EM_5, EM_6, EM_7, EM_8, EM_9, EM_10, EM_11, EM_12, EM_13, EM_14, EM_15, EM_16, EM_17, EM_18, EMs_0, EMs_1, EMs_2, EMs_3, EMs_4, EMs_5, EMs_7, EMs_8, EMs_9, EMs_10, EMs_11, EMs_13, EMs_14, EMs_16, EMs_17, EMs_18, EMs_6, EMs_12, EMs_15, EMs_6n, EMs_12n, EMs_15n, x_zn]
  | succ m ih =>
    intro n i h1 h2
    obtain ⟨n, rfl⟩ : ∃ k, n = k + 1 := ⟨n - 1, by omega⟩
    rw [r_X8_begins_b64_s]
    simp (disch := omega) only [x_obS, x_oiS, x_osS, x_og1, x_inT, x_nzT, x_boT, x_lt, x_le, x_eq, x_cl, nI_add, pk_mul, x_at, x_st, x_lm1, x_meq, x_nm, x_mneq, x_m0, x_mge, x_sub1, x_subN, if_pos, if_neg, if_true, if_false, x_l0, x_l1, x_l2, x_l3, x_l4, x_l5, x_l8, x_l10, x_l16, x_l50, x_l80, x_l128, x_l160, x_l640, x_l25600, EM_0, EM_1, EM_2, EM_3, EM_4, EM_5, EM_6, EM_7, EM_8, EM_9, EM_10, EM_11, EM_12, EM_13, EM_14, EM_15, EM_16, EM_17, EM_18, EMs_0, EMs_1, EMs_2, EMs_3, EMs_4, EMs_5, EMs_7, EMs_8, EMs_9, EMs_10, EMs_11, EMs_13, EMs_14, EMs_16, EMs_17, EMs_18, EMs_6, EMs_12, EMs_15, EMs_6n, EMs_12n, EMs_15n, x_zn, dfill_s]
    exact ih n (i + 1) (by omega) (by omega)
theorem k_b39 (F v : Nat) (e : DS) : ∀ (m n i : Nat), i + m = 160 → m + 1 ≤ n → r_X8_begins_b39 F n (nI v) (nI i) (EM (dfill e 1 i 0)) = r_X8_begins_b64 F F (nI v) 0 (EM (dfill e 1 160 0)) := by
  intro m
  induction m with
  | zero =>
    intro n i h1 h2
    obtain ⟨n, rfl⟩ : ∃ k, n = k + 1 := ⟨n - 1, by omega⟩
    obtain rfl : i = 160 := by omega
    rw [r_X8_begins_b39_s]
    simp (disch := omega) only [x_obS, x_oiS, x_osS, x_og1, x_inT, x_nzT, x_boT, x_lt, x_le, x_eq, x_cl, nI_add, pk_mul, x_at, x_st, x_lm1, x_meq, x_nm, x_mneq, x_m0, x_mge, x_sub1, x_subN, if_pos, if_neg, if_true, if_false, x_l0, x_l1, x_l2, x_l3, x_l4, x_l5, x_l8, x_l10, x_l16, x_l50, x_l80, x_l128, x_l160, x_l640, x_l25600, EM_0, EM_1, EM_2, EM_3, EM_4, EM_5, EM_6, EM_7, EM_8, EM_9, EM_10, EM_11, EM_12, EM_13, EM_14, EM_15, EM_16, EM_17, EM_18, EMs_0, EMs_1, EMs_2, EMs_3, EMs_4, EMs_5, EMs_7, EMs_8, EMs_9, EMs_10, EMs_11, EMs_13, EMs_14, EMs_16, EMs_17, EMs_18, EMs_6, EMs_12, EMs_15, EMs_6n, EMs_12n, EMs_15n, x_zn]
  | succ m ih =>
    intro n i h1 h2
    obtain ⟨n, rfl⟩ : ∃ k, n = k + 1 := ⟨n - 1, by omega⟩
    rw [r_X8_begins_b39_s]
    simp (disch := omega) only [x_obS, x_oiS, x_osS, x_og1, x_inT, x_nzT, x_boT, x_lt, x_le, x_eq, x_cl, nI_add, pk_mul, x_at, x_st, x_lm1, x_meq, x_nm, x_mneq, x_m0, x_mge, x_sub1, x_subN, if_pos, if_neg, if_true, if_false, x_l0, x_l1, x_l2, x_l3, x_l4, x_l5, x_l8, x_l10, x_l16, x_l50, x_l80, x_l128, x_l160, x_l640, x_l25600, EM_0, EM_1, EM_2, EM_3, EM_4, EM_5, EM_6, EM_7, EM_8, EM_9, EM_10, EM_11, EM_12, EM_13, EM_14, EM_15, EM_16, EM_17, EM_18, EMs_0, EMs_1, EMs_2, EMs_3, EMs_4, EMs_5, EMs_7, EMs_8, EMs_9, EMs_10, EMs_11, EMs_13, EMs_14, EMs_16, EMs_17, EMs_18, EMs_6, EMs_12, EMs_15, EMs_6n, EMs_12n, EMs_15n, x_zn, dfill_s]
    exact ih n (i + 1) (by omega) (by omega)
def anewM (e : DS) (c r a b : Nat) : DS := dfill (dfill (dfill (dfill (dset (dset (dset (dset (dset (dset (dset e 18 0 c) 18 1 r) 18 2 a) 18 3 b) 18 4 0) 18 5 0) 18 6 0) 1 160 0) 2 128 a) 3 640 0) 4 80 0
theorem k_begins {F : Nat} (hF : 1000 ≤ F) (c r a b : Nat) (e : DS) : ∃ e' : DS, r_X8_begins F (nI c) (nI r) (nI a) (nI b) (EM e) = some (0, EM e') ∧ (∀ j, j < 16 → e' 7 j = 0 ∧ e' 5 j = 1 ∧ e' 6 j = 0) ∧ ∀ k, k ≠ 5 → k ≠ 6 → k ≠ 7 → e' k = anewM e c r a b k := by
  obtain ⟨e', f1, f2, f3⟩ := k_b138 F 16 F 0 (anewM e c r a b) (by omega) (by omega) (fun j hj => by omega)
  refine ⟨e', ?_, f2, f3⟩
  rw [← f1]
  have g1 := k_b114 F (dfill (dfill (dfill (dset (dset (dset (dset (dset (dset (dset e 18 0 c) 18 1 r) 18 2 a) 18 3 b) 18 4 0) 18 5 0) 18 6 0) 1 160 0) 2 128 a) 3 640 0) 80 F 0 (by omega) (by omega)
  have g2 := k_b89 F (dfill (dfill (dset (dset (dset (dset (dset (dset (dset e 18 0 c) 18 1 r) 18 2 a) 18 3 b) 18 4 0) 18 5 0) 18 6 0) 1 160 0) 2 128 a) 640 F 0 (by omega) (by omega)
  have g3 := k_b64 F a (dfill (dset (dset (dset (dset (dset (dset (dset e 18 0 c) 18 1 r) 18 2 a) 18 3 b) 18 4 0) 18 5 0) 18 6 0) 1 160 0) 128 F 0 (by omega) (by omega)
  have g4 := k_b39 F a (dset (dset (dset (dset (dset (dset (dset e 18 0 c) 18 1 r) 18 2 a) 18 3 b) 18 4 0) 18 5 0) 18 6 0) 160 F 0 (by omega) (by omega)
  rw [dfill_0] at g1 g2 g3 g4
  unfold r_X8_begins
  simp (disch := omega) only [x_obS, x_oiS, x_osS, x_og1, x_inT, x_nzT, x_boT, x_lt, x_le, x_eq, x_cl, nI_add, pk_mul, x_at, x_st, x_lm1, x_meq, x_nm, x_mneq, x_m0, x_mge, x_sub1, x_subN, if_pos, if_neg, if_true, if_false, x_l0, x_l1, x_l2, x_l3, x_l4, x_l5, x_l8, x_l10, x_l16, x_l50, x_l80, x_l128, x_l160, x_l640, x_l25600, EM_0, EM_1, EM_2, EM_3, EM_4, EM_5, EM_6, EM_7, EM_8, EM_9, EM_10, EM_11, EM_12, EM_13, EM_14, EM_15, EM_16, EM_17, EM_18, EMs_0, EMs_1, EMs_2, EMs_3, EMs_4, EMs_5, EMs_7, EMs_8, EMs_9, EMs_10, EMs_11, EMs_13, EMs_14, EMs_16, EMs_17, EMs_18, EMs_6, EMs_12, EMs_15, EMs_6n, EMs_12n, EMs_15n, x_zn]
  exact g4.trans (g3.trans (g2.trans g1))
theorem sumN_0 {f : Nat → Nat} : ∀ {n : Nat}, (∀ i, i < n → f i = 0) → sumN f n = 0 := by
  intro n
  induction n with
  | zero => exact fun _ => rfl
  | succ n ih =>
    intro h
    show sumN f n + f n = 0
    rw [ih (fun i hi => h i (by omega)), h n (by omega)]
theorem JJ.fresh {c r a b : Nat} {d' e e' : DS} (hN : GrN c r) (ha : 1 ≤ a ∧ a ≤ 3) (hb : b ≤ 3) (f2 : ∀ w, w < c * r → d' 4 w = w % c ∧ d' 5 w = w / c) (f3 : d' 22 2 = c) (f4 : d' 22 3 = r) (h7 : ∀ j, j < 16 → e' 7 j = 0 ∧ e' 5 j = 1 ∧ e' 6 j = 0) (hk : ∀ k, k ≠ 5 → k ≠ 6 → k ≠ 7 → e' k = anewM e c r a b k) : JJ c r (anew d' a b) e' := by
  obtain ⟨d, hd⟩ : ∃ d, d = anew d' a b := ⟨_, rfl⟩
  have h16 := Gr16 hN
  have q4 : ∀ w, w < c * r → d 4 w = w % c ∧ d 5 w = w / c := by subst hd; exact f2
  have q22 : d 22 1 = 0 ∧ d 22 2 = c ∧ d 22 3 = r ∧ d 22 4 = 0 ∧ d 22 5 = 0 ∧ d 22 6 = a ∧ d 22 7 = b ∧ d 22 8 = 0 := by subst hd; exact ⟨rfl, f3, f4, rfl, rfl, rfl, rfl, rfl⟩
  have q0 : ∀ i, i < 16 → d 0 i = 0 ∧ d 18 i = 1 ∧ d 19 i = 0 := by subst hd; exact fun i hi => ⟨if_pos ⟨rfl, hi⟩, if_pos ⟨rfl, hi⟩, if_pos ⟨rfl, hi⟩⟩
  have q1 : ∀ i, i < 80 → d 1 i = 0 := by subst hd; exact fun i hi => if_pos ⟨rfl, hi⟩
  have q15 : ∀ i, i < 160 → d 15 i = 0 ∧ d 16 i = a := by subst hd; exact fun i hi => ⟨if_pos ⟨rfl, hi⟩, if_pos ⟨rfl, hi⟩⟩
  have q17 : ∀ i, i < 640 → d 17 i = 0 := by subst hd; exact fun i hi => if_pos ⟨rfl, hi⟩
  have m18 : e' 18 0 = c ∧ e' 18 1 = r ∧ e' 18 2 = a ∧ e' 18 3 = b ∧ e' 18 4 = 0 ∧ e' 18 5 = 0 ∧ e' 18 6 = 0 := by rw [hk 18 (by decide) (by decide) (by decide)]; exact ⟨rfl, rfl, rfl, rfl, rfl, rfl, rfl⟩
  have m1 : ∀ i, i < 160 → e' 1 i = 0 := by rw [hk 1 (by decide) (by decide) (by decide)]; exact fun i hi => if_pos ⟨rfl, hi⟩
  have m2 : ∀ i, i < 128 → e' 2 i = a := by rw [hk 2 (by decide) (by decide) (by decide)]; exact fun i hi => if_pos ⟨rfl, hi⟩
  have m3 : ∀ i, i < 640 → e' 3 i = 0 := by rw [hk 3 (by decide) (by decide) (by decide)]; exact fun i hi => if_pos ⟨rfl, hi⟩
  have m4 : ∀ i, i < 80 → e' 4 i = 0 := by rw [hk 4 (by decide) (by decide) (by decide)]; exact fun i hi => if_pos ⟨rfl, hi⟩
  rw [← hd]
  clear hd hk
  obtain ⟨p1, p2, p3, p4, p5, p6, p7, p8⟩ := q22
  obtain ⟨z0, z1, z2, z3, z4, z5, z6⟩ := m18
  have hcs : ∀ b, b < 160 → cs d b = 0 := fun b hb => by
    unfold cs
    rw [q17 _ (by omega), q17 _ (by omega), q17 _ (by omega), q17 _ (by omega)]
  refine ⟨⟨⟨p2, p3, hN, q4⟩, by omega, by omega, by omega, by omega, by omega⟩, ⟨fun i hi => ?_, fun i hi => ?_⟩, fun p hp => by omega, fun b hb => ⟨?_, fun j hj => ?_⟩, fun p hp => by omega, fun p hp => by omega, ⟨fun b hb => ?_, fun b hb hm => ?_⟩, ⟨?_, fun w hw i hi l hl hn => ?_⟩, ⟨by omega, by omega, by omega, by omega, by omega, by omega, by omega⟩, ⟨fun i hi => ?_, fun i hi => ?_⟩, fun p hp => by omega, fun b hb => ⟨?_, fun j hj => ?_⟩, fun w hw o ho hn l hl => ⟨?_, fun t h1 h2 => ?_⟩⟩
  · obtain ⟨y1, y2, y3⟩ := q0 i hi
    omega
  · rw [q1 i hi]
    omega
  · rw [(q15 b hb).1]
    omega
  · rw [(q15 b hb).1] at hj
    omega
  · rw [(q15 b hb).2]
    omega
  · rw [(q15 b hb).1, (q15 b hb).2, hcs b hb]
    omega
  · exact ⟨by rw [p8, sumN_0 q17], fun b hb _ => hcs b hb⟩
  · have hb9 : bf w i l < 160 := by
      show w * 10 + 2 * i + l < 160
      omega
    rw [(q15 _ hb9).1, (q15 _ hb9).2, hcs _ hb9]
    omega
  · obtain ⟨y1, y2, y3⟩ := q0 i hi
    obtain ⟨x1, x2, x3⟩ := h7 i hi
    omega
  · rw [q1 i hi, m4 i hi]
  · rw [(q15 b hb).1, m1 b hb]
  · rw [(q15 b hb).1] at hj
    omega
  · have hb1 := nb_lt (dir := o) hN hw
    have hb9 : bf (nb c r w o - 1) o l < 160 := by
      show (nb c r w o - 1) * 10 + 2 * o + l < 160
      omega
    have hb8 : lk w o l < 128 := by
      show w * 8 + 2 * o + l < 128
      omega
    rw [(q15 _ hb9).2, m2 _ hb8]
  · have hb1 := nb_lt (dir := o) hN hw
    have hb9 : bf (nb c r w o - 1) o l < 160 := by
      show (nb c r w o - 1) * 10 + 2 * o + l < 160
      omega
    have hb8 : lk w o l < 128 := by
      show w * 8 + 2 * o + l < 128
      omega
    rw [m3 _ (by omega)]
    unfold cm
    split
    · rw [q17 _ (by omega)]
    · rfl
theorem x_rng {x : Int32} {a b : Nat} (hb : b < 1000) (ha : a < 1000) (h : nI a ≤ x ∧ x ≤ nI b) : ∃ n : Nat, a ≤ n ∧ n ≤ b ∧ x = nI n := by
  obtain ⟨h1, h2⟩ := h
  rw [Int32.le_iff_toInt_le, x_toInt (by omega)] at h1 h2
  refine ⟨x.toInt.toNat, by omega, by omega, ?_⟩
  apply Int32.toInt_inj.mp
  rw [x_toInt (by omega)]
  omega
def okB (x1 x2 x3 x4 : Int32) : Prop := (nI 2 ≤ x1 ∧ x1 ≤ nI 4) ∧ (nI 2 ≤ x2 ∧ x2 ≤ nI 4) ∧ (nI 1 ≤ x3 ∧ x3 ≤ nI 3) ∧ (nI 0 ≤ x4 ∧ x4 ≤ nI 3)
theorem n_beginX (F : Nat) {x1 x2 x3 x4 : Int32} (s : CS) (h : ¬ okB x1 x2 x3 x4) : r_X7_begin F x1 x2 x3 x4 s = some (2, 0, s) := by
  unfold r_X7_begin r_X7_begin_b20 r_X7_begin_b40 r_X7_begin_b61
  by_cases a1 : x1 < (2 : Int32)
  · rw [if_pos a1]
  rw [if_neg a1]
  by_cases a2 : (4 : Int32) < x1
  · rw [if_pos a2]
  rw [if_neg a2]
  by_cases a3 : x2 < (2 : Int32)
  · rw [if_pos a3]
  rw [if_neg a3]
  by_cases a4 : x2 ≤ (4 : Int32)
  · rw [if_pos a4]
    by_cases a5 : x3 < (1 : Int32)
    · rw [if_pos a5]
    rw [if_neg a5]
    by_cases a6 : x3 ≤ (3 : Int32)
    · rw [if_pos a6]
      by_cases a7 : x4 < 0
      · rw [if_pos a7]
      rw [if_neg a7]
      by_cases a8 : x4 ≤ (3 : Int32)
      · exact absurd ⟨⟨Int32.not_lt.mp a1, Int32.not_lt.mp a2⟩, ⟨Int32.not_lt.mp a3, a4⟩, ⟨Int32.not_lt.mp a5, a6⟩, ⟨Int32.not_lt.mp a7, a8⟩⟩ h
      · rw [if_neg a8]
    · rw [if_neg a6]
  · rw [if_neg a4]
theorem k_beginX (F : Nat) {x1 x2 x3 x4 : Int32} (e : DS) (h : ¬ okB x1 x2 x3 x4) : r_X8_begin F x1 x2 x3 x4 (EM e) = some (0, EM (dset e 18 7 1)) := by
  have h0 : r_X8_begin_b43 F x1 x2 x3 x4 (0 : Int32) (EM e) = some (0, EM (dset e 18 7 1)) := by
    unfold r_X8_begin_b43
    simp (disch := omega) only [x_obS, x_oiS, x_osS, x_og1, x_inT, x_nzT, x_boT, x_lt, x_le, x_eq, x_cl, nI_add, pk_mul, x_at, x_st, x_lm1, x_meq, x_nm, x_mneq, x_m0, x_mge, x_sub1, x_subN, if_pos, if_neg, if_true, if_false, x_l0, x_l1, x_l2, x_l3, x_l4, x_l5, x_l8, x_l10, x_l16, x_l50, x_l80, x_l128, x_l160, x_l640, x_l25600, EM_0, EM_1, EM_2, EM_3, EM_4, EM_5, EM_6, EM_7, EM_8, EM_9, EM_10, EM_11, EM_12, EM_13, EM_14, EM_15, EM_16, EM_17, EM_18, EMs_0, EMs_1, EMs_2, EMs_3, EMs_4, EMs_5, EMs_7, EMs_8, EMs_9, EMs_10, EMs_11, EMs_13, EMs_14, EMs_16, EMs_17, EMs_18, EMs_6, EMs_12, EMs_15, EMs_6n, EMs_12n, EMs_15n, x_zn, k_goesF]
  have z0 : ∀ (p : Prop) [Decidable p], ¬ p → nI (if p then 1 else 0) = nI 0 := fun p _ hp => by rw [if_neg hp]
  have z1 : ∀ (p : Prop) [Decidable p], p → ¬ nI (if p then 1 else 0) = nI 0 := fun p _ hp => by rw [if_pos hp]; decide
  unfold r_X8_begin r_X8_begin_b42
  rw [x_l0, x_l1, x_l2, x_l3, x_l4, k_isWithin, x_obS]
  by_cases a1 : nI 2 ≤ x1 ∧ x1 ≤ nI 4
  · rw [if_neg (z1 _ a1), k_isWithin, x_obS]
    by_cases a2 : nI 2 ≤ x2 ∧ x2 ≤ nI 4
    · rw [if_neg (z1 _ a2), k_isWithin, x_obS]
      by_cases a3 : nI 1 ≤ x3 ∧ x3 ≤ nI 3
      · rw [if_neg (z1 _ a3), k_isWithin, x_obS]
        by_cases a4 : nI 0 ≤ x4 ∧ x4 ≤ nI 3
        · exact absurd ⟨a1, a2, a3, a4⟩ h
        · rw [if_pos (z0 _ a4)]
          exact h0
      · rw [if_pos (z0 _ a3)]
        exact h0
    · rw [if_pos (z0 _ a2)]
      exact h0
  · rw [if_pos (z0 _ a1)]
    exact h0
theorem s_begin (F t : Nat) (hF : 1000 ≤ F) {σ τ : CS} (h : JX t σ τ) : l_S_begin F JX t σ τ := by
  obtain ⟨c, r, d, e, rfl, rfl, hJ, ht⟩ := h
  intro x1 x2 x3 x4
  by_cases hk : okB x1 x2 x3 x4
  · have hk2 := hk
    obtain ⟨a1, a2, a3, a4⟩ := hk
    obtain ⟨c, hc1, hc2, rfl⟩ := x_rng (by omega) (by omega) a1
    obtain ⟨r, hr1, hr2, rfl⟩ := x_rng (by omega) (by omega) a2
    obtain ⟨a, ha1, ha2, rfl⟩ := x_rng (by omega) (by omega) a3
    obtain ⟨b, hb1, hb2, rfl⟩ := x_rng (by omega) (by omega) a4
    obtain ⟨d', f1, f2, f3, f4⟩ := n_layAnew (F := F) ⟨hc1, hc2, hr1, hr2⟩ hF a b d
    obtain ⟨e', g1, g2, g3⟩ := k_begins hF c r a b (dset e 18 7 0)
    have g18 : e' 18 7 = 0 := by
      rw [g3 18 (by decide) (by decide) (by decide)]
      rfl
    have g0 : EM e' 18 7 = 0 := by
      rw [EM_18, g18]
      rfl
    have hJ2 := JJ.fresh ⟨hc1, hc2, hr1, hr2⟩ ⟨ha1, ha2⟩ hb2 f2 f3 f4 g2 g3
    refine ⟨(0, nI (c * r), E (anew d' a b)), nI (c * r), EM e', ?_, ?_, Or.inl ⟨rfl, g0, rfl⟩, c, r, _, _, rfl, rfl, hJ2, Nat.zero_le _⟩
    · unfold r_X7_begin
      rw [x_l0, x_l1, x_l2, x_l3, x_l4, if_neg (Int32.not_lt.mpr a1.1), if_neg (Int32.not_lt.mpr a1.2), if_neg (Int32.not_lt.mpr a2.1), if_pos a2.2, if_neg (Int32.not_lt.mpr a3.1), if_pos a3.2, if_neg (Int32.not_lt.mpr a4.1), if_pos a4.2, f1, x_obS, n_size F hJ2.1.1]
      rfl
    · have z1 : ∀ (p : Prop) [Decidable p], p → ¬ nI (if p then 1 else 0) = nI 0 := fun p _ hp => by rw [if_pos hp]; decide
      unfold r_X8_begin r_X8_begin_b43
      rw [x_l0, x_l1, x_l2, x_l3, x_l4, k_isWithin, x_obS, if_neg (z1 _ a1), k_isWithin, x_obS, if_neg (z1 _ a2), k_isWithin, x_obS, if_neg (z1 _ a3), k_isWithin, x_obS, if_neg (z1 _ a4), k_goesT F e, x_obS, if_neg (by decide), g1, x_obS, pk_mul]
  · exact ⟨(2, 0, E d), 0, EM (dset e 18 7 1), n_beginX F _ hk, k_beginX F _ hk, Or.inr ⟨rfl, rfl⟩, c, r, d, _, rfl, rfl, hJ.thrown 1, by omega⟩
theorem s_init (F : Nat) (hF : 1000 ≤ F) : l_INIT F JX := by
  have e1 : (fun _ _ => (0 : Int32)) = E (fun k _ => if mC k = true then 1 else 0) := by
    funext k i
    by_cases h : mC k = true
    · simp [E, h, mI, ← x_l0]
    · simp [E, h, mI, ← x_l0]
  have e2 : y_m0 = EM (dset (dset (dset (fun k _ => if mM k = true then 1 else 0) 18 0 2) 18 1 2) 18 2 1) := by
    have e3 : (fun _ _ => (0 : Int32)) = EM (fun k _ => if mM k = true then 1 else 0) := by
      funext k i
      by_cases h : mM k = true
      · simp [EM, h, mI, ← x_l0]
      · simp [EM, h, mI, ← x_l0]
    unfold y_m0
    rw [e3, x_l1, x_l2, EMs_18, EMs_18, EMs_18]
  obtain ⟨d', f1, f2, f3, f4⟩ := n_layAnew (F := F) (c := 2) (r := 2) ⟨by omega, by omega, by omega, by omega⟩ hF 1 0 (fun k _ => if mC k = true then 1 else 0)
  obtain ⟨e', g1, g2, g3⟩ := k_begins hF 2 2 1 0 (dset (dset (dset (fun k _ => if mM k = true then 1 else 0) 18 0 2) 18 1 2) 18 2 1)
  refine ⟨0, E (anew d' 1 0), 0, EM e', ?_, ?_, 2, 2, _, _, rfl, rfl, JJ.fresh ⟨by omega, by omega, by omega, by omega⟩ ⟨by omega, by omega⟩ (by omega) f2 f3 f4 g2 g3, Nat.zero_le _⟩
  · rw [e1]
    exact f1
  · rw [e2]
    exact g1
