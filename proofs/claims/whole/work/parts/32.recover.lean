/-! recover -/
theorem x_five {c r : Nat} {d e : DS} (hR : RLk c r d e) {w o l : Nat} (hw : w < c * r) (ho : o < 4) (h0 : nb c r w o ≠ 0) (hl : l < 2) : e 3 (5 * lk w o l + 0) + e 3 (5 * lk w o l + 1) + e 3 (5 * lk w o l + 2) + e 3 (5 * lk w o l + 3) + e 3 (5 * lk w o l + 4) = cs d (bf (nb c r w o - 1) o l) := by
  obtain ⟨-, h⟩ := hR w hw o ho h0 l hl
  generalize lk w o l = x at *
  generalize bf (nb c r w o - 1) o l = b at *
  obtain ⟨n, hn⟩ : ∃ n, n = d 22 1 := ⟨_, rfl⟩
  rw [← hn] at h
  have g0 := h n (by omega) (by omega)
  have g1 := h (n + 1) (by omega) (by omega)
  have g2 := h (n + 2) (by omega) (by omega)
  have g3 := h (n + 3) (by omega) (by omega)
  have g4 := h (n + 4) (by omega) (by omega)
  unfold cm at g0 g1 g2 g3 g4
  rw [← hn] at g0 g1 g2 g3 g4
  rw [if_pos (by omega)] at g0 g1 g2 g3
  rw [if_neg (by omega)] at g4
  unfold cs
  have h5 : n % 5 = 0 ∨ n % 5 = 1 ∨ n % 5 = 2 ∨ n % 5 = 3 ∨ n % 5 = 4 := by omega
  have h4 : n % 4 = 0 ∨ n % 4 = 1 ∨ n % 4 = 2 ∨ n % 4 = 3 := by omega
  have z5 : ∀ j, (n + j) % 5 = (n % 5 + j) % 5 := fun j => by omega
  have z4 : ∀ j, (n + j) % 4 = (n % 4 + j) % 4 := fun j => by omega
  rw [z5 1, z4 1] at g1
  rw [z5 2, z4 2] at g2
  rw [z5 3, z4 3] at g3
  rw [z5 4] at g4
  generalize n % 5 = p at *
  generalize n % 4 = q at *
  rcases h5 with rfl | rfl | rfl | rfl | rfl <;> rcases h4 with rfl | rfl | rfl | rfl <;> simp only [Nat.reduceAdd, Nat.reduceMod, Nat.add_zero] at g0 g1 g2 g3 g4 ⊢ <;> omega
theorem n_settle (F : Nat) {d : DS} {b f : Nat} (hF : 1000 ≤ F) (hb : b < 160) (hf : d 16 b + cs d b ≤ f) (h3 : f ≤ 3) : r_X2_settle F (nI b) (nI f) (E d) = some (nI (f - cs d b - d 16 b), E (dset d 16 b (f - cs d b))) := by
  obtain ⟨n, rfl⟩ : ∃ n, F = n + 5 := ⟨F - 5, by omega⟩
  have e1 : f - d 17 (b * 4) - d 17 (b * 4 + 1) - d 17 (b * 4 + 2) - d 17 (b * 4 + 3) = f - cs d b := by
    unfold cs
    omega
  unfold cs at hf
  unfold r_X2_settle
  rw [r_X2_settle_b5_s]
  simp (disch := omega) only [x_obS, x_oiS, x_osS, x_og1, x_inT, x_nzT, x_boT, x_lt, x_le, x_eq, x_cl, nI_add, pk_mul, x_at, x_st, x_lm1, x_meq, x_nm, x_mneq, x_m0, x_mge, x_sub1, x_subN, if_pos, if_neg, if_true, if_false, x_l0, x_l1, x_l2, x_l3, x_l4, x_l5, x_l8, x_l10, x_l16, x_l50, x_l80, x_l128, x_l160, x_l640, x_l25600, E_0, E_1, E_2, E_3, E_4, E_5, E_6, E_7, E_8, E_9, E_10, E_11, E_12, E_13, E_14, E_15, E_16, E_17, E_18, E_19, E_20, E_21, E_22, Es_0, Es_1, Es_2, Es_3, Es_4, Es_5, Es_6, Es_7, Es_8, Es_9, Es_11, Es_12, Es_13, Es_14, Es_15, Es_16, Es_17, Es_18, Es_21, Es_22, Es_10, Es_19, Es_20, Es_10n, Es_19n, Es_20n, n_at_0, n_at_1, n_at_2, n_at_3, n_at_4, n_at_5, n_at_6, n_at_7, n_at_8, n_at_9, n_at_10, n_at_11, n_at_12, n_at_13, n_at_14, n_at_15, n_at_16, n_at_17, n_at_18, n_at_19, n_at_20, n_at_21, n_put_0, n_put_1, n_put_2, n_put_3, n_put_4, n_put_5, n_put_6, n_put_7, n_put_8, n_put_9, n_put_10, n_put_11, n_put_12, n_put_13, n_put_14, n_put_15, n_put_16, n_put_17, n_put_18, n_put_19, n_put_20, n_put_21, n_put_10n, n_put_19n, n_put_20n, n_add_0, n_add_1, n_add_2, n_add_3, n_add_4, n_add_5, n_add_6, n_add_7, n_add_8, n_add_9, n_add_11, n_add_12, n_add_13, n_add_14, n_add_15, n_add_16, n_add_17, n_add_18, n_add_21, n_sub_0, n_sub_1, n_sub_2, n_sub_3, n_sub_4, n_sub_5, n_sub_6, n_sub_7, n_sub_8, n_sub_9, n_sub_11, n_sub_12, n_sub_13, n_sub_14, n_sub_15, n_sub_16, n_sub_17, n_sub_18, n_sub_21, n_slotOf, Nat.reduceMod, Nat.add_zero]
  rw [r_X2_settle_b5_s]
  simp (disch := omega) only [x_obS, x_oiS, x_osS, x_og1, x_inT, x_nzT, x_boT, x_lt, x_le, x_eq, x_cl, nI_add, pk_mul, x_at, x_st, x_lm1, x_meq, x_nm, x_mneq, x_m0, x_mge, x_sub1, x_subN, if_pos, if_neg, if_true, if_false, x_l0, x_l1, x_l2, x_l3, x_l4, x_l5, x_l8, x_l10, x_l16, x_l50, x_l80, x_l128, x_l160, x_l640, x_l25600, E_0, E_1, E_2, E_3, E_4, E_5, E_6, E_7, E_8, E_9, E_10, E_11, E_12, E_13, E_14, E_15, E_16, E_17, E_18, E_19, E_20, E_21, E_22, Es_0, Es_1, Es_2, Es_3, Es_4, Es_5, Es_6, Es_7, Es_8, Es_9, Es_11, Es_12, Es_13, Es_14, Es_15, Es_16, Es_17, Es_18, Es_21, Es_22, Es_10, Es_19, Es_20, Es_10n, Es_19n, Es_20n, n_at_0, n_at_1, n_at_2, n_at_3, n_at_4, n_at_5, n_at_6, n_at_7, n_at_8, n_at_9, n_at_10, n_at_11, n_at_12, n_at_13, n_at_14, n_at_15, n_at_16, n_at_17, n_at_18, n_at_19, n_at_20, n_at_21, n_put_0, n_put_1, n_put_2, n_put_3, n_put_4, n_put_5, n_put_6, n_put_7, n_put_8, n_put_9, n_put_10, n_put_11, n_put_12, n_put_13, n_put_14, n_put_15, n_put_16, n_put_17, n_put_18, n_put_19, n_put_20, n_put_21, n_put_10n, n_put_19n, n_put_20n, n_add_0, n_add_1, n_add_2, n_add_3, n_add_4, n_add_5, n_add_6, n_add_7, n_add_8, n_add_9, n_add_11, n_add_12, n_add_13, n_add_14, n_add_15, n_add_16, n_add_17, n_add_18, n_add_21, n_sub_0, n_sub_1, n_sub_2, n_sub_3, n_sub_4, n_sub_5, n_sub_6, n_sub_7, n_sub_8, n_sub_9, n_sub_11, n_sub_12, n_sub_13, n_sub_14, n_sub_15, n_sub_16, n_sub_17, n_sub_18, n_sub_21, n_slotOf, Nat.reduceMod, Nat.reduceAdd]
  rw [r_X2_settle_b5_s]
  simp (disch := omega) only [x_obS, x_oiS, x_osS, x_og1, x_inT, x_nzT, x_boT, x_lt, x_le, x_eq, x_cl, nI_add, pk_mul, x_at, x_st, x_lm1, x_meq, x_nm, x_mneq, x_m0, x_mge, x_sub1, x_subN, if_pos, if_neg, if_true, if_false, x_l0, x_l1, x_l2, x_l3, x_l4, x_l5, x_l8, x_l10, x_l16, x_l50, x_l80, x_l128, x_l160, x_l640, x_l25600, E_0, E_1, E_2, E_3, E_4, E_5, E_6, E_7, E_8, E_9, E_10, E_11, E_12, E_13, E_14, E_15, E_16, E_17, E_18, E_19, E_20, E_21, E_22, Es_0, Es_1, Es_2, Es_3, Es_4, Es_5, Es_6, Es_7, Es_8, Es_9, Es_11, Es_12, Es_13, Es_14, Es_15, Es_16, Es_17, Es_18, Es_21, Es_22, Es_10, Es_19, Es_20, Es_10n, Es_19n, Es_20n, n_at_0, n_at_1, n_at_2, n_at_3, n_at_4, n_at_5, n_at_6, n_at_7, n_at_8, n_at_9, n_at_10, n_at_11, n_at_12, n_at_13, n_at_14, n_at_15, n_at_16, n_at_17, n_at_18, n_at_19, n_at_20, n_at_21, n_put_0, n_put_1, n_put_2, n_put_3, n_put_4, n_put_5, n_put_6, n_put_7, n_put_8, n_put_9, n_put_10, n_put_11, n_put_12, n_put_13, n_put_14, n_put_15, n_put_16, n_put_17, n_put_18, n_put_19, n_put_20, n_put_21, n_put_10n, n_put_19n, n_put_20n, n_add_0, n_add_1, n_add_2, n_add_3, n_add_4, n_add_5, n_add_6, n_add_7, n_add_8, n_add_9, n_add_11, n_add_12, n_add_13, n_add_14, n_add_15, n_add_16, n_add_17, n_add_18, n_add_21, n_sub_0, n_sub_1, n_sub_2, n_sub_3, n_sub_4, n_sub_5, n_sub_6, n_sub_7, n_sub_8, n_sub_9, n_sub_11, n_sub_12, n_sub_13, n_sub_14, n_sub_15, n_sub_16, n_sub_17, n_sub_18, n_sub_21, n_slotOf, Nat.reduceMod, Nat.reduceAdd]
  rw [r_X2_settle_b5_s]
  simp (disch := omega) only [x_obS, x_oiS, x_osS, x_og1, x_inT, x_nzT, x_boT, x_lt, x_le, x_eq, x_cl, nI_add, pk_mul, x_at, x_st, x_lm1, x_meq, x_nm, x_mneq, x_m0, x_mge, x_sub1, x_subN, if_pos, if_neg, if_true, if_false, x_l0, x_l1, x_l2, x_l3, x_l4, x_l5, x_l8, x_l10, x_l16, x_l50, x_l80, x_l128, x_l160, x_l640, x_l25600, E_0, E_1, E_2, E_3, E_4, E_5, E_6, E_7, E_8, E_9, E_10, E_11, E_12, E_13, E_14, E_15, E_16, E_17, E_18, E_19, E_20, E_21, E_22, Es_0, Es_1, Es_2, Es_3, Es_4, Es_5, Es_6, Es_7, Es_8, Es_9, Es_11, Es_12, Es_13, Es_14, Es_15, Es_16, Es_17, Es_18, Es_21, Es_22, Es_10, Es_19, Es_20, Es_10n, Es_19n, Es_20n, n_at_0, n_at_1, n_at_2, n_at_3, n_at_4, n_at_5, n_at_6, n_at_7, n_at_8, n_at_9, n_at_10, n_at_11, n_at_12, n_at_13, n_at_14, n_at_15, n_at_16, n_at_17, n_at_18, n_at_19, n_at_20, n_at_21, n_put_0, n_put_1, n_put_2, n_put_3, n_put_4, n_put_5, n_put_6, n_put_7, n_put_8, n_put_9, n_put_10, n_put_11, n_put_12, n_put_13, n_put_14, n_put_15, n_put_16, n_put_17, n_put_18, n_put_19, n_put_20, n_put_21, n_put_10n, n_put_19n, n_put_20n, n_add_0, n_add_1, n_add_2, n_add_3, n_add_4, n_add_5, n_add_6, n_add_7, n_add_8, n_add_9, n_add_11, n_add_12, n_add_13, n_add_14, n_add_15, n_add_16, n_add_17, n_add_18, n_add_21, n_sub_0, n_sub_1, n_sub_2, n_sub_3, n_sub_4, n_sub_5, n_sub_6, n_sub_7, n_sub_8, n_sub_9, n_sub_11, n_sub_12, n_sub_13, n_sub_14, n_sub_15, n_sub_16, n_sub_17, n_sub_18, n_sub_21, n_slotOf, Nat.reduceMod, Nat.reduceAdd]
  rw [r_X2_settle_b5_s]
  simp (disch := omega) only [x_obS, x_oiS, x_osS, x_og1, x_inT, x_nzT, x_boT, x_lt, x_le, x_eq, x_cl, nI_add, pk_mul, x_at, x_st, x_lm1, x_meq, x_nm, x_mneq, x_m0, x_mge, x_sub1, x_subN, if_pos, if_neg, if_true, if_false, x_l0, x_l1, x_l2, x_l3, x_l4, x_l5, x_l8, x_l10, x_l16, x_l50, x_l80, x_l128, x_l160, x_l640, x_l25600, E_0, E_1, E_2, E_3, E_4, E_5, E_6, E_7, E_8, E_9, E_10, E_11, E_12, E_13, E_14, E_15, E_16, E_17, E_18, E_19, E_20, E_21, E_22, Es_0, Es_1, Es_2, Es_3, Es_4, Es_5, Es_6, Es_7, Es_8, Es_9, Es_11, Es_12, Es_13, Es_14, Es_15, Es_16, Es_17, Es_18, Es_21, Es_22, Es_10, Es_19, Es_20, Es_10n, Es_19n, Es_20n, n_at_0, n_at_1, n_at_2, n_at_3, n_at_4, n_at_5, n_at_6, n_at_7, n_at_8, n_at_9, n_at_10, n_at_11, n_at_12, n_at_13, n_at_14, n_at_15, n_at_16, n_at_17, n_at_18, n_at_19, n_at_20, n_at_21, n_put_0, n_put_1, n_put_2, n_put_3, n_put_4, n_put_5, n_put_6, n_put_7, n_put_8, n_put_9, n_put_10, n_put_11, n_put_12, n_put_13, n_put_14, n_put_15, n_put_16, n_put_17, n_put_18, n_put_19, n_put_20, n_put_21, n_put_10n, n_put_19n, n_put_20n, n_add_0, n_add_1, n_add_2, n_add_3, n_add_4, n_add_5, n_add_6, n_add_7, n_add_8, n_add_9, n_add_11, n_add_12, n_add_13, n_add_14, n_add_15, n_add_16, n_add_17, n_add_18, n_add_21, n_sub_0, n_sub_1, n_sub_2, n_sub_3, n_sub_4, n_sub_5, n_sub_6, n_sub_7, n_sub_8, n_sub_9, n_sub_11, n_sub_12, n_sub_13, n_sub_14, n_sub_15, n_sub_16, n_sub_17, n_sub_18, n_sub_21, n_slotOf, Nat.reduceMod, Nat.reduceAdd]
  rw [e1]
theorem k_settle (K9 : Int32 → Int32 → CS → Option (Int32 × CS)) (F : Nat) {e : DS} {x f a s : Nat} (hF : 1000 ≤ F) (hx : x < 128) (hs : e 3 (5 * x + 0) + e 3 (5 * x + 1) + e 3 (5 * x + 2) + e 3 (5 * x + 3) + e 3 (5 * x + 4) = s) (hf : e 2 x + s ≤ f) (h3 : f ≤ 3) : r_X8_recover_b79 K9 F F (nI a) (nI x) (nI f) 0 (EM e) = K9 (nI (a + (f - s - e 2 x))) (nI (x + 1)) (EM (dset e 2 x (f - s))) := by
  obtain ⟨n, rfl⟩ : ∃ n, F = n + 6 := ⟨F - 6, by omega⟩
  have e1 : f - e 3 (5 * x) - e 3 (5 * x + 1) - e 3 (5 * x + 2) - e 3 (5 * x + 3) - e 3 (5 * x + 4) = f - s := by
    rw [Nat.add_zero] at hs
    omega
  rw [Nat.add_zero] at hs
  rw [r_X8_recover_b79_s]
  simp (disch := omega) only [x_obS, x_oiS, x_osS, x_og1, x_inT, x_nzT, x_boT, x_lt, x_le, x_eq, x_cl, nI_add, pk_mul, x_at, x_st, x_lm1, x_meq, x_nm, x_mneq, x_m0, x_mge, x_sub1, x_subN, if_pos, if_neg, if_true, if_false, x_l0, x_l1, x_l2, x_l3, x_l4, x_l5, x_l8, x_l10, x_l16, x_l50, x_l80, x_l128, x_l160, x_l640, x_l25600, EM_0, EM_1, EM_2, EM_3, EM_4, EM_5, EM_6, EM_7, EM_8, EM_9, EM_10, EM_11, EM_12, EM_13, EM_14, EM_15, EM_16, EM_17, EM_18, EMs_0, EMs_1, EMs_2, EMs_3, EMs_4, EMs_5, EMs_7, EMs_8, EMs_9, EMs_10, EMs_11, EMs_13, EMs_14, EMs_16, EMs_17, EMs_18, EMs_6, EMs_12, EMs_15, EMs_6n, EMs_12n, EMs_15n, x_zn, Nat.add_zero]
  rw [r_X8_recover_b79_s]
  simp (disch := omega) only [x_obS, x_oiS, x_osS, x_og1, x_inT, x_nzT, x_boT, x_lt, x_le, x_eq, x_cl, nI_add, pk_mul, x_at, x_st, x_lm1, x_meq, x_nm, x_mneq, x_m0, x_mge, x_sub1, x_subN, if_pos, if_neg, if_true, if_false, x_l0, x_l1, x_l2, x_l3, x_l4, x_l5, x_l8, x_l10, x_l16, x_l50, x_l80, x_l128, x_l160, x_l640, x_l25600, EM_0, EM_1, EM_2, EM_3, EM_4, EM_5, EM_6, EM_7, EM_8, EM_9, EM_10, EM_11, EM_12, EM_13, EM_14, EM_15, EM_16, EM_17, EM_18, EMs_0, EMs_1, EMs_2, EMs_3, EMs_4, EMs_5, EMs_7, EMs_8, EMs_9, EMs_10, EMs_11, EMs_13, EMs_14, EMs_16, EMs_17, EMs_18, EMs_6, EMs_12, EMs_15, EMs_6n, EMs_12n, EMs_15n, x_zn, Nat.reduceAdd]
  rw [r_X8_recover_b79_s]
  simp (disch := omega) only [x_obS, x_oiS, x_osS, x_og1, x_inT, x_nzT, x_boT, x_lt, x_le, x_eq, x_cl, nI_add, pk_mul, x_at, x_st, x_lm1, x_meq, x_nm, x_mneq, x_m0, x_mge, x_sub1, x_subN, if_pos, if_neg, if_true, if_false, x_l0, x_l1, x_l2, x_l3, x_l4, x_l5, x_l8, x_l10, x_l16, x_l50, x_l80, x_l128, x_l160, x_l640, x_l25600, EM_0, EM_1, EM_2, EM_3, EM_4, EM_5, EM_6, EM_7, EM_8, EM_9, EM_10, EM_11, EM_12, EM_13, EM_14, EM_15, EM_16, EM_17, EM_18, EMs_0, EMs_1, EMs_2, EMs_3, EMs_4, EMs_5, EMs_7, EMs_8, EMs_9, EMs_10, EMs_11, EMs_13, EMs_14, EMs_16, EMs_17, EMs_18, EMs_6, EMs_12, EMs_15, EMs_6n, EMs_12n, EMs_15n, x_zn, Nat.reduceAdd]
  rw [r_X8_recover_b79_s]
  simp (disch := omega) only [x_obS, x_oiS, x_osS, x_og1, x_inT, x_nzT, x_boT, x_lt, x_le, x_eq, x_cl, nI_add, pk_mul, x_at, x_st, x_lm1, x_meq, x_nm, x_mneq, x_m0, x_mge, x_sub1, x_subN, if_pos, if_neg, if_true, if_false, x_l0, x_l1, x_l2, x_l3, x_l4, x_l5, x_l8, x_l10, x_l16, x_l50, x_l80, x_l128, x_l160, x_l640, x_l25600, EM_0, EM_1, EM_2, EM_3, EM_4, EM_5, EM_6, EM_7, EM_8, EM_9, EM_10, EM_11, EM_12, EM_13, EM_14, EM_15, EM_16, EM_17, EM_18, EMs_0, EMs_1, EMs_2, EMs_3, EMs_4, EMs_5, EMs_7, EMs_8, EMs_9, EMs_10, EMs_11, EMs_13, EMs_14, EMs_16, EMs_17, EMs_18, EMs_6, EMs_12, EMs_15, EMs_6n, EMs_12n, EMs_15n, x_zn, Nat.reduceAdd]
  rw [r_X8_recover_b79_s]
  simp (disch := omega) only [x_obS, x_oiS, x_osS, x_og1, x_inT, x_nzT, x_boT, x_lt, x_le, x_eq, x_cl, nI_add, pk_mul, x_at, x_st, x_lm1, x_meq, x_nm, x_mneq, x_m0, x_mge, x_sub1, x_subN, if_pos, if_neg, if_true, if_false, x_l0, x_l1, x_l2, x_l3, x_l4, x_l5, x_l8, x_l10, x_l16, x_l50, x_l80, x_l128, x_l160, x_l640, x_l25600, EM_0, EM_1, EM_2, EM_3, EM_4, EM_5, EM_6, EM_7, EM_8, EM_9, EM_10, EM_11, EM_12, EM_13, EM_14, EM_15, EM_16, EM_17, EM_18, EMs_0, EMs_1, EMs_2, EMs_3, EMs_4, EMs_5, EMs_7, EMs_8, EMs_9, EMs_10, EMs_11, EMs_13, EMs_14, EMs_16, EMs_17, EMs_18, EMs_6, EMs_12, EMs_15, EMs_6n, EMs_12n, EMs_15n, x_zn, Nat.reduceAdd]
  rw [r_X8_recover_b79_s]
  unfold r_X8_recover_b127
  simp (disch := omega) only [x_obS, x_oiS, x_osS, x_og1, x_inT, x_nzT, x_boT, x_lt, x_le, x_eq, x_cl, nI_add, pk_mul, x_at, x_st, x_lm1, x_meq, x_nm, x_mneq, x_m0, x_mge, x_sub1, x_subN, if_pos, if_neg, if_true, if_false, x_l0, x_l1, x_l2, x_l3, x_l4, x_l5, x_l8, x_l10, x_l16, x_l50, x_l80, x_l128, x_l160, x_l640, x_l25600, EM_0, EM_1, EM_2, EM_3, EM_4, EM_5, EM_6, EM_7, EM_8, EM_9, EM_10, EM_11, EM_12, EM_13, EM_14, EM_15, EM_16, EM_17, EM_18, EMs_0, EMs_1, EMs_2, EMs_3, EMs_4, EMs_5, EMs_7, EMs_8, EMs_9, EMs_10, EMs_11, EMs_13, EMs_14, EMs_16, EMs_17, EMs_18, EMs_6, EMs_12, EMs_15, EMs_6n, EMs_12n, EMs_15n, x_zn, Nat.reduceAdd]
  rw [e1]
/-- what is put right, and how many were lost at a buffer -/
def ctv (d : DS) (b : Nat) : Nat := d 22 6 - d 15 b - cs d b
def lst (d : DS) (b : Nat) : Nat := ctv d b - d 16 b
def rcC (d : DS) (n : Nat) : DS := fun k i => if k = 16 ∧ i % 10 < 8 ∧ i / 10 * 8 + i % 10 < n then ctv d i else d k i
theorem rcC_s (d : DS) (w j : Nat) (hj : j < 8) : dset (rcC d (w * 8 + j)) 16 (w * 10 + j) (ctv d (w * 10 + j)) = rcC d (w * 8 + (j + 1)) := by
  funext k i
  rw [dset_a]
  unfold rcC
  by_cases h : k = 16
  · subst h
    by_cases h1 : i = w * 10 + j
    · subst h1
      rw [if_pos ⟨rfl, rfl⟩, if_pos ⟨rfl, by omega, by omega⟩]
    · rw [if_neg (fun z => h1 z.2)]
      by_cases h2 : i % 10 < 8 ∧ i / 10 * 8 + i % 10 < w * 8 + j
      · rw [if_pos ⟨rfl, h2⟩, if_pos ⟨rfl, h2.1, by omega⟩]
      · rw [if_neg (fun z => h2 z.2), if_neg]
        intro z
        apply h2
        omega
  · rw [if_neg (fun z => h z.1), if_neg (fun z => h z.1), if_neg (fun z => h z.1)]
theorem rcC_0 (d : DS) : rcC d 0 = d := by
  funext k i
  unfold rcC
  rw [if_neg (by omega)]
def lsC (d : DS) (i : Nat) : Nat := lst d (i / 8 * 10 + i % 8)
theorem n_rc17 (K4 : Int32 → Int32 → CS → Option (Int32 × CS)) (F : Nat) {c r : Nat} {d e : DS} (hJ : JJ c r d e) (hF : 1000 ≤ F) {w : Nat} (hw : w < 16) : ∀ (m n j a : Nat), j + m = 8 → m + 1 ≤ n → r_X7_recover_b17 K4 F n (nI a) (nI w) (nI j) (E (rcC d (w * 8 + j))) = K4 (nI (a + (sumN (lsC d) (w * 8 + 8) - sumN (lsC d) (w * 8 + j)))) (nI (w + 1)) (E (rcC d (w * 8 + 8))) := by
  intro m
  induction m with
  | zero =>
    intro n j a h1 h2
    obtain ⟨n, rfl⟩ : ∃ k, n = k + 1 := ⟨n - 1, by omega⟩
    obtain rfl : j = 8 := by omega
    rw [r_X7_recover_b17_s, Nat.sub_self]
    simp (disch := omega) only [x_obS, x_oiS, x_osS, x_og1, x_inT, x_nzT, x_boT, x_lt, x_le, x_eq, x_cl, nI_add, pk_mul, x_at, x_st, x_lm1, x_meq, x_nm, x_mneq, x_m0, x_mge, x_sub1, x_subN, if_pos, if_neg, if_true, if_false, x_l0, x_l1, x_l2, x_l3, x_l4, x_l5, x_l8, x_l10, x_l16, x_l50, x_l80, x_l128, x_l160, x_l640, x_l25600, E_0, E_1, E_2, E_3, E_4, E_5, E_6, E_7, E_8, E_9, E_10, E_11, E_12, E_13, E_14, E_15, E_16, E_17, E_18, E_19, E_20, E_21, E_22, Es_0, Es_1, Es_2, Es_3, Es_4, Es_5, Es_6, Es_7, Es_8, Es_9, Es_11, Es_12, Es_13, Es_14, Es_15, Es_16, Es_17, Es_18, Es_21, Es_22, Es_10, Es_19, Es_20, Es_10n, Es_19n, Es_20n, n_at_0, n_at_1, n_at_2, n_at_3, n_at_4, n_at_5, n_at_6, n_at_7, n_at_8, n_at_9, n_at_10, n_at_11, n_at_12, n_at_13, n_at_14, n_at_15, n_at_16, n_at_17, n_at_18, n_at_19, n_at_20, n_at_21, n_put_0, n_put_1, n_put_2, n_put_3, n_put_4, n_put_5, n_put_6, n_put_7, n_put_8, n_put_9, n_put_10, n_put_11, n_put_12, n_put_13, n_put_14, n_put_15, n_put_16, n_put_17, n_put_18, n_put_19, n_put_20, n_put_21, n_put_10n, n_put_19n, n_put_20n, n_add_0, n_add_1, n_add_2, n_add_3, n_add_4, n_add_5, n_add_6, n_add_7, n_add_8, n_add_9, n_add_11, n_add_12, n_add_13, n_add_14, n_add_15, n_add_16, n_add_17, n_add_18, n_add_21, n_sub_0, n_sub_1, n_sub_2, n_sub_3, n_sub_4, n_sub_5, n_sub_6, n_sub_7, n_sub_8, n_sub_9, n_sub_11, n_sub_12, n_sub_13, n_sub_14, n_sub_15, n_sub_16, n_sub_17, n_sub_18, n_sub_21, Nat.add_zero]
  | succ m ih =>
    intro n j a h1 h2
    obtain ⟨n, rfl⟩ : ∃ k, n = k + 1 := ⟨n - 1, by omega⟩
    have hb : w * 10 + j < 160 := by omega
    have h15 : rcC d (w * 8 + j) 15 = d 15 := rfl
    have h17 : cs (rcC d (w * 8 + j)) (w * 10 + j) = cs d (w * 10 + j) := rfl
    have h22 : rcC d (w * 8 + j) 22 = d 22 := rfl
    have h16 : rcC d (w * 8 + j) 16 (w * 10 + j) = d 16 (w * 10 + j) := if_neg (by omega)
    have i7 := hJ.2.2.2.2.2.2.1.2 (w * 10 + j) hb (by omega)
    have i4 := (hJ.2.2.2.1 (w * 10 + j) hb).1
    have j6 := hJ.1.2.2.1
    have ls : lsC d (w * 8 + j) = lst d (w * 10 + j) := by
      unfold lsC
      rw [show (w * 8 + j) / 8 * 10 + (w * 8 + j) % 8 = w * 10 + j by omega]
    rw [r_X7_recover_b17_s]
    simp (disch := omega) only [x_obS, x_oiS, x_osS, x_og1, x_inT, x_nzT, x_boT, x_lt, x_le, x_eq, x_cl, nI_add, pk_mul, x_at, x_st, x_lm1, x_meq, x_nm, x_mneq, x_m0, x_mge, x_sub1, x_subN, if_pos, if_neg, if_true, if_false, x_l0, x_l1, x_l2, x_l3, x_l4, x_l5, x_l8, x_l10, x_l16, x_l50, x_l80, x_l128, x_l160, x_l640, x_l25600, E_0, E_1, E_2, E_3, E_4, E_5, E_6, E_7, E_8, E_9, E_10, E_11, E_12, E_13, E_14, E_15, E_16, E_17, E_18, E_19, E_20, E_21, E_22, Es_0, Es_1, Es_2, Es_3, Es_4, Es_5, Es_6, Es_7, Es_8, Es_9, Es_11, Es_12, Es_13, Es_14, Es_15, Es_16, Es_17, Es_18, Es_21, Es_22, Es_10, Es_19, Es_20, Es_10n, Es_19n, Es_20n, n_at_0, n_at_1, n_at_2, n_at_3, n_at_4, n_at_5, n_at_6, n_at_7, n_at_8, n_at_9, n_at_10, n_at_11, n_at_12, n_at_13, n_at_14, n_at_15, n_at_16, n_at_17, n_at_18, n_at_19, n_at_20, n_at_21, n_put_0, n_put_1, n_put_2, n_put_3, n_put_4, n_put_5, n_put_6, n_put_7, n_put_8, n_put_9, n_put_10, n_put_11, n_put_12, n_put_13, n_put_14, n_put_15, n_put_16, n_put_17, n_put_18, n_put_19, n_put_20, n_put_21, n_put_10n, n_put_19n, n_put_20n, n_add_0, n_add_1, n_add_2, n_add_3, n_add_4, n_add_5, n_add_6, n_add_7, n_add_8, n_add_9, n_add_11, n_add_12, n_add_13, n_add_14, n_add_15, n_add_16, n_add_17, n_add_18, n_add_21, n_sub_0, n_sub_1, n_sub_2, n_sub_3, n_sub_4, n_sub_5, n_sub_6, n_sub_7, n_sub_8, n_sub_9, n_sub_11, n_sub_12, n_sub_13, n_sub_14, n_sub_15, n_sub_16, n_sub_17, n_sub_18, n_sub_21]
    rw [n_free F hb (by rw [h15, h22]; exact i4) (by rw [h22]; omega), x_obS, h15, h22, n_settle F hF hb (by rw [h16, h17]; omega) (by omega), x_obS, h16, h17, show d 22 6 - d 15 (w * 10 + j) - cs d (w * 10 + j) = ctv d (w * 10 + j) from rfl, rcC_s d w j (by omega), nI_add]
    have hmono : ∀ q, sumN (lsC d) (w * 8 + (j + 1)) ≤ sumN (lsC d) (w * 8 + (j + 1) + q) := fun q => by
      induction q with
      | zero => exact Nat.le_refl _
      | succ q ih2 => exact Nat.le_trans ih2 (Nat.le_add_right _ _)
    have hm2 := hmono m
    have e8 : w * 8 + (j + 1) + m = w * 8 + 8 := by omega
    rw [e8] at hm2
    have es : sumN (lsC d) (w * 8 + (j + 1)) = sumN (lsC d) (w * 8 + j) + lst d (w * 10 + j) := by
      rw [← ls]
      rfl
    rw [ih n (j + 1) _ (by omega) (by omega), es]
    rw [es] at hm2
    rw [show a + (ctv d (w * 10 + j) - d 16 (w * 10 + j)) + (sumN (lsC d) (w * 8 + 8) - (sumN (lsC d) (w * 8 + j) + lst d (w * 10 + j))) = a + (sumN (lsC d) (w * 8 + 8) - sumN (lsC d) (w * 8 + j)) from by
      show a + lst d (w * 10 + j) + (sumN (lsC d) (w * 8 + 8) - (sumN (lsC d) (w * 8 + j) + lst d (w * 10 + j))) = _
      omega]
theorem n_recover (F : Nat) {c r : Nat} {d e : DS} (hJ : JJ c r d e) (hF : 1000 ≤ F) : r_X7_recover F (E d) = some (nI (sumN (lsC d) (c * r * 8)), E (rcC d (c * r * 8))) := by
  have h16 := Gr16 hJ.1.1.2.2.1
  have key : ∀ (m n w : Nat), w + m = c * r → m + 1 ≤ n → r_X7_recover_b4 F n (nI (sumN (lsC d) (w * 8))) (nI w) (E (rcC d (w * 8))) = some (nI (sumN (lsC d) (c * r * 8)), E (rcC d (c * r * 8))) := by
    intro m
    induction m with
    | zero =>
      intro n w h1 h2
      obtain ⟨n, rfl⟩ : ∃ k, n = k + 1 := ⟨n - 1, by omega⟩
      rw [r_X7_recover_b4_s, n_size F (show Gr (rcC d (w * 8)) c r from hJ.1.1), x_obS, if_pos (by rw [x_le (by omega) (by omega)]; omega), show w = c * r by omega]
    | succ m ih =>
      intro n w h1 h2
      obtain ⟨n, rfl⟩ : ∃ k, n = k + 1 := ⟨n - 1, by omega⟩
      have hmono : ∀ q, sumN (lsC d) (w * 8) ≤ sumN (lsC d) (w * 8 + q) := fun q => by
        induction q with
        | zero => exact Nat.le_refl _
        | succ q ih2 => exact Nat.le_trans ih2 (Nat.le_add_right _ _)
      have hm2 := hmono 8
      have h17 := n_rc17 (r_X7_recover_b4 F n) F hJ hF (w := w) (by omega) 8 F 0 (sumN (lsC d) (w * 8)) (by omega) (by omega)
      rw [Nat.add_zero, Nat.add_sub_cancel' hm2, show w * 8 + 8 = (w + 1) * 8 by omega, ih n (w + 1) (by omega) (by omega)] at h17
      rw [r_X7_recover_b4_s, n_size F (show Gr (rcC d (w * 8)) c r from hJ.1.1), x_obS, if_neg (by rw [x_le (by omega) (by omega)]; omega)]
      exact h17
  have h0 := key (c * r) F 0 (by omega) (by omega)
  rw [Nat.zero_mul, rcC_0] at h0
  exact h0
