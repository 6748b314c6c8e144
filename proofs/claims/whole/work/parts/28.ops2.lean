/-! links, buffers, pauses -/
theorem nb_inj {c r w w' o : Nat} (h : nb c r w o ≠ 0) (he : nb c r w o = nb c r w' o) : w = w' := by
  rcases (show o = 0 ∨ o = 1 ∨ o = 2 ∨ o = 3 ∨ 4 ≤ o by omega) with rfl | rfl | rfl | rfl | ho
  · change (if w % c + 1 < c then w + 2 else 0) ≠ 0 at h
    change (if w % c + 1 < c then w + 2 else 0) = (if w' % c + 1 < c then w' + 2 else 0) at he
    by_cases a : w % c + 1 < c
    · by_cases a' : w' % c + 1 < c
      · rw [if_pos a, if_pos a'] at he
        omega
      · rw [if_pos a, if_neg a'] at he
        rw [if_pos a] at h
        omega
    · rw [if_neg a] at h
      omega
  · change (if w / c + 1 < r then w + c + 1 else 0) ≠ 0 at h
    change (if w / c + 1 < r then w + c + 1 else 0) = (if w' / c + 1 < r then w' + c + 1 else 0) at he
    by_cases a : w / c + 1 < r
    · by_cases a' : w' / c + 1 < r
      · rw [if_pos a, if_pos a'] at he
        omega
      · rw [if_pos a, if_neg a'] at he
        rw [if_pos a] at h
        omega
    · rw [if_neg a] at h
      omega
  · change (if 0 < w % c then w else 0) ≠ 0 at h
    change (if 0 < w % c then w else 0) = (if 0 < w' % c then w' else 0) at he
    by_cases a : 0 < w % c
    · by_cases a' : 0 < w' % c
      · rw [if_pos a, if_pos a'] at he
        omega
      · rw [if_pos a, if_neg a'] at he
        rw [if_pos a] at h
        omega
    · rw [if_neg a] at h
      omega
  · change (if 0 < w / c then w - c + 1 else 0) ≠ 0 at h
    change (if 0 < w / c then w - c + 1 else 0) = (if 0 < w' / c then w' - c + 1 else 0) at he
    by_cases a : 0 < w / c
    · by_cases a' : 0 < w' / c
      · rw [if_pos a, if_pos a'] at he
        have a1 : c ≤ w := by
          rcases Nat.lt_or_ge w c with z | z
          · rw [Nat.div_eq_of_lt z] at a
            omega
          · exact z
        have a2 : c ≤ w' := by
          rcases Nat.lt_or_ge w' c with z | z
          · rw [Nat.div_eq_of_lt z] at a'
            omega
          · exact z
        omega
      · rw [if_pos a, if_neg a'] at he
        rw [if_pos a] at h
        omega
    · rw [if_neg a] at h
      omega
  · exfalso
    apply h
    unfold nb
    split <;> first | omega | rfl
theorem x_dir (x : Int32) : (x < 0 ∨ nI 4 ≤ x) ∨ ∃ j : Nat, j < 4 ∧ x = nI j := by
  rcases pk_ix x (n := 4) (by omega) with h | h | h
  · exact Or.inl (Or.inl h)
  · exact Or.inl (Or.inr h)
  · exact Or.inr h
theorem x_badd {x : Int32} (h : x < 0 ∨ nI 4 ≤ x) (j : Nat) (hj : j < 4) : ¬ x = nI j := by
  intro e
  subst e
  rw [x_l0, x_lt (by omega) (by omega), x_le (by omega) (by omega)] at h
  omega
theorem n_behindX (F : Nat) (y x : Int32) (s : CS) (h : x < 0 ∨ nI 4 ≤ x) : r_X3_behind F y x s = some (-1, s) := by
  unfold r_X3_behind
  rw [if_neg (show ¬ x = 0 from x_badd h 0 (by decide)), if_neg (show ¬ x = 1 from x_badd h 1 (by decide)), if_neg (show ¬ x = 2 from x_badd h 2 (by decide)), if_neg (show ¬ x = 3 from x_badd h 3 (by decide))]
theorem n_checkLink1 (F : Nat) {d : DS} {c r : Nat} (hG : Gr d c r) {x y : Int32} (h : x < 0 ∨ nI (c * r) ≤ x) : r_X7_checkLink F x y (E d) = some (1, 0, E d) := by
  unfold r_X7_checkLink
  rw [n_checkSwitch F hG, if_pos h]
  rfl
theorem x_swN {w n : Nat} (h : w < n) (hn : n ≤ 1000) : ¬ (nI w < 0 ∨ nI n ≤ nI w) := by
  rw [x_l0, x_lt (by omega) (by omega), x_le (by omega) (by omega)]
  omega
theorem n_checkLink2 (F : Nat) {d : DS} {c r w : Nat} (hG : Gr d c r) (hw : w < c * r) {y : Int32} (h : y < 0 ∨ nI 4 ≤ y) : r_X7_checkLink F (nI w) y (E d) = some (1, 0, E d) := by
  have h16 := Gr16 hG.2.2.1
  unfold r_X7_checkLink
  rw [n_checkSwitch F hG, if_neg (x_swN hw (by omega)), x_obxS rfl, n_behindX F _ _ _ h]
  rfl
theorem n_checkLink3 (F : Nat) {d : DS} {c r w o : Nat} (hG : Gr d c r) (hw : w < c * r) (ho : o < 4) : r_X7_checkLink F (nI w) (nI o) (E d) = some (if nb c r w o = 0 then 1 else 0, 0, E d) := by
  have h16 := Gr16 hG.2.2.1
  have h1 := nb_lt (dir := o) hG.2.2.1 hw
  unfold r_X7_checkLink
  rw [n_checkSwitch F hG, if_neg (x_swN hw (by omega)), x_obxS rfl]
  by_cases h : nb c r w o = 0
  · simp (disch := omega) only [x_obS, x_oiS, x_osS, x_og1, x_inT, x_nzT, x_boT, x_lt, x_le, x_eq, x_cl, nI_add, pk_mul, x_at, x_st, x_lm1, x_meq, x_nm, x_mneq, x_m0, x_mge, x_sub1, x_subN, if_pos, if_neg, if_true, if_false, x_l0, x_l1, x_l2, x_l3, x_l4, x_l5, x_l8, x_l10, x_l16, x_l50, x_l80, x_l128, x_l160, x_l640, x_l25600, E_0, E_1, E_2, E_3, E_4, E_5, E_6, E_7, E_8, E_9, E_10, E_11, E_12, E_13, E_14, E_15, E_16, E_17, E_18, E_19, E_20, E_21, E_22, Es_0, Es_1, Es_2, Es_3, Es_4, Es_5, Es_6, Es_7, Es_8, Es_9, Es_11, Es_12, Es_13, Es_14, Es_15, Es_16, Es_17, Es_18, Es_21, Es_22, Es_10, Es_19, Es_20, Es_10n, Es_19n, Es_20n, n_at_0, n_at_1, n_at_2, n_at_3, n_at_4, n_at_5, n_at_6, n_at_7, n_at_8, n_at_9, n_at_10, n_at_11, n_at_12, n_at_13, n_at_14, n_at_15, n_at_16, n_at_17, n_at_18, n_at_19, n_at_20, n_at_21, n_put_0, n_put_1, n_put_2, n_put_3, n_put_4, n_put_5, n_put_6, n_put_7, n_put_8, n_put_9, n_put_10, n_put_11, n_put_12, n_put_13, n_put_14, n_put_15, n_put_16, n_put_17, n_put_18, n_put_19, n_put_20, n_put_21, n_put_10n, n_put_19n, n_put_20n, n_add_0, n_add_1, n_add_2, n_add_3, n_add_4, n_add_5, n_add_6, n_add_7, n_add_8, n_add_9, n_add_11, n_add_12, n_add_13, n_add_14, n_add_15, n_add_16, n_add_17, n_add_18, n_add_21, n_sub_0, n_sub_1, n_sub_2, n_sub_3, n_sub_4, n_sub_5, n_sub_6, n_sub_7, n_sub_8, n_sub_9, n_sub_11, n_sub_12, n_sub_13, n_sub_14, n_sub_15, n_sub_16, n_sub_17, n_sub_18, n_sub_21, n_behind F o hG hw (by omega), h]
  · simp (disch := omega) only [x_obS, x_oiS, x_osS, x_og1, x_inT, x_nzT, x_boT, x_lt, x_le, x_eq, x_cl, nI_add, pk_mul, x_at, x_st, x_lm1, x_meq, x_nm, x_mneq, x_m0, x_mge, x_sub1, x_subN, if_pos, if_neg, if_true, if_false, x_l0, x_l1, x_l2, x_l3, x_l4, x_l5, x_l8, x_l10, x_l16, x_l50, x_l80, x_l128, x_l160, x_l640, x_l25600, E_0, E_1, E_2, E_3, E_4, E_5, E_6, E_7, E_8, E_9, E_10, E_11, E_12, E_13, E_14, E_15, E_16, E_17, E_18, E_19, E_20, E_21, E_22, Es_0, Es_1, Es_2, Es_3, Es_4, Es_5, Es_6, Es_7, Es_8, Es_9, Es_11, Es_12, Es_13, Es_14, Es_15, Es_16, Es_17, Es_18, Es_21, Es_22, Es_10, Es_19, Es_20, Es_10n, Es_19n, Es_20n, n_at_0, n_at_1, n_at_2, n_at_3, n_at_4, n_at_5, n_at_6, n_at_7, n_at_8, n_at_9, n_at_10, n_at_11, n_at_12, n_at_13, n_at_14, n_at_15, n_at_16, n_at_17, n_at_18, n_at_19, n_at_20, n_at_21, n_put_0, n_put_1, n_put_2, n_put_3, n_put_4, n_put_5, n_put_6, n_put_7, n_put_8, n_put_9, n_put_10, n_put_11, n_put_12, n_put_13, n_put_14, n_put_15, n_put_16, n_put_17, n_put_18, n_put_19, n_put_20, n_put_21, n_put_10n, n_put_19n, n_put_20n, n_add_0, n_add_1, n_add_2, n_add_3, n_add_4, n_add_5, n_add_6, n_add_7, n_add_8, n_add_9, n_add_11, n_add_12, n_add_13, n_add_14, n_add_15, n_add_16, n_add_17, n_add_18, n_add_21, n_sub_0, n_sub_1, n_sub_2, n_sub_3, n_sub_4, n_sub_5, n_sub_6, n_sub_7, n_sub_8, n_sub_9, n_sub_11, n_sub_12, n_sub_13, n_sub_14, n_sub_15, n_sub_16, n_sub_17, n_sub_18, n_sub_21, n_behind F o hG hw (by omega)]
theorem k_isLink1 (F : Nat) {e : DS} {c r : Nat} (hG : GrM e c r) {x y : Int32} (h : x < 0 ∨ nI (c * r) ≤ x) : r_X8_isLink F x y (EM e) = some (nI 0, EM e) := by
  unfold r_X8_isLink r_X8_isLink_b30 r_X8_isLink_b31
  rw [k_isSwitch F hG, if_pos h]
  simp (disch := omega) only [x_obS, x_oiS, x_osS, x_og1, x_inT, x_nzT, x_boT, x_lt, x_le, x_eq, x_cl, nI_add, pk_mul, x_at, x_st, x_lm1, x_meq, x_nm, x_mneq, x_m0, x_mge, x_sub1, x_subN, if_pos, if_neg, if_true, if_false, x_l0, x_l1, x_l2, x_l3, x_l4, x_l5, x_l8, x_l10, x_l16, x_l50, x_l80, x_l128, x_l160, x_l640, x_l25600, EM_0, EM_1, EM_2, EM_3, EM_4, EM_5, EM_6, EM_7, EM_8, EM_9, EM_10, EM_11, EM_12, EM_13, EM_14, EM_15, EM_16, EM_17, EM_18, EMs_0, EMs_1, EMs_2, EMs_3, EMs_4, EMs_5, EMs_7, EMs_8, EMs_9, EMs_10, EMs_11, EMs_13, EMs_14, EMs_16, EMs_17, EMs_18, EMs_6, EMs_12, EMs_15, EMs_6n, EMs_12n, EMs_15n, x_zn]
theorem x_within {x : Int32} {n : Nat} (h : x < 0 ∨ nI (n + 1) ≤ x) (hn : n < 1000) : ¬ (nI 0 ≤ x ∧ x ≤ nI n) := by
  rw [Int32.le_iff_toInt_le, Int32.le_iff_toInt_le, x_toInt (by omega), x_toInt (by omega)]
  rw [Int32.lt_iff_toInt_lt, Int32.le_iff_toInt_le, x_toInt (by omega)] at h
  have : (0 : Int32).toInt = 0 := rfl
  omega
theorem x_withinT {j n : Nat} (h : j ≤ n) (hn : n < 1000) : nI 0 ≤ nI j ∧ nI j ≤ nI n := by
  rw [x_le (by omega) (by omega), x_le (by omega) (by omega)]
  omega
theorem k_isLink2 (F : Nat) {e : DS} {c r w : Nat} (hG : GrM e c r) (hw : w < c * r) {y : Int32} (h : y < 0 ∨ nI 4 ≤ y) : r_X8_isLink F (nI w) y (EM e) = some (nI 0, EM e) := by
  have h16 := Gr16 hG.2.2
  unfold r_X8_isLink r_X8_isLink_b30 r_X8_isLink_b31
  rw [k_isSwitch F hG, if_neg (x_swN hw (by omega)), x_obS, if_neg (by decide), x_l0, x_l3, k_isWithin, if_neg (x_within h (by omega))]
  simp (disch := omega) only [x_obS, x_oiS, x_osS, x_og1, x_inT, x_nzT, x_boT, x_lt, x_le, x_eq, x_cl, nI_add, pk_mul, x_at, x_st, x_lm1, x_meq, x_nm, x_mneq, x_m0, x_mge, x_sub1, x_subN, if_pos, if_neg, if_true, if_false, x_l0, x_l1, x_l2, x_l3, x_l4, x_l5, x_l8, x_l10, x_l16, x_l50, x_l80, x_l128, x_l160, x_l640, x_l25600, EM_0, EM_1, EM_2, EM_3, EM_4, EM_5, EM_6, EM_7, EM_8, EM_9, EM_10, EM_11, EM_12, EM_13, EM_14, EM_15, EM_16, EM_17, EM_18, EMs_0, EMs_1, EMs_2, EMs_3, EMs_4, EMs_5, EMs_7, EMs_8, EMs_9, EMs_10, EMs_11, EMs_13, EMs_14, EMs_16, EMs_17, EMs_18, EMs_6, EMs_12, EMs_15, EMs_6n, EMs_12n, EMs_15n, x_zn]
theorem k_isLink3 (F : Nat) {e : DS} {c r w o : Nat} (hG : GrM e c r) (hw : w < c * r) (ho : o < 4) : r_X8_isLink F (nI w) (nI o) (EM e) = some (nI (if nb c r w o = 0 then 0 else 1), EM e) := by
  have h16 := Gr16 hG.2.2
  have h1 := nb_lt (dir := o) hG.2.2 hw
  unfold r_X8_isLink r_X8_isLink_b30 r_X8_isLink_b31
  rw [k_isSwitch F hG, if_neg (x_swN hw (by omega)), x_obS, if_neg (by decide), x_l0, x_l3, k_isWithin, if_pos (x_withinT (by omega) (by omega)), x_obS, if_neg (by decide), k_neighbour F o hG hw ho]
  by_cases h : nb c r w o = 0
  · simp (disch := omega) only [x_obS, x_oiS, x_osS, x_og1, x_inT, x_nzT, x_boT, x_lt, x_le, x_eq, x_cl, nI_add, pk_mul, x_at, x_st, x_lm1, x_meq, x_nm, x_mneq, x_m0, x_mge, x_sub1, x_subN, if_pos, if_neg, if_true, if_false, x_l0, x_l1, x_l2, x_l3, x_l4, x_l5, x_l8, x_l10, x_l16, x_l50, x_l80, x_l128, x_l160, x_l640, x_l25600, EM_0, EM_1, EM_2, EM_3, EM_4, EM_5, EM_6, EM_7, EM_8, EM_9, EM_10, EM_11, EM_12, EM_13, EM_14, EM_15, EM_16, EM_17, EM_18, EMs_0, EMs_1, EMs_2, EMs_3, EMs_4, EMs_5, EMs_7, EMs_8, EMs_9, EMs_10, EMs_11, EMs_13, EMs_14, EMs_16, EMs_17, EMs_18, EMs_6, EMs_12, EMs_15, EMs_6n, EMs_12n, EMs_15n, x_zn, h]
  · simp (disch := omega) only [x_obS, x_oiS, x_osS, x_og1, x_inT, x_nzT, x_boT, x_lt, x_le, x_eq, x_cl, nI_add, pk_mul, x_at, x_st, x_lm1, x_meq, x_nm, x_mneq, x_m0, x_mge, x_sub1, x_subN, if_pos, if_neg, if_true, if_false, x_l0, x_l1, x_l2, x_l3, x_l4, x_l5, x_l8, x_l10, x_l16, x_l50, x_l80, x_l128, x_l160, x_l640, x_l25600, EM_0, EM_1, EM_2, EM_3, EM_4, EM_5, EM_6, EM_7, EM_8, EM_9, EM_10, EM_11, EM_12, EM_13, EM_14, EM_15, EM_16, EM_17, EM_18, EMs_0, EMs_1, EMs_2, EMs_3, EMs_4, EMs_5, EMs_7, EMs_8, EMs_9, EMs_10, EMs_11, EMs_13, EMs_14, EMs_16, EMs_17, EMs_18, EMs_6, EMs_12, EMs_15, EMs_6n, EMs_12n, EMs_15n, x_zn]
theorem n_bufferBehind (F : Nat) {d : DS} {c r w o l : Nat} (hG : Gr d c r) (hw : w < c * r) (ho : o < 4) (h0 : ¬ nb c r w o = 0) : r_X7_bufferBehind F (nI w) (nI o) (nI l) (E d) = some (nI (bf (nb c r w o - 1) o l), E d) := by
  unfold r_X7_bufferBehind
  rw [n_behind F o hG hw (by omega), mI_p h0]
  simp (disch := omega) only [x_obS, x_oiS, x_osS, x_og1, x_inT, x_nzT, x_boT, x_lt, x_le, x_eq, x_cl, nI_add, pk_mul, x_at, x_st, x_lm1, x_meq, x_nm, x_mneq, x_m0, x_mge, x_sub1, x_subN, if_pos, if_neg, if_true, if_false, x_l0, x_l1, x_l2, x_l3, x_l4, x_l5, x_l8, x_l10, x_l16, x_l50, x_l80, x_l128, x_l160, x_l640, x_l25600, E_0, E_1, E_2, E_3, E_4, E_5, E_6, E_7, E_8, E_9, E_10, E_11, E_12, E_13, E_14, E_15, E_16, E_17, E_18, E_19, E_20, E_21, E_22, Es_0, Es_1, Es_2, Es_3, Es_4, Es_5, Es_6, Es_7, Es_8, Es_9, Es_11, Es_12, Es_13, Es_14, Es_15, Es_16, Es_17, Es_18, Es_21, Es_22, Es_10, Es_19, Es_20, Es_10n, Es_19n, Es_20n, n_at_0, n_at_1, n_at_2, n_at_3, n_at_4, n_at_5, n_at_6, n_at_7, n_at_8, n_at_9, n_at_10, n_at_11, n_at_12, n_at_13, n_at_14, n_at_15, n_at_16, n_at_17, n_at_18, n_at_19, n_at_20, n_at_21, n_put_0, n_put_1, n_put_2, n_put_3, n_put_4, n_put_5, n_put_6, n_put_7, n_put_8, n_put_9, n_put_10, n_put_11, n_put_12, n_put_13, n_put_14, n_put_15, n_put_16, n_put_17, n_put_18, n_put_19, n_put_20, n_put_21, n_put_10n, n_put_19n, n_put_20n, n_add_0, n_add_1, n_add_2, n_add_3, n_add_4, n_add_5, n_add_6, n_add_7, n_add_8, n_add_9, n_add_11, n_add_12, n_add_13, n_add_14, n_add_15, n_add_16, n_add_17, n_add_18, n_add_21, n_sub_0, n_sub_1, n_sub_2, n_sub_3, n_sub_4, n_sub_5, n_sub_6, n_sub_7, n_sub_8, n_sub_9, n_sub_11, n_sub_12, n_sub_13, n_sub_14, n_sub_15, n_sub_16, n_sub_17, n_sub_18, n_sub_21, n_bufferOf]
theorem s_credits (F t : Nat) {σ τ : CS} (h : JX t σ τ) : l_S_credits F JX t σ τ := by
  obtain ⟨c, r, d, e, rfl, rfl, hJ, ht⟩ := h
  intro x y z
  have hG := hJ.1.1
  have h16 := Gr16 hG.2.2.1
  have hGM := hJ.grm
  have one : ∀ v5 : Nat, v5 < 2 → r_X8_isLink F x y (EM e) = some (nI 0, EM e) → r_X8_isWithin F z (nI 0) (nI 1) (EM e) = some (nI v5, EM e) → r_X8_credits F x y z (EM e) = some (0, EM (dset e 18 7 1)) := by
    intro v5 h5 q1 q2
    unfold r_X8_credits r_X8_credits_b35
    rw [q1, x_obS, x_l0, x_l1, q2, x_obS, k_goesF F e h5 (by decide)]
    rfl
  have v5 : ∃ v5 : Nat, v5 < 2 ∧ r_X8_isWithin F z (nI 0) (nI 1) (EM e) = some (nI v5, EM e) := ⟨_, by split <;> omega, k_isWithin F 0 1 z _⟩
  obtain ⟨v5, h5, q5⟩ := v5
  rcases x_sw x (n := c * r) (by omega) with hx | ⟨w, hw, rfl⟩
  · refine ⟨(1, 0, E d), 0, EM (dset e 18 7 1), ?_, one v5 h5 (k_isLink1 F hGM hx) q5, Or.inr (Or.inl ⟨rfl, rfl⟩), c, r, d, _, rfl, rfl, hJ.thrown 1, by omega⟩
    unfold r_X7_credits
    rw [n_checkLink1 F hG hx]
    rfl
  · rcases x_dir y with hy | ⟨o, ho, rfl⟩
    · refine ⟨(1, 0, E d), 0, EM (dset e 18 7 1), ?_, one v5 h5 (k_isLink2 F hGM hw hy) q5, Or.inr (Or.inl ⟨rfl, rfl⟩), c, r, d, _, rfl, rfl, hJ.thrown 1, by omega⟩
      unfold r_X7_credits
      rw [n_checkLink2 F hG hw hy]
      rfl
    · have k3 := k_isLink3 F hGM hw ho
      have n3 := n_checkLink3 F hG hw ho
      by_cases h0 : nb c r w o = 0
      · rw [if_pos h0] at k3 n3
        refine ⟨(1, 0, E d), 0, EM (dset e 18 7 1), ?_, one v5 h5 k3 q5, Or.inr (Or.inl ⟨rfl, rfl⟩), c, r, d, _, rfl, rfl, hJ.thrown 1, by omega⟩
        unfold r_X7_credits
        rw [n3]
        rfl
      · rw [if_neg h0] at k3 n3
        have h1 := nb_lt (dir := o) hG.2.2.1 hw
        by_cases hz : z = 0 ∨ z = 1
        · obtain ⟨l, hl, rfl⟩ : ∃ l : Nat, l < 2 ∧ z = nI l := by
            rcases hz with rfl | rfl
            · exact ⟨0, by omega, rfl⟩
            · exact ⟨1, by omega, rfl⟩
          have hL := (hJ.2.2.2.2.2.2.2.2.2.2.2.2 w hw o ho h0 l hl).1
          have hb9 : bf (nb c r w o - 1) o l < 160 := by
            show (nb c r w o - 1) * 10 + 2 * o + l < 160
            omega
          have hb8 : lk w o l < 128 := by
            show w * 8 + 2 * o + l < 128
            omega
          refine ⟨(0, nI (d 16 (bf (nb c r w o - 1) o l)), E d), nI (d 16 (bf (nb c r w o - 1) o l)), EM (dset e 18 7 0), ?_, ?_, Or.inl ⟨rfl, rfl, rfl⟩, c, r, d, _, rfl, rfl, hJ.thrown 0, by omega⟩
          · unfold r_X7_credits
            rw [n3, x_obxS rfl, n_checkLane, if_pos hz, x_obxS rfl]
            simp (disch := omega) only [x_obS, x_oiS, x_osS, x_og1, x_inT, x_nzT, x_boT, x_lt, x_le, x_eq, x_cl, nI_add, pk_mul, x_at, x_st, x_lm1, x_meq, x_nm, x_mneq, x_m0, x_mge, x_sub1, x_subN, if_pos, if_neg, if_true, if_false, x_l0, x_l1, x_l2, x_l3, x_l4, x_l5, x_l8, x_l10, x_l16, x_l50, x_l80, x_l128, x_l160, x_l640, x_l25600, E_0, E_1, E_2, E_3, E_4, E_5, E_6, E_7, E_8, E_9, E_10, E_11, E_12, E_13, E_14, E_15, E_16, E_17, E_18, E_19, E_20, E_21, E_22, Es_0, Es_1, Es_2, Es_3, Es_4, Es_5, Es_6, Es_7, Es_8, Es_9, Es_11, Es_12, Es_13, Es_14, Es_15, Es_16, Es_17, Es_18, Es_21, Es_22, Es_10, Es_19, Es_20, Es_10n, Es_19n, Es_20n, n_at_0, n_at_1, n_at_2, n_at_3, n_at_4, n_at_5, n_at_6, n_at_7, n_at_8, n_at_9, n_at_10, n_at_11, n_at_12, n_at_13, n_at_14, n_at_15, n_at_16, n_at_17, n_at_18, n_at_19, n_at_20, n_at_21, n_put_0, n_put_1, n_put_2, n_put_3, n_put_4, n_put_5, n_put_6, n_put_7, n_put_8, n_put_9, n_put_10, n_put_11, n_put_12, n_put_13, n_put_14, n_put_15, n_put_16, n_put_17, n_put_18, n_put_19, n_put_20, n_put_21, n_put_10n, n_put_19n, n_put_20n, n_add_0, n_add_1, n_add_2, n_add_3, n_add_4, n_add_5, n_add_6, n_add_7, n_add_8, n_add_9, n_add_11, n_add_12, n_add_13, n_add_14, n_add_15, n_add_16, n_add_17, n_add_18, n_add_21, n_sub_0, n_sub_1, n_sub_2, n_sub_3, n_sub_4, n_sub_5, n_sub_6, n_sub_7, n_sub_8, n_sub_9, n_sub_11, n_sub_12, n_sub_13, n_sub_14, n_sub_15, n_sub_16, n_sub_17, n_sub_18, n_sub_21, n_bufferBehind F hG hw ho h0, n_there]
          · unfold r_X8_credits r_X8_credits_b35
            rw [k3, x_obS, x_l0, x_l1, k_isWithin, if_pos (by rw [x_ln]; exact hz), x_obS, k_goesT]
            simp (disch := omega) only [x_obS, x_oiS, x_osS, x_og1, x_inT, x_nzT, x_boT, x_lt, x_le, x_eq, x_cl, nI_add, pk_mul, x_at, x_st, x_lm1, x_meq, x_nm, x_mneq, x_m0, x_mge, x_sub1, x_subN, if_pos, if_neg, if_true, if_false, x_l0, x_l1, x_l2, x_l3, x_l4, x_l5, x_l8, x_l10, x_l16, x_l50, x_l80, x_l128, x_l160, x_l640, x_l25600, EM_0, EM_1, EM_2, EM_3, EM_4, EM_5, EM_6, EM_7, EM_8, EM_9, EM_10, EM_11, EM_12, EM_13, EM_14, EM_15, EM_16, EM_17, EM_18, EMs_0, EMs_1, EMs_2, EMs_3, EMs_4, EMs_5, EMs_7, EMs_8, EMs_9, EMs_10, EMs_11, EMs_13, EMs_14, EMs_16, EMs_17, EMs_18, EMs_6, EMs_12, EMs_15, EMs_6n, EMs_12n, EMs_15n, x_zn, k_linkOf]
            rw [show dset e 18 7 0 2 (lk w o l) = e 2 (lk w o l) from rfl, hL]
        · refine ⟨(2, 0, E d), 0, EM (dset e 18 7 2), ?_, ?_, Or.inr (Or.inr ⟨rfl, rfl⟩), c, r, d, _, rfl, rfl, hJ.thrown 2, by omega⟩
          · unfold r_X7_credits
            rw [n3, x_obxS rfl, n_checkLane, if_neg hz]
            rfl
          · unfold r_X8_credits r_X8_credits_b35
            rw [k3, x_obS, x_l0, x_l1, k_isWithin, if_neg (by rw [x_ln]; exact hz), x_obS, k_goes F e (by decide) (by decide) (by decide)]
            rfl
theorem s_inBuffer (F t : Nat) {σ τ : CS} (h : JX t σ τ) : l_S_inBuffer F JX t σ τ := by
  obtain ⟨c, r, d, e, rfl, rfl, hJ, ht⟩ := h
  intro x y z
  have hG := hJ.1.1
  have h16 := Gr16 hG.2.2.1
  have hGM := hJ.grm
  rcases x_sw x (n := c * r) (by omega) with hx | ⟨w, hw, rfl⟩
  · refine ⟨(1, 0, E d), 0, EM (dset e 18 7 1), ?_, ?_, Or.inr (Or.inl ⟨rfl, rfl⟩), c, r, d, _, rfl, rfl, hJ.thrown 1, by omega⟩
    · unfold r_X7_inBuffer
      rw [n_checkSwitch F hG, if_pos hx]
      rfl
    · unfold r_X8_inBuffer r_X8_inBuffer_b28 r_X8_inBuffer_b29 r_X8_inBuffer_b51
      rw [k_isSwitch F hGM, if_pos hx, x_obS, x_l0, x_l1, x_l4, k_isWithin]
      by_cases h5 : nI 0 ≤ y ∧ y ≤ nI 4
      · rw [if_pos h5, x_obS, if_neg (by decide), k_isWithin]
        by_cases h6 : nI 0 ≤ z ∧ z ≤ nI 1
        · rw [if_pos h6, x_obS, if_neg (by decide), k_goesF F e (by decide) (by decide)]
          rfl
        · rw [if_neg h6, x_obS, if_pos rfl, k_goesF F e (by decide) (by decide)]
          rfl
      · rw [if_neg h5, x_obS, if_pos rfl, k_goesF F e (by decide) (by decide)]
        rfl
  · have hxn := x_swN hw (show c * r ≤ 1000 by omega)
    rcases pk_ix y (n := 5) (by omega) with hy | hy | ⟨i, hi, rfl⟩
    · refine ⟨(2, 0, E d), 0, EM (dset e 18 7 2), ?_, ?_, Or.inr (Or.inr ⟨rfl, rfl⟩), c, r, d, _, rfl, rfl, hJ.thrown 2, by omega⟩
      · unfold r_X7_inBuffer r_X7_inBuffer_b14
        rw [n_checkSwitch F hG, if_neg hxn, x_obxS rfl, if_pos hy]
      · unfold r_X8_inBuffer r_X8_inBuffer_b28 r_X8_inBuffer_b29 r_X8_inBuffer_b51
        rw [k_isSwitch F hGM, if_neg hxn, x_obS, x_l0, x_l1, x_l4, k_isWithin, if_neg (x_within (Or.inl hy) (by omega)), x_obS, if_pos rfl, k_goes F e (by decide) (by decide) (by decide)]
        rfl
    · refine ⟨(2, 0, E d), 0, EM (dset e 18 7 2), ?_, ?_, Or.inr (Or.inr ⟨rfl, rfl⟩), c, r, d, _, rfl, rfl, hJ.thrown 2, by omega⟩
      · unfold r_X7_inBuffer r_X7_inBuffer_b14
        have y0 : ¬ y < 0 := by
          rw [Int32.lt_iff_toInt_lt]
          rw [Int32.le_iff_toInt_le, x_toInt (by omega)] at hy
          have : (0 : Int32).toInt = 0 := rfl
          omega
        have y4 : ¬ y ≤ 4 := by
          rw [Int32.le_iff_toInt_le]
          rw [Int32.le_iff_toInt_le, x_toInt (by omega)] at hy
          have : (4 : Int32).toInt = 4 := rfl
          omega
        rw [n_checkSwitch F hG, if_neg hxn, x_obxS rfl, if_neg y0, if_neg y4]
      · unfold r_X8_inBuffer r_X8_inBuffer_b28 r_X8_inBuffer_b29 r_X8_inBuffer_b51
        rw [k_isSwitch F hGM, if_neg hxn, x_obS, x_l0, x_l1, x_l4, k_isWithin, if_neg (x_within (Or.inr hy) (by omega)), x_obS, if_pos rfl, k_goes F e (by decide) (by decide) (by decide)]
        rfl
    · by_cases hz : z = 0 ∨ z = 1
      · obtain ⟨l, hl, rfl⟩ : ∃ l : Nat, l < 2 ∧ z = nI l := by
          rcases hz with rfl | rfl
          · exact ⟨0, by omega, rfl⟩
          · exact ⟨1, by omega, rfl⟩
        have hb9 : bf w i l < 160 := by
          show w * 10 + 2 * i + l < 160
          omega
        have hQ := (hJ.2.2.2.2.2.2.2.2.2.2.2.1 (bf w i l) hb9).1
        refine ⟨(0, nI (d 15 (bf w i l)), E d), nI (d 15 (bf w i l)), EM (dset e 18 7 0), ?_, ?_, Or.inl ⟨rfl, rfl, rfl⟩, c, r, d, _, rfl, rfl, hJ.thrown 0, by omega⟩
        · unfold r_X7_inBuffer r_X0_size
          rw [n_checkSwitch F hG, if_neg hxn, x_obxS rfl]
          simp (disch := omega) only [x_obS, x_oiS, x_osS, x_og1, x_inT, x_nzT, x_boT, x_lt, x_le, x_eq, x_cl, nI_add, pk_mul, x_at, x_st, x_lm1, x_meq, x_nm, x_mneq, x_m0, x_mge, x_sub1, x_subN, if_pos, if_neg, if_true, if_false, x_l0, x_l1, x_l2, x_l3, x_l4, x_l5, x_l8, x_l10, x_l16, x_l50, x_l80, x_l128, x_l160, x_l640, x_l25600, E_0, E_1, E_2, E_3, E_4, E_5, E_6, E_7, E_8, E_9, E_10, E_11, E_12, E_13, E_14, E_15, E_16, E_17, E_18, E_19, E_20, E_21, E_22, Es_0, Es_1, Es_2, Es_3, Es_4, Es_5, Es_6, Es_7, Es_8, Es_9, Es_11, Es_12, Es_13, Es_14, Es_15, Es_16, Es_17, Es_18, Es_21, Es_22, Es_10, Es_19, Es_20, Es_10n, Es_19n, Es_20n, n_at_0, n_at_1, n_at_2, n_at_3, n_at_4, n_at_5, n_at_6, n_at_7, n_at_8, n_at_9, n_at_10, n_at_11, n_at_12, n_at_13, n_at_14, n_at_15, n_at_16, n_at_17, n_at_18, n_at_19, n_at_20, n_at_21, n_put_0, n_put_1, n_put_2, n_put_3, n_put_4, n_put_5, n_put_6, n_put_7, n_put_8, n_put_9, n_put_10, n_put_11, n_put_12, n_put_13, n_put_14, n_put_15, n_put_16, n_put_17, n_put_18, n_put_19, n_put_20, n_put_21, n_put_10n, n_put_19n, n_put_20n, n_add_0, n_add_1, n_add_2, n_add_3, n_add_4, n_add_5, n_add_6, n_add_7, n_add_8, n_add_9, n_add_11, n_add_12, n_add_13, n_add_14, n_add_15, n_add_16, n_add_17, n_add_18, n_add_21, n_sub_0, n_sub_1, n_sub_2, n_sub_3, n_sub_4, n_sub_5, n_sub_6, n_sub_7, n_sub_8, n_sub_9, n_sub_11, n_sub_12, n_sub_13, n_sub_14, n_sub_15, n_sub_16, n_sub_17, n_sub_18, n_sub_21, n_bufferOf]
          rw [n_checkLane, if_pos hz, x_obxS rfl]
          simp (disch := omega) only [x_obS, x_oiS, x_osS, x_og1, x_inT, x_nzT, x_boT, x_lt, x_le, x_eq, x_cl, nI_add, pk_mul, x_at, x_st, x_lm1, x_meq, x_nm, x_mneq, x_m0, x_mge, x_sub1, x_subN, if_pos, if_neg, if_true, if_false, x_l0, x_l1, x_l2, x_l3, x_l4, x_l5, x_l8, x_l10, x_l16, x_l50, x_l80, x_l128, x_l160, x_l640, x_l25600, E_0, E_1, E_2, E_3, E_4, E_5, E_6, E_7, E_8, E_9, E_10, E_11, E_12, E_13, E_14, E_15, E_16, E_17, E_18, E_19, E_20, E_21, E_22, Es_0, Es_1, Es_2, Es_3, Es_4, Es_5, Es_6, Es_7, Es_8, Es_9, Es_11, Es_12, Es_13, Es_14, Es_15, Es_16, Es_17, Es_18, Es_21, Es_22, Es_10, Es_19, Es_20, Es_10n, Es_19n, Es_20n, n_at_0, n_at_1, n_at_2, n_at_3, n_at_4, n_at_5, n_at_6, n_at_7, n_at_8, n_at_9, n_at_10, n_at_11, n_at_12, n_at_13, n_at_14, n_at_15, n_at_16, n_at_17, n_at_18, n_at_19, n_at_20, n_at_21, n_put_0, n_put_1, n_put_2, n_put_3, n_put_4, n_put_5, n_put_6, n_put_7, n_put_8, n_put_9, n_put_10, n_put_11, n_put_12, n_put_13, n_put_14, n_put_15, n_put_16, n_put_17, n_put_18, n_put_19, n_put_20, n_put_21, n_put_10n, n_put_19n, n_put_20n, n_add_0, n_add_1, n_add_2, n_add_3, n_add_4, n_add_5, n_add_6, n_add_7, n_add_8, n_add_9, n_add_11, n_add_12, n_add_13, n_add_14, n_add_15, n_add_16, n_add_17, n_add_18, n_add_21, n_sub_0, n_sub_1, n_sub_2, n_sub_3, n_sub_4, n_sub_5, n_sub_6, n_sub_7, n_sub_8, n_sub_9, n_sub_11, n_sub_12, n_sub_13, n_sub_14, n_sub_15, n_sub_16, n_sub_17, n_sub_18, n_sub_21, n_bufferOf]
        · unfold r_X8_inBuffer r_X8_inBuffer_b28 r_X8_inBuffer_b29 r_X8_inBuffer_b51
          rw [k_isSwitch F hGM, if_neg hxn, x_obS, x_l0, x_l1, x_l4, k_isWithin, if_pos (x_withinT (by omega) (by omega)), x_obS, if_neg (by decide), k_isWithin, if_pos (by rw [x_ln]; exact hz), x_obS, if_neg (by decide), k_goesT]
          simp (disch := omega) only [x_obS, x_oiS, x_osS, x_og1, x_inT, x_nzT, x_boT, x_lt, x_le, x_eq, x_cl, nI_add, pk_mul, x_at, x_st, x_lm1, x_meq, x_nm, x_mneq, x_m0, x_mge, x_sub1, x_subN, if_pos, if_neg, if_true, if_false, x_l0, x_l1, x_l2, x_l3, x_l4, x_l5, x_l8, x_l10, x_l16, x_l50, x_l80, x_l128, x_l160, x_l640, x_l25600, EM_0, EM_1, EM_2, EM_3, EM_4, EM_5, EM_6, EM_7, EM_8, EM_9, EM_10, EM_11, EM_12, EM_13, EM_14, EM_15, EM_16, EM_17, EM_18, EMs_0, EMs_1, EMs_2, EMs_3, EMs_4, EMs_5, EMs_7, EMs_8, EMs_9, EMs_10, EMs_11, EMs_13, EMs_14, EMs_16, EMs_17, EMs_18, EMs_6, EMs_12, EMs_15, EMs_6n, EMs_12n, EMs_15n, x_zn, k_bufferOf]
          rw [show dset e 18 7 0 1 (bf w i l) = e 1 (bf w i l) from rfl, hQ]
      · refine ⟨(2, 0, E d), 0, EM (dset e 18 7 2), ?_, ?_, Or.inr (Or.inr ⟨rfl, rfl⟩), c, r, d, _, rfl, rfl, hJ.thrown 2, by omega⟩
        · unfold r_X7_inBuffer
          rw [n_checkSwitch F hG, if_neg hxn, x_obxS rfl]
          simp (disch := omega) only [x_obS, x_oiS, x_osS, x_og1, x_inT, x_nzT, x_boT, x_lt, x_le, x_eq, x_cl, nI_add, pk_mul, x_at, x_st, x_lm1, x_meq, x_nm, x_mneq, x_m0, x_mge, x_sub1, x_subN, if_pos, if_neg, if_true, if_false, x_l0, x_l1, x_l2, x_l3, x_l4, x_l5, x_l8, x_l10, x_l16, x_l50, x_l80, x_l128, x_l160, x_l640, x_l25600, E_0, E_1, E_2, E_3, E_4, E_5, E_6, E_7, E_8, E_9, E_10, E_11, E_12, E_13, E_14, E_15, E_16, E_17, E_18, E_19, E_20, E_21, E_22, Es_0, Es_1, Es_2, Es_3, Es_4, Es_5, Es_6, Es_7, Es_8, Es_9, Es_11, Es_12, Es_13, Es_14, Es_15, Es_16, Es_17, Es_18, Es_21, Es_22, Es_10, Es_19, Es_20, Es_10n, Es_19n, Es_20n, n_at_0, n_at_1, n_at_2, n_at_3, n_at_4, n_at_5, n_at_6, n_at_7, n_at_8, n_at_9, n_at_10, n_at_11, n_at_12, n_at_13, n_at_14, n_at_15, n_at_16, n_at_17, n_at_18, n_at_19, n_at_20, n_at_21, n_put_0, n_put_1, n_put_2, n_put_3, n_put_4, n_put_5, n_put_6, n_put_7, n_put_8, n_put_9, n_put_10, n_put_11, n_put_12, n_put_13, n_put_14, n_put_15, n_put_16, n_put_17, n_put_18, n_put_19, n_put_20, n_put_21, n_put_10n, n_put_19n, n_put_20n, n_add_0, n_add_1, n_add_2, n_add_3, n_add_4, n_add_5, n_add_6, n_add_7, n_add_8, n_add_9, n_add_11, n_add_12, n_add_13, n_add_14, n_add_15, n_add_16, n_add_17, n_add_18, n_add_21, n_sub_0, n_sub_1, n_sub_2, n_sub_3, n_sub_4, n_sub_5, n_sub_6, n_sub_7, n_sub_8, n_sub_9, n_sub_11, n_sub_12, n_sub_13, n_sub_14, n_sub_15, n_sub_16, n_sub_17, n_sub_18, n_sub_21]
          rw [n_checkLane, if_neg hz]
          rfl
        · unfold r_X8_inBuffer r_X8_inBuffer_b28 r_X8_inBuffer_b29 r_X8_inBuffer_b51
          rw [k_isSwitch F hGM, if_neg hxn, x_obS, x_l0, x_l1, x_l4, k_isWithin, if_pos (x_withinT (by omega) (by omega)), x_obS, if_neg (by decide), k_isWithin, if_neg (by rw [x_ln]; exact hz), x_obS, if_pos rfl, k_goes F e (by decide) (by decide) (by decide)]
          rfl
