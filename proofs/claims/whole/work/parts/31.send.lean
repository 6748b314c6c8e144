/-! send -/
def addP (d : DS) (n w g l m : Nat) : DS := dset (dset (dset (dset (dset (dset (dset (dset (dset d 6 n w) 7 n g) 8 n l) 9 n m) 10 n (w + 1)) 11 n 4) 12 n 0) 13 n 0) 22 4 (n + 1)
theorem n_addP (F : Nat) {d : DS} (w g l m : Nat) (hn : d 22 4 < 80) : r_X4_add F (nI w) (nI g) (nI l) (nI m) (E d) = some (nI (d 22 4), E (addP d (d 22 4) w g l m)) := by
  unfold r_X4_add addP
  simp (disch := omega) only [x_obS, x_oiS, x_osS, x_og1, x_inT, x_nzT, x_boT, x_lt, x_le, x_eq, x_cl, nI_add, pk_mul, x_at, x_st, x_lm1, x_meq, x_nm, x_mneq, x_m0, x_mge, x_sub1, x_subN, if_pos, if_neg, if_true, if_false, x_l0, x_l1, x_l2, x_l3, x_l4, x_l5, x_l8, x_l10, x_l16, x_l50, x_l80, x_l128, x_l160, x_l640, x_l25600, E_0, E_1, E_2, E_3, E_4, E_5, E_6, E_7, E_8, E_9, E_10, E_11, E_12, E_13, E_14, E_15, E_16, E_17, E_18, E_19, E_20, E_21, E_22, Es_0, Es_1, Es_2, Es_3, Es_4, Es_5, Es_6, Es_7, Es_8, Es_9, Es_11, Es_12, Es_13, Es_14, Es_15, Es_16, Es_17, Es_18, Es_21, Es_22, Es_10, Es_19, Es_20, Es_10n, Es_19n, Es_20n, n_at_0, n_at_1, n_at_2, n_at_3, n_at_4, n_at_5, n_at_6, n_at_7, n_at_8, n_at_9, n_at_10, n_at_11, n_at_12, n_at_13, n_at_14, n_at_15, n_at_16, n_at_17, n_at_18, n_at_19, n_at_20, n_at_21, n_put_0, n_put_1, n_put_2, n_put_3, n_put_4, n_put_5, n_put_6, n_put_7, n_put_8, n_put_9, n_put_10, n_put_11, n_put_12, n_put_13, n_put_14, n_put_15, n_put_16, n_put_17, n_put_18, n_put_19, n_put_20, n_put_21, n_put_10n, n_put_19n, n_put_20n, n_add_0, n_add_1, n_add_2, n_add_3, n_add_4, n_add_5, n_add_6, n_add_7, n_add_8, n_add_9, n_add_11, n_add_12, n_add_13, n_add_14, n_add_15, n_add_16, n_add_17, n_add_18, n_add_21, n_sub_0, n_sub_1, n_sub_2, n_sub_3, n_sub_4, n_sub_5, n_sub_6, n_sub_7, n_sub_8, n_sub_9, n_sub_11, n_sub_12, n_sub_13, n_sub_14, n_sub_15, n_sub_16, n_sub_17, n_sub_18, n_sub_21, dset_n]
def sntC (d : DS) (w g l m : Nat) : DS := dset (apd (addP d (d 22 4) w g l m) (bf w 4 l) (d 22 4)) 19 w (d 22 1 + 1)
def sntM (e : DS) (w g l m : Nat) : DS := dset (dset (ptM (dset (dset (dset (dset (dset (dset (dset e 9 (e 18 5) w) 8 (e 18 5) g) 10 (e 18 5) l) 11 (e 18 5) m) 12 (e 18 5) (w + 1)) 13 (e 18 5) 0) 14 (e 18 5) 0) (bf w 4 l) (e 18 5)) 6 w (e 18 4 + 1)) 18 5 (e 18 5 + 1)
theorem n_isReady (F : Nat) {d : DS} {w : Nat} (hw : w < 16) (h1 : d 22 1 < 30000) (h2 : d 19 w ≤ d 22 1 + 1) (h3 : d 18 w ≤ 16) : r_X6_isReady F (nI w) (nI (d 22 1)) (E d) = some (nI (if d 19 w = 0 ∨ d 18 w ≤ d 22 1 + 1 - d 19 w then 1 else 0), E d) := by
  unfold r_X6_isReady r_X6_isReady_b28 r_X6_isReady_b33
  by_cases h : d 19 w = 0
  · simp (disch := omega) only [x_obS, x_oiS, x_osS, x_og1, x_inT, x_nzT, x_boT, x_lt, x_le, x_eq, x_cl, nI_add, pk_mul, x_at, x_st, x_lm1, x_meq, x_nm, x_mneq, x_m0, x_mge, x_sub1, x_subN, if_pos, if_neg, if_true, if_false, x_l0, x_l1, x_l2, x_l3, x_l4, x_l5, x_l8, x_l10, x_l16, x_l50, x_l80, x_l128, x_l160, x_l640, x_l25600, E_0, E_1, E_2, E_3, E_4, E_5, E_6, E_7, E_8, E_9, E_10, E_11, E_12, E_13, E_14, E_15, E_16, E_17, E_18, E_19, E_20, E_21, E_22, Es_0, Es_1, Es_2, Es_3, Es_4, Es_5, Es_6, Es_7, Es_8, Es_9, Es_11, Es_12, Es_13, Es_14, Es_15, Es_16, Es_17, Es_18, Es_21, Es_22, Es_10, Es_19, Es_20, Es_10n, Es_19n, Es_20n, n_at_0, n_at_1, n_at_2, n_at_3, n_at_4, n_at_5, n_at_6, n_at_7, n_at_8, n_at_9, n_at_10, n_at_11, n_at_12, n_at_13, n_at_14, n_at_15, n_at_16, n_at_17, n_at_18, n_at_19, n_at_20, n_at_21, n_put_0, n_put_1, n_put_2, n_put_3, n_put_4, n_put_5, n_put_6, n_put_7, n_put_8, n_put_9, n_put_10, n_put_11, n_put_12, n_put_13, n_put_14, n_put_15, n_put_16, n_put_17, n_put_18, n_put_19, n_put_20, n_put_21, n_put_10n, n_put_19n, n_put_20n, n_add_0, n_add_1, n_add_2, n_add_3, n_add_4, n_add_5, n_add_6, n_add_7, n_add_8, n_add_9, n_add_11, n_add_12, n_add_13, n_add_14, n_add_15, n_add_16, n_add_17, n_add_18, n_add_21, n_sub_0, n_sub_1, n_sub_2, n_sub_3, n_sub_4, n_sub_5, n_sub_6, n_sub_7, n_sub_8, n_sub_9, n_sub_11, n_sub_12, n_sub_13, n_sub_14, n_sub_15, n_sub_16, n_sub_17, n_sub_18, n_sub_21, h, true_or]
  · obtain ⟨k, hk⟩ : ∃ k, d 19 w = k + 1 := ⟨d 19 w - 1, by omega⟩
    have e1 : d 22 1 + 1 - (k + 1) = d 22 1 - k := by omega
    have e0 : (k + 1 = 0) = False := by simp
    by_cases h5 : d 18 w ≤ d 22 1 - k
    · simp (disch := omega) only [x_obS, x_oiS, x_osS, x_og1, x_inT, x_nzT, x_boT, x_lt, x_le, x_eq, x_cl, nI_add, pk_mul, x_at, x_st, x_lm1, x_meq, x_nm, x_mneq, x_m0, x_mge, x_sub1, x_subN, if_pos, if_neg, if_true, if_false, x_l0, x_l1, x_l2, x_l3, x_l4, x_l5, x_l8, x_l10, x_l16, x_l50, x_l80, x_l128, x_l160, x_l640, x_l25600, E_0, E_1, E_2, E_3, E_4, E_5, E_6, E_7, E_8, E_9, E_10, E_11, E_12, E_13, E_14, E_15, E_16, E_17, E_18, E_19, E_20, E_21, E_22, Es_0, Es_1, Es_2, Es_3, Es_4, Es_5, Es_6, Es_7, Es_8, Es_9, Es_11, Es_12, Es_13, Es_14, Es_15, Es_16, Es_17, Es_18, Es_21, Es_22, Es_10, Es_19, Es_20, Es_10n, Es_19n, Es_20n, n_at_0, n_at_1, n_at_2, n_at_3, n_at_4, n_at_5, n_at_6, n_at_7, n_at_8, n_at_9, n_at_10, n_at_11, n_at_12, n_at_13, n_at_14, n_at_15, n_at_16, n_at_17, n_at_18, n_at_19, n_at_20, n_at_21, n_put_0, n_put_1, n_put_2, n_put_3, n_put_4, n_put_5, n_put_6, n_put_7, n_put_8, n_put_9, n_put_10, n_put_11, n_put_12, n_put_13, n_put_14, n_put_15, n_put_16, n_put_17, n_put_18, n_put_19, n_put_20, n_put_21, n_put_10n, n_put_19n, n_put_20n, n_add_0, n_add_1, n_add_2, n_add_3, n_add_4, n_add_5, n_add_6, n_add_7, n_add_8, n_add_9, n_add_11, n_add_12, n_add_13, n_add_14, n_add_15, n_add_16, n_add_17, n_add_18, n_add_21, n_sub_0, n_sub_1, n_sub_2, n_sub_3, n_sub_4, n_sub_5, n_sub_6, n_sub_7, n_sub_8, n_sub_9, n_sub_11, n_sub_12, n_sub_13, n_sub_14, n_sub_15, n_sub_16, n_sub_17, n_sub_18, n_sub_21, hk, mI_s, e1, e0, h5, or_true, true_or]
    · simp (disch := omega) only [x_obS, x_oiS, x_osS, x_og1, x_inT, x_nzT, x_boT, x_lt, x_le, x_eq, x_cl, nI_add, pk_mul, x_at, x_st, x_lm1, x_meq, x_nm, x_mneq, x_m0, x_mge, x_sub1, x_subN, if_pos, if_neg, if_true, if_false, x_l0, x_l1, x_l2, x_l3, x_l4, x_l5, x_l8, x_l10, x_l16, x_l50, x_l80, x_l128, x_l160, x_l640, x_l25600, E_0, E_1, E_2, E_3, E_4, E_5, E_6, E_7, E_8, E_9, E_10, E_11, E_12, E_13, E_14, E_15, E_16, E_17, E_18, E_19, E_20, E_21, E_22, Es_0, Es_1, Es_2, Es_3, Es_4, Es_5, Es_6, Es_7, Es_8, Es_9, Es_11, Es_12, Es_13, Es_14, Es_15, Es_16, Es_17, Es_18, Es_21, Es_22, Es_10, Es_19, Es_20, Es_10n, Es_19n, Es_20n, n_at_0, n_at_1, n_at_2, n_at_3, n_at_4, n_at_5, n_at_6, n_at_7, n_at_8, n_at_9, n_at_10, n_at_11, n_at_12, n_at_13, n_at_14, n_at_15, n_at_16, n_at_17, n_at_18, n_at_19, n_at_20, n_at_21, n_put_0, n_put_1, n_put_2, n_put_3, n_put_4, n_put_5, n_put_6, n_put_7, n_put_8, n_put_9, n_put_10, n_put_11, n_put_12, n_put_13, n_put_14, n_put_15, n_put_16, n_put_17, n_put_18, n_put_19, n_put_20, n_put_21, n_put_10n, n_put_19n, n_put_20n, n_add_0, n_add_1, n_add_2, n_add_3, n_add_4, n_add_5, n_add_6, n_add_7, n_add_8, n_add_9, n_add_11, n_add_12, n_add_13, n_add_14, n_add_15, n_add_16, n_add_17, n_add_18, n_add_21, n_sub_0, n_sub_1, n_sub_2, n_sub_3, n_sub_4, n_sub_5, n_sub_6, n_sub_7, n_sub_8, n_sub_9, n_sub_11, n_sub_12, n_sub_13, n_sub_14, n_sub_15, n_sub_16, n_sub_17, n_sub_18, n_sub_21, hk, mI_s, e1, e0, h5, or_self]
theorem k_sX (F : Nat) (x1 x2 x3 x4 : Int32) (e : DS) {a b c : Nat} (ha : a < 2) (hb : b < 2) (hc : c < 2) (h : ¬ thr a b c = 0) : r_X8_send_b125 F x1 x2 x3 x4 (nI a) (nI b) (nI c) (EM e) = some (0, EM (dset e 18 7 (thr a b c))) := by
  unfold r_X8_send_b125
  rw [k_goes F e ha hb hc, if_neg h, x_obS, if_pos (by decide)]
theorem k_s52 (F : Nat) (x1 x2 x3 x4 : Int32) (e : DS) {a b : Nat} (ha : a < 2) (hb : b < 2) (h : a = 0 ∨ b = 0) : r_X8_send_b52 F x1 x2 x3 x4 (nI a) (nI b) (EM e) = some (0, EM (dset e 18 7 (thr a b 0))) := by
  have h0 : ¬ thr a b 0 = 0 := by
    unfold thr
    split
    · omega
    · split <;> omega
  unfold r_X8_send_b52 r_X8_send_b124
  by_cases q : a = 0
  · rw [if_pos (by rw [q]; rfl)]
    exact k_sX F x1 x2 x3 x4 e (c := 0) ha hb (by omega) h0
  · obtain rfl : b = 0 := by omega
    rw [if_neg (by rw [x_l0, x_eq (by omega) (by omega)]; omega), if_pos (by rfl)]
    exact k_sX F x1 x2 x3 x4 e (c := 0) ha hb (by omega) h0
theorem k_ln1 (F : Nat) {x : Int32} (s : CS) (h : x = 0 ∨ x = 1) : r_X8_isWithin F x (nI 0) (nI 1) s = some (nI 1, s) := by
  rw [k_isWithin, if_pos (by rw [x_ln]; exact h)]
theorem k_ln0 (F : Nat) {x : Int32} (s : CS) (h : ¬ (x = 0 ∨ x = 1)) : r_X8_isWithin F x (nI 0) (nI 1) s = some (nI 0, s) := by
  rw [k_isWithin, if_neg (by rw [x_ln]; exact h)]
theorem k_s21 (F : Nat) (x1 x2 x3 x4 : Int32) (e : DS) {a : Nat} (ha : a < 2) (h : a = 0 ∨ x1 = x2 ∨ ¬ (x3 = 0 ∨ x3 = 1) ∨ ¬ (x4 = 0 ∨ x4 = 1)) : r_X8_send_b21 F x1 x2 x3 x4 (nI a) (EM e) = some (0, EM (dset e 18 7 (if a = 0 then 1 else 2))) := by
  have h0 : r_X8_send_b52 F x1 x2 x3 x4 (nI a) (nI 0) (EM e) = some (0, EM (dset e 18 7 (if a = 0 then 1 else 2))) := (k_s52 F x1 x2 x3 x4 e ha (by omega) (Or.inr rfl)).trans (by
    unfold thr
    split <;> rfl)
  unfold r_X8_send_b21 r_X8_send_b51
  by_cases q : x1 = x2
  · rw [if_pos q]
    exact h0
  rw [if_neg q, x_l0, x_l1]
  by_cases q3 : x3 = 0 ∨ x3 = 1
  · rw [k_ln1 F _ q3, x_obS, if_neg (by decide)]
    by_cases q4 : x4 = 0 ∨ x4 = 1
    · rw [k_ln1 F _ q4, x_obS, if_neg (by decide)]
      rcases h with h | h | h | h
      · subst h
        exact (k_s52 F x1 x2 x3 x4 e ha (by omega) (Or.inl rfl))
      · exact absurd h q
      · exact absurd q3 h
      · exact absurd q4 h
    · rw [k_ln0 F _ q4, x_obS, if_pos rfl]
      exact h0
  · rw [k_ln0 F _ q3, x_obS, if_pos rfl]
    exact h0
def fit (d : DS) (w l : Nat) : Prop := d 15 (bf w 4 l) < d 22 6 ∧ (d 19 w = 0 ∨ d 18 w ≤ d 22 1 + 1 - d 19 w) ∧ d 22 4 < 80
theorem k_s52F (F : Nat) {c r w g l m : Nat} {d e : DS} (hJ : JJ c r d e) (hw : w < c * r) (hl : l < 2) (hf : ¬ fit d w l) : r_X8_send_b52 F (nI w) (nI g) (nI l) (nI m) (nI 1) (nI 1) (EM e) = some (0, EM (dset e 18 7 3)) := by
  obtain ⟨i1, i2, i3, i4, i5, i6, i7, i8, ra, rb, rp, rq, rl⟩ := hJ
  have h16 := Gr16 i1.1.2.2.1
  have h0 := k_sX F (nI w) (nI g) (nI l) (nI m) e (a := 1) (b := 1) (c := 0) (by omega) (by omega) (by omega) (by decide)
  have hb9 : bf w 4 l < 160 := by
    show w * 10 + 2 * 4 + l < 160
    omega
  obtain ⟨u1, u2, u3, u4⟩ := i2.1 w (by omega)
  obtain ⟨v1, v2, v3⟩ := rb.1 w (by omega)
  obtain ⟨a0, a1, a2, a3, a4, a5, a6⟩ := ra
  have j4 := (i4 _ hb9).1
  have y1 := (rq _ hb9).1
  obtain ⟨j6, j6', j7, j1, j80⟩ := i1.2
  have z1 : thr 1 1 0 = 3 := rfl
  rw [z1] at h0
  unfold r_X8_send_b52 r_X8_send_b124 r_X8_send_b120
  by_cases q1 : d 22 4 < 80
  · by_cases q2 : d 15 (bf w 4 l) < d 22 6
    · have q3 : ¬ (d 19 w = 0 ∨ d 18 w ≤ d 22 1 + 1 - d 19 w) := fun z => hf ⟨q2, z, q1⟩
      obtain ⟨k, hk⟩ : ∃ k, d 19 w = k + 1 := ⟨d 19 w - 1, by omega⟩
      simp (disch := omega) only [x_obS, x_oiS, x_osS, x_og1, x_inT, x_nzT, x_boT, x_lt, x_le, x_eq, x_cl, nI_add, pk_mul, x_at, x_st, x_lm1, x_meq, x_nm, x_mneq, x_m0, x_mge, x_sub1, x_subN, if_pos, if_neg, if_true, if_false, x_l0, x_l1, x_l2, x_l3, x_l4, x_l5, x_l8, x_l10, x_l16, x_l50, x_l80, x_l128, x_l160, x_l640, x_l25600, EM_0, EM_1, EM_2, EM_3, EM_4, EM_5, EM_6, EM_7, EM_8, EM_9, EM_10, EM_11, EM_12, EM_13, EM_14, EM_15, EM_16, EM_17, EM_18, EMs_0, EMs_1, EMs_2, EMs_3, EMs_4, EMs_5, EMs_7, EMs_8, EMs_9, EMs_10, EMs_11, EMs_13, EMs_14, EMs_16, EMs_17, EMs_18, EMs_6, EMs_12, EMs_15, EMs_6n, EMs_12n, EMs_15n, x_zn, a0, a1, a2, a3, a4, a5, y1, v1, v2, v3, k_bufferOf, hk, mI_s]
      exact h0
    · simp (disch := omega) only [x_obS, x_oiS, x_osS, x_og1, x_inT, x_nzT, x_boT, x_lt, x_le, x_eq, x_cl, nI_add, pk_mul, x_at, x_st, x_lm1, x_meq, x_nm, x_mneq, x_m0, x_mge, x_sub1, x_subN, if_pos, if_neg, if_true, if_false, x_l0, x_l1, x_l2, x_l3, x_l4, x_l5, x_l8, x_l10, x_l16, x_l50, x_l80, x_l128, x_l160, x_l640, x_l25600, EM_0, EM_1, EM_2, EM_3, EM_4, EM_5, EM_6, EM_7, EM_8, EM_9, EM_10, EM_11, EM_12, EM_13, EM_14, EM_15, EM_16, EM_17, EM_18, EMs_0, EMs_1, EMs_2, EMs_3, EMs_4, EMs_5, EMs_7, EMs_8, EMs_9, EMs_10, EMs_11, EMs_13, EMs_14, EMs_16, EMs_17, EMs_18, EMs_6, EMs_12, EMs_15, EMs_6n, EMs_12n, EMs_15n, x_zn, a0, a1, a2, a3, a4, a5, y1, v1, v2, v3, k_bufferOf]
      exact h0
  · simp (disch := omega) only [x_obS, x_oiS, x_osS, x_og1, x_inT, x_nzT, x_boT, x_lt, x_le, x_eq, x_cl, nI_add, pk_mul, x_at, x_st, x_lm1, x_meq, x_nm, x_mneq, x_m0, x_mge, x_sub1, x_subN, if_pos, if_neg, if_true, if_false, x_l0, x_l1, x_l2, x_l3, x_l4, x_l5, x_l8, x_l10, x_l16, x_l50, x_l80, x_l128, x_l160, x_l640, x_l25600, EM_0, EM_1, EM_2, EM_3, EM_4, EM_5, EM_6, EM_7, EM_8, EM_9, EM_10, EM_11, EM_12, EM_13, EM_14, EM_15, EM_16, EM_17, EM_18, EMs_0, EMs_1, EMs_2, EMs_3, EMs_4, EMs_5, EMs_7, EMs_8, EMs_9, EMs_10, EMs_11, EMs_13, EMs_14, EMs_16, EMs_17, EMs_18, EMs_6, EMs_12, EMs_15, EMs_6n, EMs_12n, EMs_15n, x_zn, a0, a1, a2, a3, a4, a5, y1, v1, v2, v3, k_bufferOf]
    exact h0
theorem k_s52S (F : Nat) {c r w g l m : Nat} {d e : DS} (hJ : JJ c r d e) (hw : w < c * r) (hl : l < 2) (hf : fit d w l) : r_X8_send_b52 F (nI w) (nI g) (nI l) (nI m) (nI 1) (nI 1) (EM e) = some (nI (d 22 4), EM (sntM (dset e 18 7 0) w g l m)) := by
  obtain ⟨i1, i2, i3, i4, i5, i6, i7, i8, ra, rb, rp, rq, rl⟩ := hJ
  have h16 := Gr16 i1.1.2.2.1
  have hb9 : bf w 4 l < 160 := by
    show w * 10 + 2 * 4 + l < 160
    omega
  obtain ⟨u1, u2, u3, u4⟩ := i2.1 w (by omega)
  obtain ⟨v1, v2, v3⟩ := rb.1 w (by omega)
  obtain ⟨a0, a1, a2, a3, a4, a5, a6⟩ := ra
  have j4 := (i4 _ hb9).1
  have y1 := (rq _ hb9).1
  obtain ⟨j6, j6', j7, j1, j80⟩ := i1.2
  obtain ⟨q2, q3, q1⟩ := hf
  have h0 : r_X8_send_b125 F (nI w) (nI g) (nI l) (nI m) (nI 1) (nI 1) (nI 1) (EM e) = some (nI (d 22 4), EM (sntM (dset e 18 7 0) w g l m)) := by
    have a5' : dset e 18 7 0 18 5 = d 22 4 := a5
    have a4' : dset e 18 7 0 18 4 = d 22 1 := a4
    unfold r_X8_send_b125 sntM
    rw [k_goesT, x_obS, if_neg (by decide), a5', a4']
    generalize hE : dset e 18 7 0 = e0 at *
    have b1 : e0 1 (bf w 4 l) < 3 := by
      rw [← hE]
      show e 1 (bf w 4 l) < 3
      omega
    simp (disch := omega) only [x_obS, x_oiS, x_osS, x_og1, x_inT, x_nzT, x_boT, x_lt, x_le, x_eq, x_cl, nI_add, pk_mul, x_at, x_st, x_lm1, x_meq, x_nm, x_mneq, x_m0, x_mge, x_sub1, x_subN, if_pos, if_neg, if_true, if_false, x_l0, x_l1, x_l2, x_l3, x_l4, x_l5, x_l8, x_l10, x_l16, x_l50, x_l80, x_l128, x_l160, x_l640, x_l25600, EM_0, EM_1, EM_2, EM_3, EM_4, EM_5, EM_6, EM_7, EM_8, EM_9, EM_10, EM_11, EM_12, EM_13, EM_14, EM_15, EM_16, EM_17, EM_18, EMs_0, EMs_1, EMs_2, EMs_3, EMs_4, EMs_5, EMs_7, EMs_8, EMs_9, EMs_10, EMs_11, EMs_13, EMs_14, EMs_16, EMs_17, EMs_18, EMs_6, EMs_12, EMs_15, EMs_6n, EMs_12n, EMs_15n, x_zn, a4', a5', dset_n, k_bufferOf]
    rw [k_puts F _ hb9 (by exact b1), x_obS]
    unfold ptM
    simp (disch := omega) only [x_obS, x_oiS, x_osS, x_og1, x_inT, x_nzT, x_boT, x_lt, x_le, x_eq, x_cl, nI_add, pk_mul, x_at, x_st, x_lm1, x_meq, x_nm, x_mneq, x_m0, x_mge, x_sub1, x_subN, if_pos, if_neg, if_true, if_false, x_l0, x_l1, x_l2, x_l3, x_l4, x_l5, x_l8, x_l10, x_l16, x_l50, x_l80, x_l128, x_l160, x_l640, x_l25600, EM_0, EM_1, EM_2, EM_3, EM_4, EM_5, EM_6, EM_7, EM_8, EM_9, EM_10, EM_11, EM_12, EM_13, EM_14, EM_15, EM_16, EM_17, EM_18, EMs_0, EMs_1, EMs_2, EMs_3, EMs_4, EMs_5, EMs_7, EMs_8, EMs_9, EMs_10, EMs_11, EMs_13, EMs_14, EMs_16, EMs_17, EMs_18, EMs_6, EMs_12, EMs_15, EMs_6n, EMs_12n, EMs_15n, x_zn, a4', a5', dset_n, dset_s]
    rfl
  unfold r_X8_send_b52 r_X8_send_b124 r_X8_send_b120
  by_cases q4 : d 19 w = 0
  · simp (disch := omega) only [x_obS, x_oiS, x_osS, x_og1, x_inT, x_nzT, x_boT, x_lt, x_le, x_eq, x_cl, nI_add, pk_mul, x_at, x_st, x_lm1, x_meq, x_nm, x_mneq, x_m0, x_mge, x_sub1, x_subN, if_pos, if_neg, if_true, if_false, x_l0, x_l1, x_l2, x_l3, x_l4, x_l5, x_l8, x_l10, x_l16, x_l50, x_l80, x_l128, x_l160, x_l640, x_l25600, EM_0, EM_1, EM_2, EM_3, EM_4, EM_5, EM_6, EM_7, EM_8, EM_9, EM_10, EM_11, EM_12, EM_13, EM_14, EM_15, EM_16, EM_17, EM_18, EMs_0, EMs_1, EMs_2, EMs_3, EMs_4, EMs_5, EMs_7, EMs_8, EMs_9, EMs_10, EMs_11, EMs_13, EMs_14, EMs_16, EMs_17, EMs_18, EMs_6, EMs_12, EMs_15, EMs_6n, EMs_12n, EMs_15n, x_zn, a0, a1, a2, a3, a4, a5, y1, v1, v2, v3, k_bufferOf, q4]
    exact h0
  · obtain ⟨k, hk⟩ : ∃ k, d 19 w = k + 1 := ⟨d 19 w - 1, by omega⟩
    simp (disch := omega) only [x_obS, x_oiS, x_osS, x_og1, x_inT, x_nzT, x_boT, x_lt, x_le, x_eq, x_cl, nI_add, pk_mul, x_at, x_st, x_lm1, x_meq, x_nm, x_mneq, x_m0, x_mge, x_sub1, x_subN, if_pos, if_neg, if_true, if_false, x_l0, x_l1, x_l2, x_l3, x_l4, x_l5, x_l8, x_l10, x_l16, x_l50, x_l80, x_l128, x_l160, x_l640, x_l25600, EM_0, EM_1, EM_2, EM_3, EM_4, EM_5, EM_6, EM_7, EM_8, EM_9, EM_10, EM_11, EM_12, EM_13, EM_14, EM_15, EM_16, EM_17, EM_18, EMs_0, EMs_1, EMs_2, EMs_3, EMs_4, EMs_5, EMs_7, EMs_8, EMs_9, EMs_10, EMs_11, EMs_13, EMs_14, EMs_16, EMs_17, EMs_18, EMs_6, EMs_12, EMs_15, EMs_6n, EMs_12n, EMs_15n, x_zn, a0, a1, a2, a3, a4, a5, y1, v1, v2, v3, k_bufferOf, hk, mI_s]
    exact h0
theorem JJ.sent {c r w g l m : Nat} {d e : DS} (hJ : JJ c r d e) (hw : w < c * r) (hg : g < c * r) (hl : l < 2) (hm : m < 2) (hf : fit d w l) : JJ c r (sntC d w g l m) (sntM e w g l m) := by
  obtain ⟨i1, ⟨i2, i2'⟩, i3, i4, i5, i6, ⟨i7, i7'⟩, ⟨i8, i8'⟩, ra, ⟨rb, rb'⟩, rp, rq, rl⟩ := hJ
  have h16 := Gr16 i1.1.2.2.1
  obtain ⟨f1, f2, f3⟩ := hf
  have hb9 : bf w 4 l < 160 := by
    show w * 10 + 2 * 4 + l < 160
    omega
  have hb10 : bf w 4 l / 10 = w ∧ bf w 4 l % 10 = 8 + l := by
    show (w * 10 + 2 * 4 + l) / 10 = w ∧ (w * 10 + 2 * 4 + l) % 10 = 8 + l
    omega
  obtain ⟨a0, a1, a2, a3, a4, a5, a6⟩ := ra
  obtain ⟨j6, j6', j7, j1, j80⟩ := i1.2
  obtain ⟨d', hd⟩ : ∃ d', d' = sntC d w g l m := ⟨_, rfl⟩
  obtain ⟨e', he⟩ : ∃ e', e' = sntM e w g l m := ⟨_, rfl⟩
  obtain ⟨n, hn⟩ : ∃ n, n = d 22 4 := ⟨_, rfl⟩
  obtain ⟨b, hb⟩ : ∃ b, b = bf w 4 l := ⟨_, rfl⟩
  obtain ⟨S, hS⟩ : ∃ S, S = d 15 b := ⟨_, rfl⟩
  have q6 : ∀ i, d' 6 i = if i = n then w else d 6 i := by subst hn hd; exact fun i => rfl
  have q7 : ∀ i, d' 7 i = if i = n then g else d 7 i := by subst hn hd; exact fun i => rfl
  have q8 : ∀ i, d' 8 i = if i = n then l else d 8 i := by subst hn hd; exact fun i => rfl
  have q9 : ∀ i, d' 9 i = if i = n then m else d 9 i := by subst hn hd; exact fun i => rfl
  have q10 : ∀ i, d' 10 i = if i = n then w + 1 else d 10 i := by subst hn hd; exact fun i => rfl
  have q11 : ∀ i, d' 11 i = if i = n then 4 else d 11 i := by subst hn hd; exact fun i => rfl
  have q12 : ∀ i, d' 12 i = if i = n then 0 else d 12 i := by subst hn hd; exact fun i => rfl
  have q13 : ∀ i, d' 13 i = if i = n then 0 else d 13 i := by subst hn hd; exact fun i => rfl
  have q14 : ∀ i, d' 14 i = if i = 3 * b + S then n else d 14 i := by subst hS hb hn hd; exact fun i => rfl
  have q15 : ∀ i, d' 15 i = if i = b then S + 1 else d 15 i := by subst hS hb hn hd; exact fun i => rfl
  have q19 : ∀ i, d' 19 i = if i = w then d 22 1 + 1 else d 19 i := by subst hd; exact fun i => rfl
  have qr : d' 0 = d 0 ∧ d' 1 = d 1 ∧ d' 4 = d 4 ∧ d' 5 = d 5 ∧ d' 16 = d 16 ∧ d' 17 = d 17 ∧ d' 18 = d 18 := by subst hd; exact ⟨rfl, rfl, rfl, rfl, rfl, rfl, rfl⟩
  have q22 : d' 22 1 = d 22 1 ∧ d' 22 2 = d 22 2 ∧ d' 22 3 = d 22 3 ∧ d' 22 4 = n + 1 ∧ d' 22 5 = d 22 5 ∧ d' 22 6 = d 22 6 ∧ d' 22 7 = d 22 7 ∧ d' 22 8 = d 22 8 := by subst hn hd; exact ⟨rfl, rfl, rfl, rfl, rfl, rfl, rfl, rfl⟩
  have hbq := (rq _ hb9).1
  rw [← hb] at hbq
  have e5 : e 18 5 = n := a5.trans hn.symm
  have p9 : ∀ i, e' 9 i = if i = n then w else e 9 i := by subst e5 he; exact fun i => rfl
  have p8 : ∀ i, e' 8 i = if i = n then g else e 8 i := by subst e5 he; exact fun i => rfl
  have p10 : ∀ i, e' 10 i = if i = n then l else e 10 i := by subst e5 he; exact fun i => rfl
  have p11 : ∀ i, e' 11 i = if i = n then m else e 11 i := by subst e5 he; exact fun i => rfl
  have p12 : ∀ i, e' 12 i = if i = n then w + 1 else e 12 i := by subst e5 he; exact fun i => rfl
  have p13 : ∀ i, e' 13 i = if i = n then 0 else e 13 i := by subst e5 he; exact fun i => rfl
  have p14 : ∀ i, e' 14 i = if i = n then 0 else e 14 i := by subst e5 he; exact fun i => rfl
  have p0 : ∀ i, e' 0 i = if i = 3 * b + e 1 b then n else e 0 i := by subst hb e5 he; exact fun i => rfl
  have p1 : ∀ i, e' 1 i = if i = b then e 1 b + 1 else e 1 i := by subst hb he; exact fun i => rfl
  have p6 : ∀ i, e' 6 i = if i = w then e 18 4 + 1 else e 6 i := by subst he; exact fun i => rfl
  have pr : e' 2 = e 2 ∧ e' 3 = e 3 ∧ e' 4 = e 4 ∧ e' 5 = e 5 ∧ e' 7 = e 7 := by subst he; exact ⟨rfl, rfl, rfl, rfl, rfl⟩
  have p18 : e' 18 0 = e 18 0 ∧ e' 18 1 = e 18 1 ∧ e' 18 2 = e 18 2 ∧ e' 18 3 = e 18 3 ∧ e' 18 4 = e 18 4 ∧ e' 18 5 = n + 1 ∧ e' 18 6 = e 18 6 := by subst e5 he; exact ⟨rfl, rfl, rfl, rfl, rfl, rfl, rfl⟩
  rw [← hd, ← he]
  clear hd he
  obtain ⟨r0, r1, r4, r5, r16, r17, r18⟩ := qr
  obtain ⟨s1, s2, s3, s4, s5, s6, s7, s8⟩ := q22
  obtain ⟨t2, t3, t4, t5, t7⟩ := pr
  obtain ⟨u0, u1, u2, u3, u4, u5, u6⟩ := p18
  have hcs : ∀ x, cs d' x = cs d x := fun x => by
    unfold cs
    rw [r17]
  have hcm : ∀ x t, cm d' x t = cm d x t := fun x t => by
    unfold cm
    rw [r17, s1]
  rw [← hb] at f1 hb9 hb10
  rw [← hS] at f1 hbq
  rw [hbq] at p0 p1
  have hbw : b = w * 10 + 2 * 4 + l := hb
  have hS3 : S < 3 := by omega
  have old : ∀ p, p < n + 1 → p ≠ n → p < n := fun p h1 h2 => by omega
  refine ⟨⟨⟨s2.trans i1.1.1, s3.trans i1.1.2.1, i1.1.2.2.1, ?_⟩, ?_⟩, ⟨fun i hi => ?_, ?_⟩, fun p hp => ?_, fun x hx => ⟨?_, fun j hj => ?_⟩, fun p hp h0 => ?_, fun p hp h0 h1 => ?_, ⟨?_, fun x hx hx8 => ?_⟩, ⟨?_, fun w' hw' i hi l' hl' h0 => ?_⟩, ?_, ⟨fun i hi => ?_, ?_⟩, fun p hp => ?_, fun x hx => ⟨?_, fun j hj => ?_⟩, fun w' hw' o ho h0 l' hl' => ?_⟩
  · rw [r4, r5]
    exact i1.1.2.2.2
  · rw [s1, s4, s6, s7]
    omega
  · obtain ⟨y1, y2, y3, y4⟩ := i2 i hi
    rw [r0, r18, s1, q19]
    refine ⟨y1, y2, y3, ?_⟩
    split <;> omega
  · rw [r1]
    exact i2'
  · rw [s4] at hp
    rw [q6, q7, q8, q9, q10, q11, q13]
    by_cases h : p = n
    · simp only [if_pos h]
      omega
    · simp only [if_neg h]
      exact i3 p (by omega)
  · rw [q15, s6]
    split
    · omega
    · exact (i4 x hx).1
  · by_cases hxb : x = b
    · subst hxb
      rw [q15, if_pos rfl] at hj
      obtain ⟨z1, z2⟩ := i4 x hb9
      rw [← hS] at z1 z2
      rw [q14, s4]
      by_cases hjS : j = S
      · rw [if_pos (by omega), q10, q11, q8, if_pos rfl, if_pos rfl, if_pos rfl, hb10.1]
        refine ⟨by omega, rfl, hb.symm, fun j' hj' => ?_⟩
        rw [q14, if_neg (by omega)]
        have := (z2 j' (by omega)).1
        omega
      · obtain ⟨z3, z4, z5, z6⟩ := z2 j (by omega)
        have zn : d 14 (3 * x + j) ≠ n := by omega
        rw [if_neg (by omega), q10, q11, q8, if_neg zn, if_neg zn, if_neg zn]
        refine ⟨by omega, z4, z5, fun j' hj' => ?_⟩
        rw [q14, if_neg (by omega)]
        exact z6 j' hj'
    · rw [q15, if_neg hxb] at hj
      obtain ⟨z1, z2⟩ := i4 x hx
      obtain ⟨z3, z4, z5, z6⟩ := z2 j hj
      have zn : d 14 (3 * x + j) ≠ n := by omega
      rw [q14, s4, if_neg (by omega), q10, q11, q8, if_neg zn, if_neg zn, if_neg zn]
      refine ⟨by omega, z4, z5, fun j' hj' => ?_⟩
      rw [q14, if_neg (by omega)]
      exact z6 j' hj'
  · rw [s4] at hp
    have hpb : pb d' p = if p = n then b else pb d p := by
      unfold pb
      rw [q10, q11, q8]
      by_cases h : p = n
      · rw [if_pos h, if_pos h, if_pos h, if_pos h, hb]
        rfl
      · rw [if_neg h, if_neg h, if_neg h, if_neg h]
    rw [hpb]
    by_cases h : p = n
    · rw [if_pos h]
      refine ⟨S, ?_, ?_⟩
      · rw [q15, if_pos rfl]
        omega
      · rw [q14, if_pos rfl, h]
    · rw [if_neg h]
      rw [q10, if_neg h] at h0
      obtain ⟨j, hj1, hj2⟩ := i5 p (by omega) h0
      have hpS : pb d p < 160 ∧ d 15 (pb d p) ≤ d 22 6 := by
        obtain ⟨v1, v2, v3, v4, v5, v6, v7⟩ := i3 p (by omega)
        have : pb d p < 160 := by
          show (d 10 p - 1) * 10 + 2 * d 11 p + d 8 p < 160
          omega
        exact ⟨this, (i4 _ this).1⟩
      refine ⟨j, ?_, ?_⟩
      · rw [q15]
        split
        · rename_i hh
          rw [hh, ← hS] at hj1
          omega
        · exact hj1
      · rw [q14, if_neg, hj2]
        intro hh
        by_cases hh2 : pb d p = b
        · rw [hh2, ← hS] at hj1
          omega
        · omega
  · rw [s4] at hp
    rw [q10] at h0 ⊢
    rw [q11] at h1 ⊢
    by_cases h : p = n
    · rw [if_pos h] at h1
      omega
    · rw [if_neg h] at h0 h1 ⊢
      rw [if_neg h]
      exact i6 p (by omega) h0 h1
  · rw [r16]
    exact i7
  · rw [r16, hcs, q15, s6, if_neg (by omega)]
    exact i7' x hx hx8
  · exact ⟨by rw [s8, r17]; exact i8.1, fun x h1 h2 => (hcs x).trans (i8.2 x h1 h2)⟩
  · rw [r16, hcs, q15, s6, if_neg]
    · exact i8' w' hw' i hi l' hl' h0
    · rw [hbw]
      show ¬ w' * 10 + 2 * i + l' = w * 10 + 2 * 4 + l
      omega
  · exact ⟨by omega, by omega, by omega, by omega, by omega, by omega, by omega⟩
  · obtain ⟨y1, y2, y3⟩ := rb i hi
    rw [t7, t5, r0, r18, q19, p6, a4]
    refine ⟨y1, y2, ?_⟩
    rw [y3]
  · rw [t4, r1]
    exact rb'
  · rw [s4] at hp
    rw [q6, q7, q8, q9, q10, q12, q13, p8, p9, p10, p11, p12, p13, p14]
    by_cases h : p = n
    · simp only [if_pos h]
      exact ⟨trivial, trivial, trivial, trivial, trivial, trivial, trivial⟩
    · simp only [if_neg h]
      exact rp p (by omega)
  · rw [p1, q15]
    rw [(rq x hx).1]
  · rw [q15] at hj
    rw [p0, q14]
    by_cases h : 3 * x + j = 3 * b + S
    · rw [if_pos h, if_pos h]
    · rw [if_neg h, if_neg h]
      obtain ⟨z1, z2⟩ := rq x hx
      by_cases hxb : x = b
      · subst hxb
        rw [if_pos rfl] at hj
        exact z2 j (by omega)
      · rw [if_neg hxb] at hj
        exact z2 j hj
  · obtain ⟨z1, z2⟩ := rl w' hw' o ho h0 l' hl'
    rw [t2, t3, r16, s1]
    exact ⟨z1, fun t h1 h2 => (z2 t h1 h2).trans (hcm _ _).symm⟩
theorem s_send (F t : Nat) {σ τ : CS} (h : JX t σ τ) : l_S_send F JX t σ τ := by
  obtain ⟨c, r, d, e, rfl, rfl, hJ, ht⟩ := h
  intro x1 x2 x3 x4
  have hG := hJ.1.1
  have h16 := Gr16 hG.2.2.1
  have hGM := hJ.grm
  rcases x_sw x1 (n := c * r) (by omega) with hx | ⟨w, hw, rfl⟩
  · refine ⟨(1, 0, E d), 0, EM (dset e 18 7 1), ?_, ?_, Or.inr (Or.inl ⟨rfl, rfl⟩), c, r, d, _, rfl, rfl, hJ.thrown 1, by omega⟩
    · unfold r_X7_send
      rw [n_checkSwitch F hG, if_pos hx]
      rfl
    · unfold r_X8_send r_X8_send_b20
      rw [k_isSwitch F hGM, if_pos hx, x_obS, if_pos (show nI 0 = (0 : Int32) from rfl)]
      exact k_s21 F x1 x2 x3 x4 e (a := 0) (by omega) (Or.inl rfl)
  have hxw := x_swN hw (show c * r ≤ 1000 by omega)
  rcases x_sw x2 (n := c * r) (by omega) with hx | ⟨g, hg, rfl⟩
  · refine ⟨(1, 0, E d), 0, EM (dset e 18 7 1), ?_, ?_, Or.inr (Or.inl ⟨rfl, rfl⟩), c, r, d, _, rfl, rfl, hJ.thrown 1, by omega⟩
    · unfold r_X7_send
      rw [n_checkSwitch F hG, if_neg hxw, x_obxS rfl, n_checkSwitch F hG, if_pos hx]
      rfl
    · unfold r_X8_send r_X8_send_b20
      rw [k_isSwitch F hGM, if_neg hxw, x_obS, if_neg (by decide), k_isSwitch F hGM, if_pos hx, x_obS, if_pos (show nI 0 = (0 : Int32) from rfl)]
      exact k_s21 F _ x2 x3 x4 e (a := 0) (by omega) (Or.inl rfl)
  have hxg := x_swN hg (show c * r ≤ 1000 by omega)
  have hM : r_X8_send F (nI w) (nI g) x3 x4 (EM e) = r_X8_send_b21 F (nI w) (nI g) x3 x4 (nI 1) (EM e) := by
    unfold r_X8_send
    rw [k_isSwitch F hGM, if_neg hxw, x_obS, if_neg (by decide), k_isSwitch F hGM, if_neg hxg, x_obS, if_neg (by decide)]
    rfl
  have two : (w = g ∨ ¬ (x3 = 0 ∨ x3 = 1) ∨ ¬ (x4 = 0 ∨ x4 = 1)) → r_X8_send F (nI w) (nI g) x3 x4 (EM e) = some (0, EM (dset e 18 7 2)) := fun q => by
    rw [hM]
    refine k_s21 F _ _ x3 x4 e (a := 1) (by omega) (Or.inr ?_)
    rcases q with rfl | q
    · exact Or.inl rfl
    · exact Or.inr q
  have hC : r_X7_send F (nI w) (nI g) x3 x4 (E d) = if nI w = nI g then (some ((2 : Nat), (0 : Int32), E d)) else (x_obx (r_X7_checkLane F x3 (E d)) (fun sq8 => if x4 = 0 then (r_X7_send_b50 F (nI w) (nI g) x3 x4 sq8) else (if x4 = (1 : Int32) then (r_X7_send_b50 F (nI w) (nI g) x3 x4 sq8) else (some ((2 : Nat), (0 : Int32), sq8))))) := by
    unfold r_X7_send
    rw [n_checkSwitch F hG, if_neg hxw, x_obxS rfl, n_checkSwitch F hG, if_neg hxg, x_obxS rfl]
  by_cases q1 : w = g
  · refine ⟨(2, 0, E d), 0, EM (dset e 18 7 2), ?_, two (Or.inl q1), Or.inr (Or.inr (Or.inl ⟨rfl, rfl⟩)), c, r, d, _, rfl, rfl, hJ.thrown 2, by omega⟩
    rw [hC, if_pos (by rw [q1])]
  have q1' : ¬ nI w = nI g := by rw [x_eq (by omega) (by omega)]; exact q1
  by_cases q3 : ¬ (x3 = 0 ∨ x3 = 1)
  · refine ⟨(2, 0, E d), 0, EM (dset e 18 7 2), ?_, two (Or.inr (Or.inl q3)), Or.inr (Or.inr (Or.inl ⟨rfl, rfl⟩)), c, r, d, _, rfl, rfl, hJ.thrown 2, by omega⟩
    rw [hC, if_neg q1', n_checkLane, if_neg q3]
    rfl
  have q3 := Classical.not_not.mp q3
  by_cases q4 : ¬ (x4 = 0 ∨ x4 = 1)
  · refine ⟨(2, 0, E d), 0, EM (dset e 18 7 2), ?_, two (Or.inr (Or.inr q4)), Or.inr (Or.inr (Or.inl ⟨rfl, rfl⟩)), c, r, d, _, rfl, rfl, hJ.thrown 2, by omega⟩
    rw [hC, if_neg q1', n_checkLane, if_pos q3, x_obxS rfl, if_neg (fun z => q4 (Or.inl z)), if_neg (fun z => q4 (Or.inr z))]
  have q4 := Classical.not_not.mp q4
  obtain ⟨l, hl, rfl⟩ : ∃ l : Nat, l < 2 ∧ x3 = nI l := by
    rcases q3 with rfl | rfl
    · exact ⟨0, by omega, rfl⟩
    · exact ⟨1, by omega, rfl⟩
  obtain ⟨m, hm, rfl⟩ : ∃ m : Nat, m < 2 ∧ x4 = nI m := by
    rcases q4 with rfl | rfl
    · exact ⟨0, by omega, rfl⟩
    · exact ⟨1, by omega, rfl⟩
  have hM2 : r_X8_send F (nI w) (nI g) (nI l) (nI m) (EM e) = r_X8_send_b52 F (nI w) (nI g) (nI l) (nI m) (nI 1) (nI 1) (EM e) := by
    rw [hM]
    unfold r_X8_send_b21
    rw [if_neg q1', x_l0, x_l1, k_ln1 F _ q3, x_obS, if_neg (by decide), k_ln1 F _ q4, x_obS, if_neg (by decide)]
  have hC2 : r_X7_send F (nI w) (nI g) (nI l) (nI m) (E d) = r_X7_send_b50 F (nI w) (nI g) (nI l) (nI m) (E d) := by
    rw [hC, if_neg q1', n_checkLane, if_pos q3, x_obxS rfl]
    by_cases z : nI m = 0
    · rw [if_pos z]
    · rw [if_neg z, if_pos (q4.resolve_left z)]
  have hb9 : bf w 4 l < 160 := by
    show w * 10 + 2 * 4 + l < 160
    omega
  obtain ⟨j6, j6', j7, j1, j80⟩ := hJ.1.2
  have j4 := (hJ.2.2.2.1 _ hb9).1
  obtain ⟨u1, u2, u3, u4⟩ := hJ.2.1.1 w (by omega)
  have fin : (fit d w l → r_X7_send_b50 F (nI w) (nI g) (nI l) (nI m) (E d) = some (0, nI (d 22 4), E (sntC d w g l m))) ∧ (¬ fit d w l → r_X7_send_b50 F (nI w) (nI g) (nI l) (nI m) (E d) = some (3, 0, E d)) := by
    unfold r_X7_send_b50
    rw [x_l4, n_bufferOf, x_obS, n_isFull F hb9 (by omega) (by omega), x_obS]
    by_cases f1 : d 15 (bf w 4 l) < d 22 6
    · rw [if_pos f1, if_pos (show nI 0 = (0 : Int32) from rfl), E_22, n_isReady F (by omega) j1 u4 u3, x_obS]
      by_cases f2 : d 19 w = 0 ∨ d 18 w ≤ d 22 1 + 1 - d 19 w
      · rw [if_pos f2, if_neg (by decide), E_22]
        by_cases f3 : d 22 4 < 80
        · rw [if_pos (by rw [x_l80, x_lt (by omega) (by omega)]; exact f3), n_addP F _ _ _ _ f3, x_obS, n_append F _ hb9 (by exact f1) (by exact j6'), x_obS]
          refine ⟨fun _ => ?_, fun z => absurd ⟨f1, f2, f3⟩ z⟩
          unfold r_X6_note
          rw [E_22, n_put_19n F _ _ (by omega)]
          rfl
        · rw [if_neg (by rw [x_l80, x_lt (by omega) (by omega)]; exact f3)]
          exact ⟨fun z => absurd z.2.2 f3, fun _ => rfl⟩
      · rw [if_neg f2, if_pos (show nI 0 = (0 : Int32) from rfl)]
        exact ⟨fun z => absurd z.2.1 f2, fun _ => rfl⟩
    · rw [if_neg f1, if_neg (by decide)]
      exact ⟨fun z => absurd z.1 f1, fun _ => rfl⟩
  by_cases hf : fit d w l
  · refine ⟨(0, nI (d 22 4), E (sntC d w g l m)), nI (d 22 4), EM (sntM (dset e 18 7 0) w g l m), ?_, ?_, Or.inl ⟨rfl, rfl, rfl⟩, c, r, _, _, rfl, rfl, (hJ.thrown 0).sent hw hg hl hm hf, (show d 22 1 ≤ 50 * (t + 1) by omega)⟩
    · rw [hC2]
      exact fin.1 hf
    · rw [hM2]
      exact k_s52S F hJ hw hl hf
  · refine ⟨(3, 0, E d), 0, EM (dset e 18 7 3), ?_, ?_, Or.inr (Or.inr (Or.inr ⟨rfl, rfl⟩)), c, r, d, _, rfl, rfl, hJ.thrown 3, by omega⟩
    · rw [hC2]
      exact fin.2 hf
    · rw [hM2]
      exact k_s52F F hJ hw hl hf
