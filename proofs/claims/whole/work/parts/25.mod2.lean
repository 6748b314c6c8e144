theorem k_isWithin (F a b : Nat) (x : Int32) (s : CS) : r_X8_isWithin F x (nI a) (nI b) s = some (nI (if nI a ≤ x ∧ x ≤ nI b then 1 else 0), s) := by
  unfold r_X8_isWithin r_X8_isWithin_b14 r_X8_isWithin_b15
  by_cases h : x < nI a
  · have h1 : ¬ nI a ≤ x := Int32.not_le.mpr h
    simp only [if_pos h, h1, false_and, if_false]
    rfl
  · have h1 : nI a ≤ x := Int32.not_lt.mp h
    by_cases h2 : nI b < x
    · have h3 : ¬ x ≤ nI b := Int32.not_le.mpr h2
      simp only [if_neg h, if_pos h2, h3, and_false, if_false]
      rfl
    · have h3 : x ≤ nI b := Int32.not_lt.mp h2
      simp only [if_neg h, if_neg h2, h1, h3, and_self, if_true]
      rfl
def thr (a b c : Nat) : Nat := if a = 0 then 1 else if b = 0 then 2 else if c = 0 then 3 else 0
theorem k_goes (F : Nat) (e : DS) {a b c : Nat} (ha : a < 2) (hb : b < 2) (hc : c < 2) : r_X8_goes F (nI a) (nI b) (nI c) (EM e) = some (nI (if thr a b c = 0 then 1 else 0), EM (dset e 18 7 (thr a b c))) := by
  unfold r_X8_goes r_X8_goes_b26 r_X8_goes_b41 thr
  rcases (show a = 0 ∨ a = 1 by omega) with rfl | rfl <;> rcases (show b = 0 ∨ b = 1 by omega) with rfl | rfl <;> rcases (show c = 0 ∨ c = 1 by omega) with rfl | rfl <;>
    simp (disch := omega) only [x_obS, x_oiS, x_osS, x_og1, x_inT, x_nzT, x_boT, x_lt, x_le, x_eq, x_cl, nI_add, pk_mul, x_at, x_st, x_lm1, x_meq, x_nm, x_mneq, x_m0, x_mge, x_sub1, x_subN, if_pos, if_neg, if_true, if_false, x_l0, x_l1, x_l2, x_l3, x_l4, x_l5, x_l8, x_l10, x_l16, x_l50, x_l80, x_l128, x_l160, x_l640, x_l25600, EM_0, EM_1, EM_2, EM_3, EM_4, EM_5, EM_6, EM_7, EM_8, EM_9, EM_10, EM_11, EM_12, EM_13, EM_14, EM_15, EM_16, EM_17, EM_18, EMs_0, EMs_1, EMs_2, EMs_3, EMs_4, EMs_5, EMs_7, EMs_8, EMs_9, EMs_10, EMs_11, EMs_13, EMs_14, EMs_16, EMs_17, EMs_18, EMs_6, EMs_12, EMs_15, EMs_6n, EMs_12n, EMs_15n, x_zn, dset_s]
def ptM (e : DS) (b p : Nat) : DS := dset (dset e 0 (3 * b + e 1 b) p) 1 b (e 1 b + 1)
theorem k_puts (F : Nat) {e : DS} {b : Nat} (p : Nat) (hb : b < 160) (hs : e 1 b < 3) : r_X8_puts F (nI b) (nI p) (EM e) = some (0, EM (ptM e b p)) := by
  unfold r_X8_puts ptM
  simp (disch := omega) only [x_obS, x_oiS, x_osS, x_og1, x_inT, x_nzT, x_boT, x_lt, x_le, x_eq, x_cl, nI_add, pk_mul, x_at, x_st, x_lm1, x_meq, x_nm, x_mneq, x_m0, x_mge, x_sub1, x_subN, if_pos, if_neg, if_true, if_false, x_l0, x_l1, x_l2, x_l3, x_l4, x_l5, x_l8, x_l10, x_l16, x_l50, x_l80, x_l128, x_l160, x_l640, x_l25600, EM_0, EM_1, EM_2, EM_3, EM_4, EM_5, EM_6, EM_7, EM_8, EM_9, EM_10, EM_11, EM_12, EM_13, EM_14, EM_15, EM_16, EM_17, EM_18, EMs_0, EMs_1, EMs_2, EMs_3, EMs_4, EMs_5, EMs_7, EMs_8, EMs_9, EMs_10, EMs_11, EMs_13, EMs_14, EMs_16, EMs_17, EMs_18, EMs_6, EMs_12, EMs_15, EMs_6n, EMs_12n, EMs_15n, x_zn, dset_n]
def tkM (e : DS) (b : Nat) : DS := shR (dset e 1 b (e 1 b - 1)) 0 (3 * b) (e 1 b - 1)
theorem k_tkL (F : Nat) {b : Nat} (hb : b < 160) (v : Int32) : ∀ (m n i : Nat) (e : DS), e 1 b = i + m → i + m ≤ 2 → m + 1 ≤ n → r_X8_takes_b21 F n (nI b) v (nI i) (EM e) = some (v, EM (shR e 0 (3 * b + i) m)) := by
  intro m
  induction m with
  | zero =>
    intro n i e h2 h3 hn
    obtain ⟨n, rfl⟩ : ∃ k, n = k + 1 := ⟨n - 1, by omega⟩
    rw [r_X8_takes_b21_s, shR_0]
    simp (disch := omega) only [x_obS, x_oiS, x_osS, x_og1, x_inT, x_nzT, x_boT, x_lt, x_le, x_eq, x_cl, nI_add, pk_mul, x_at, x_st, x_lm1, x_meq, x_nm, x_mneq, x_m0, x_mge, x_sub1, x_subN, if_pos, if_neg, if_true, if_false, x_l0, x_l1, x_l2, x_l3, x_l4, x_l5, x_l8, x_l10, x_l16, x_l50, x_l80, x_l128, x_l160, x_l640, x_l25600, EM_0, EM_1, EM_2, EM_3, EM_4, EM_5, EM_6, EM_7, EM_8, EM_9, EM_10, EM_11, EM_12, EM_13, EM_14, EM_15, EM_16, EM_17, EM_18, EMs_0, EMs_1, EMs_2, EMs_3, EMs_4, EMs_5, EMs_7, EMs_8, EMs_9, EMs_10, EMs_11, EMs_13, EMs_14, EMs_16, EMs_17, EMs_18, EMs_6, EMs_12, EMs_15, EMs_6n, EMs_12n, EMs_15n, x_zn]
  | succ m ih =>
    intro n i e h2 h3 hn
    obtain ⟨n, rfl⟩ : ∃ k, n = k + 1 := ⟨n - 1, by omega⟩
    rw [r_X8_takes_b21_s]
    simp (disch := omega) only [x_obS, x_oiS, x_osS, x_og1, x_inT, x_nzT, x_boT, x_lt, x_le, x_eq, x_cl, nI_add, pk_mul, x_at, x_st, x_lm1, x_meq, x_nm, x_mneq, x_m0, x_mge, x_sub1, x_subN, if_pos, if_neg, if_true, if_false, x_l0, x_l1, x_l2, x_l3, x_l4, x_l5, x_l8, x_l10, x_l16, x_l50, x_l80, x_l128, x_l160, x_l640, x_l25600, EM_0, EM_1, EM_2, EM_3, EM_4, EM_5, EM_6, EM_7, EM_8, EM_9, EM_10, EM_11, EM_12, EM_13, EM_14, EM_15, EM_16, EM_17, EM_18, EMs_0, EMs_1, EMs_2, EMs_3, EMs_4, EMs_5, EMs_7, EMs_8, EMs_9, EMs_10, EMs_11, EMs_13, EMs_14, EMs_16, EMs_17, EMs_18, EMs_6, EMs_12, EMs_15, EMs_6n, EMs_12n, EMs_15n, x_zn]
    rw [ih _ _ _ (by rw [dset_n _ _ _ _ (by decide)]; omega) (by omega) (by omega)]
    rw [show 3 * b + (i + 1) = 3 * b + i + 1 by omega, shR_s]
theorem k_takes (F : Nat) {e : DS} {b : Nat} (hF : 1000 ≤ F) (hb : b < 160) (h1 : 1 ≤ e 1 b) (h3 : e 1 b ≤ 3) : r_X8_takes F (nI b) (EM e) = some (nI (e 0 (3 * b)), EM (tkM e b)) := by
  unfold r_X8_takes tkM
  simp (disch := omega) only [x_obS, x_oiS, x_osS, x_og1, x_inT, x_nzT, x_boT, x_lt, x_le, x_eq, x_cl, nI_add, pk_mul, x_at, x_st, x_lm1, x_meq, x_nm, x_mneq, x_m0, x_mge, x_sub1, x_subN, if_pos, if_neg, if_true, if_false, x_l0, x_l1, x_l2, x_l3, x_l4, x_l5, x_l8, x_l10, x_l16, x_l50, x_l80, x_l128, x_l160, x_l640, x_l25600, EM_0, EM_1, EM_2, EM_3, EM_4, EM_5, EM_6, EM_7, EM_8, EM_9, EM_10, EM_11, EM_12, EM_13, EM_14, EM_15, EM_16, EM_17, EM_18, EMs_0, EMs_1, EMs_2, EMs_3, EMs_4, EMs_5, EMs_7, EMs_8, EMs_9, EMs_10, EMs_11, EMs_13, EMs_14, EMs_16, EMs_17, EMs_18, EMs_6, EMs_12, EMs_15, EMs_6n, EMs_12n, EMs_15n, x_zn]
  rw [k_tkL F hb _ (e 1 b - 1) F 0 _ (by rw [dset_s]; omega) (by omega) (by omega)]
  rfl
theorem k_inSwitch (F : Nat) {e : DS} {w : Nat} (hF : 1000 ≤ F) (hw : w < 16) (hs : ∀ b, b < 160 → e 1 b ≤ 3) : r_X8_inSwitch F (nI w) (EM e) = some (nI (sumN (fun j => e 1 (w * 10 + j)) 10), EM e) := by
  have key : ∀ (m n i a : Nat), i + m = 10 → m + 1 ≤ n → a ≤ 3 * i → a = sumN (fun j => e 1 (w * 10 + j)) i → r_X8_inSwitch_b4 F n (nI w) (nI a) (nI i) (EM e) = some (nI (sumN (fun j => e 1 (w * 10 + j)) 10), EM e) := by
    intro m
    induction m with
    | zero =>
      intro n i a h1 h2 h3 h4
      obtain ⟨n, rfl⟩ : ∃ k, n = k + 1 := ⟨n - 1, by omega⟩
      obtain rfl : i = 10 := by omega
      rw [r_X8_inSwitch_b4_s, h4]
      simp (disch := omega) only [x_obS, x_oiS, x_osS, x_og1, x_inT, x_nzT, x_boT, x_lt, x_le, x_eq, x_cl, nI_add, pk_mul, x_at, x_st, x_lm1, x_meq, x_nm, x_mneq, x_m0, x_mge, x_sub1, x_subN, if_pos, if_neg, if_true, if_false, x_l0, x_l1, x_l2, x_l3, x_l4, x_l5, x_l8, x_l10, x_l16, x_l50, x_l80, x_l128, x_l160, x_l640, x_l25600, EM_0, EM_1, EM_2, EM_3, EM_4, EM_5, EM_6, EM_7, EM_8, EM_9, EM_10, EM_11, EM_12, EM_13, EM_14, EM_15, EM_16, EM_17, EM_18, EMs_0, EMs_1, EMs_2, EMs_3, EMs_4, EMs_5, EMs_7, EMs_8, EMs_9, EMs_10, EMs_11, EMs_13, EMs_14, EMs_16, EMs_17, EMs_18, EMs_6, EMs_12, EMs_15, EMs_6n, EMs_12n, EMs_15n, x_zn]
    | succ m ih =>
      intro n i a h1 h2 h3 h4
      obtain ⟨n, rfl⟩ : ∃ k, n = k + 1 := ⟨n - 1, by omega⟩
      have h5 := hs (w * 10 + i) (by omega)
      rw [r_X8_inSwitch_b4_s]
      simp (disch := omega) only [x_obS, x_oiS, x_osS, x_og1, x_inT, x_nzT, x_boT, x_lt, x_le, x_eq, x_cl, nI_add, pk_mul, x_at, x_st, x_lm1, x_meq, x_nm, x_mneq, x_m0, x_mge, x_sub1, x_subN, if_pos, if_neg, if_true, if_false, x_l0, x_l1, x_l2, x_l3, x_l4, x_l5, x_l8, x_l10, x_l16, x_l50, x_l80, x_l128, x_l160, x_l640, x_l25600, EM_0, EM_1, EM_2, EM_3, EM_4, EM_5, EM_6, EM_7, EM_8, EM_9, EM_10, EM_11, EM_12, EM_13, EM_14, EM_15, EM_16, EM_17, EM_18, EMs_0, EMs_1, EMs_2, EMs_3, EMs_4, EMs_5, EMs_7, EMs_8, EMs_9, EMs_10, EMs_11, EMs_13, EMs_14, EMs_16, EMs_17, EMs_18, EMs_6, EMs_12, EMs_15, EMs_6n, EMs_12n, EMs_15n, x_zn]
      exact ih n (i + 1) _ (by omega) (by omega) (by omega) (by rw [h4]; rfl)
  unfold r_X8_inSwitch
  simp (disch := omega) only [x_obS, x_oiS, x_osS, x_og1, x_inT, x_nzT, x_boT, x_lt, x_le, x_eq, x_cl, nI_add, pk_mul, x_at, x_st, x_lm1, x_meq, x_nm, x_mneq, x_m0, x_mge, x_sub1, x_subN, if_pos, if_neg, if_true, if_false, x_l0, x_l1, x_l2, x_l3, x_l4, x_l5, x_l8, x_l10, x_l16, x_l50, x_l80, x_l128, x_l160, x_l640, x_l25600, EM_0, EM_1, EM_2, EM_3, EM_4, EM_5, EM_6, EM_7, EM_8, EM_9, EM_10, EM_11, EM_12, EM_13, EM_14, EM_15, EM_16, EM_17, EM_18, EMs_0, EMs_1, EMs_2, EMs_3, EMs_4, EMs_5, EMs_7, EMs_8, EMs_9, EMs_10, EMs_11, EMs_13, EMs_14, EMs_16, EMs_17, EMs_18, EMs_6, EMs_12, EMs_15, EMs_6n, EMs_12n, EMs_15n, x_zn]
  exact key 10 F 0 0 rfl (by omega) (by omega) rfl
def cgM (c r : Nat) (e : DS) (w o l : Nat) : Nat := if o = 4 then 1 else if 0 < e 2 (lk w o l) ∧ e 7 (nb c r w o - 1) = 0 then 1 else 0
theorem k_canGo (F : Nat) {e : DS} {c r w o l : Nat} (hG : GrM e c r) (hw : w < c * r) (ho : o < 5) (hl : l < 2) (hp : ∀ i, i < 16 → e 7 i < 2) (hc : e 2 (lk w o l) < 1000) (hn : o < 4 → ¬ nb c r w o = 0) : r_X8_canGo F (nI w) (nI o) (nI l) (EM e) = some (nI (cgM c r e w o l), EM e) := by
  have h16 := Gr16 hG.2.2
  have h1 := nb_lt (dir := o) hG.2.2 hw
  unfold r_X8_canGo r_X8_canGo_b33 r_X8_canGo_b37 r_X8_canGo_b38 cgM
  by_cases h4 : o = 4
  · simp (disch := omega) only [x_obS, x_oiS, x_osS, x_og1, x_inT, x_nzT, x_boT, x_lt, x_le, x_eq, x_cl, nI_add, pk_mul, x_at, x_st, x_lm1, x_meq, x_nm, x_mneq, x_m0, x_mge, x_sub1, x_subN, if_pos, if_neg, if_true, if_false, x_l0, x_l1, x_l2, x_l3, x_l4, x_l5, x_l8, x_l10, x_l16, x_l50, x_l80, x_l128, x_l160, x_l640, x_l25600, EM_0, EM_1, EM_2, EM_3, EM_4, EM_5, EM_6, EM_7, EM_8, EM_9, EM_10, EM_11, EM_12, EM_13, EM_14, EM_15, EM_16, EM_17, EM_18, EMs_0, EMs_1, EMs_2, EMs_3, EMs_4, EMs_5, EMs_7, EMs_8, EMs_9, EMs_10, EMs_11, EMs_13, EMs_14, EMs_16, EMs_17, EMs_18, EMs_6, EMs_12, EMs_15, EMs_6n, EMs_12n, EMs_15n, x_zn, h4]
  · have h0 := hn (by omega)
    have hb9 : lk w o l < 128 := by
      show w * 8 + 2 * o + l < 128
      omega
    have hp2 := hp (nb c r w o - 1) (by omega)
    by_cases h6 : 0 < e 2 (lk w o l)
    · by_cases h5 : e 7 (nb c r w o - 1) = 0
      · simp (disch := omega) only [x_obS, x_oiS, x_osS, x_og1, x_inT, x_nzT, x_boT, x_lt, x_le, x_eq, x_cl, nI_add, pk_mul, x_at, x_st, x_lm1, x_meq, x_nm, x_mneq, x_m0, x_mge, x_sub1, x_subN, if_pos, if_neg, if_true, if_false, x_l0, x_l1, x_l2, x_l3, x_l4, x_l5, x_l8, x_l10, x_l16, x_l50, x_l80, x_l128, x_l160, x_l640, x_l25600, EM_0, EM_1, EM_2, EM_3, EM_4, EM_5, EM_6, EM_7, EM_8, EM_9, EM_10, EM_11, EM_12, EM_13, EM_14, EM_15, EM_16, EM_17, EM_18, EMs_0, EMs_1, EMs_2, EMs_3, EMs_4, EMs_5, EMs_7, EMs_8, EMs_9, EMs_10, EMs_11, EMs_13, EMs_14, EMs_16, EMs_17, EMs_18, EMs_6, EMs_12, EMs_15, EMs_6n, EMs_12n, EMs_15n, x_zn, k_linkOf, k_neighbour F o hG hw (by omega), mI_p h0]
      · simp (disch := omega) only [x_obS, x_oiS, x_osS, x_og1, x_inT, x_nzT, x_boT, x_lt, x_le, x_eq, x_cl, nI_add, pk_mul, x_at, x_st, x_lm1, x_meq, x_nm, x_mneq, x_m0, x_mge, x_sub1, x_subN, if_pos, if_neg, if_true, if_false, x_l0, x_l1, x_l2, x_l3, x_l4, x_l5, x_l8, x_l10, x_l16, x_l50, x_l80, x_l128, x_l160, x_l640, x_l25600, EM_0, EM_1, EM_2, EM_3, EM_4, EM_5, EM_6, EM_7, EM_8, EM_9, EM_10, EM_11, EM_12, EM_13, EM_14, EM_15, EM_16, EM_17, EM_18, EMs_0, EMs_1, EMs_2, EMs_3, EMs_4, EMs_5, EMs_7, EMs_8, EMs_9, EMs_10, EMs_11, EMs_13, EMs_14, EMs_16, EMs_17, EMs_18, EMs_6, EMs_12, EMs_15, EMs_6n, EMs_12n, EMs_15n, x_zn, k_linkOf, k_neighbour F o hG hw (by omega), mI_p h0]
    · simp (disch := omega) only [x_obS, x_oiS, x_osS, x_og1, x_inT, x_nzT, x_boT, x_lt, x_le, x_eq, x_cl, nI_add, pk_mul, x_at, x_st, x_lm1, x_meq, x_nm, x_mneq, x_m0, x_mge, x_sub1, x_subN, if_pos, if_neg, if_true, if_false, x_l0, x_l1, x_l2, x_l3, x_l4, x_l5, x_l8, x_l10, x_l16, x_l50, x_l80, x_l128, x_l160, x_l640, x_l25600, EM_0, EM_1, EM_2, EM_3, EM_4, EM_5, EM_6, EM_7, EM_8, EM_9, EM_10, EM_11, EM_12, EM_13, EM_14, EM_15, EM_16, EM_17, EM_18, EMs_0, EMs_1, EMs_2, EMs_3, EMs_4, EMs_5, EMs_7, EMs_8, EMs_9, EMs_10, EMs_11, EMs_13, EMs_14, EMs_16, EMs_17, EMs_18, EMs_6, EMs_12, EMs_15, EMs_6n, EMs_12n, EMs_15n, x_zn, k_linkOf]
