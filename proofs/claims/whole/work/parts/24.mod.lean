/-! the small methods of the reference, over naturals -/
abbrev lk (w i l : Nat) : Nat := w * 8 + 2 * i + l
def GrM (e : DS) (c r : Nat) : Prop := e 18 0 = c ∧ e 18 1 = r ∧ GrN c r
theorem k_bufferOf (F w i l : Nat) (s : CS) : r_X8_bufferOf F (nI w) (nI i) (nI l) s = some (nI (bf w i l), s) := by
  unfold r_X8_bufferOf
  simp (disch := omega) only [x_obS, x_oiS, x_osS, x_og1, x_inT, x_nzT, x_boT, x_lt, x_le, x_eq, x_cl, nI_add, pk_mul, x_at, x_st, x_lm1, x_meq, x_nm, x_mneq, x_m0, x_mge, x_sub1, x_subN, if_pos, if_neg, if_true, if_false, x_l0, x_l1, x_l2, x_l3, x_l4, x_l5, x_l8, x_l10, x_l16, x_l50, x_l80, x_l128, x_l160, x_l640, x_l25600]
  rw [show (w * 5 + i) * 2 + l = bf w i l by show _ = w * 10 + 2 * i + l; omega]
theorem k_linkOf (F w i l : Nat) (s : CS) : r_X8_linkOf F (nI w) (nI i) (nI l) s = some (nI (lk w i l), s) := by
  unfold r_X8_linkOf
  simp (disch := omega) only [x_obS, x_oiS, x_osS, x_og1, x_inT, x_nzT, x_boT, x_lt, x_le, x_eq, x_cl, nI_add, pk_mul, x_at, x_st, x_lm1, x_meq, x_nm, x_mneq, x_m0, x_mge, x_sub1, x_subN, if_pos, if_neg, if_true, if_false, x_l0, x_l1, x_l2, x_l3, x_l4, x_l5, x_l8, x_l10, x_l16, x_l50, x_l80, x_l128, x_l160, x_l640, x_l25600]
  rw [show (w * 4 + i) * 2 + l = lk w i l by show _ = w * 8 + 2 * i + l; omega]
theorem k_b51 (F : Nat) (x3 t0 t1 : Int32) (s : CS) : r_X8_neighbour_b51 F x3 t0 t1 s = some (if x3 < 0 ∨ s 18 0 ≤ x3 ∨ t1 + t0 < 0 ∨ s 18 1 ≤ t1 + t0 then -1 else (t1 + t0) * s 18 0 + x3, s) := by
  unfold r_X8_neighbour_b51 r_X8_neighbour_b84 r_X8_neighbour_b85 r_X8_neighbour_b105 x_oi
  by_cases h1 : x3 < 0
  · simp only [h1, true_or, if_true]
  · by_cases h2 : s 18 0 ≤ x3
    · simp only [h1, h2, true_or, or_true, if_true, if_false]
    · by_cases h3 : t1 + t0 < 0
      · simp only [h1, h2, h3, true_or, or_true, if_true, if_false]
      · by_cases h4 : s 18 1 ≤ t1 + t0
        · simp only [h1, h2, h3, h4, or_true, if_true, if_false]
        · simp only [h1, h2, h3, h4, or_self, if_false]
          rw [if_neg (by decide)]
theorem k_nbr (F : Nat) {e : DS} {c r w : Nat} {x3 t0 : Int32} {a b : Nat} (hG : GrM e c r) (ha : x3 = mI a) (hac : a ≤ c + 1) (hb : nI (w / c) + t0 = mI b) (hbr : b ≤ r + 1) : r_X8_neighbour_b51 F x3 t0 (nI (w / c)) (EM e) = some (mI (if a = 0 ∨ c < a ∨ b = 0 ∨ r < b then 0 else (b - 1) * c + (a - 1) + 1), EM e) := by
  obtain ⟨h2, h3, hN⟩ := hG
  obtain ⟨hc1, hc2, hr1, hr2⟩ := hN
  rw [k_b51, hb, ha, EM_18, EM_18, h2, h3, x_l0]
  have e1 : (mI a < nI 0) = (a = 0) := x_m0 (by omega)
  have e2 : (mI b < nI 0) = (b = 0) := x_m0 (by omega)
  have e3 : ∀ k z, k < 100 → z < 100 → (nI k ≤ mI z) = (k < z) := fun k z hk hz => by
    rw [Int32.le_iff_toInt_le, mI_toInt (by omega), x_toInt (by omega)]
    apply propext
    omega
  simp only [e1, e2, e3 c a (by omega) (by omega), e3 r b (by omega) (by omega)]
  by_cases h : a = 0 ∨ c < a ∨ b = 0 ∨ r < b
  · simp only [if_pos h]
    rfl
  · simp only [if_neg h]
    rw [mI_p (by omega), mI_p (by omega), pk_mul, nI_add]
    rfl
theorem k_neighbour (F : Nat) {e : DS} {c r w : Nat} (dir : Nat) (hG : GrM e c r) (hw : w < c * r) (hd : dir < 4) : r_X8_neighbour F (nI w) (nI dir) (EM e) = some (mI (nb c r w dir), EM e) := by
  have hG2 := hG
  obtain ⟨h2, h3, hN⟩ := hG
  obtain ⟨m1, m2⟩ := Grm hN hw
  have h16 := Gr16 hN
  obtain ⟨hc1, hc2, hr1, hr2⟩ := hN
  have hdm := Nat.div_add_mod w c
  have e0 : EM e 18 0 = nI c := by rw [EM_18, h2]
  have z0 : x_nz (EM e 18 0) = true := by rw [e0]; exact x_nzT (by omega) (by omega)
  have er : x_rem (nI w) (EM e 18 0) = nI (w % c) := by rw [e0]; exact x_remN (by omega) (by omega) (by omega)
  have ed : nI w / EM e 18 0 = nI (w / c) := by rw [e0]; exact x_divN (by omega) (by omega) (by omega)
  have t0 : w / c * c = c * (w / c) := Nat.mul_comm _ _
  unfold r_X8_neighbour r_X8_neighbour_b24
  rw [x_ogT z0, er, ed]
  rcases (show dir = 0 ∨ dir = 1 ∨ dir = 2 ∨ dir = 3 by omega) with rfl | rfl | rfl | rfl
  · rw [if_pos (by decide), x_oiS, x_ogT z0, if_neg (by decide), if_neg (by decide), k_nbr F hG2 (a := w % c + 2) (b := w / c + 1) (by rw [x_l1, nI_add]; rfl) (by omega) (by rw [x_l0, nI_add]; rfl) (by omega)]
    have p1 : (w / c + 1 - 1) * c = c * (w / c) := by rw [Nat.add_sub_cancel]; exact t0
    refine congrArg (fun z => some (mI z, EM e)) ?_
    show _ = (if w % c + 1 < c then w + 2 else 0)
    rw [p1]
    generalize w / c = y at *
    generalize w % c = x at *
    split <;> (try split) <;> omega
  · rw [if_neg (by decide), if_neg (by decide), x_oiS, x_ogT z0, if_pos (by decide), k_nbr F hG2 (a := w % c + 1) (b := w / c + 2) (by rw [x_l0, nI_add]; rfl) (by omega) (by rw [x_l1, nI_add]; rfl) (by omega)]
    have p1 : (w / c + 2 - 1) * c = c * (w / c) + c := by rw [show w / c + 2 - 1 = w / c + 1 from rfl, Nat.add_mul, t0, Nat.one_mul]
    refine congrArg (fun z => some (mI z, EM e)) ?_
    show _ = (if w / c + 1 < r then w + c + 1 else 0)
    rw [p1]
    generalize w / c = y at *
    generalize w % c = x at *
    split <;> (try split) <;> omega
  · rw [if_neg (by decide), if_pos (by decide), x_oiS, x_ogT z0, if_neg (by decide), if_neg (by decide), k_nbr F hG2 (a := w % c) (b := w / c + 1) (by
      rcases Nat.eq_zero_or_pos (w % c) with q | q
      · rw [q]; rfl
      · rw [show (-1 : Int32) = mI 0 from rfl, x_sub1 q, mI_p (by omega)]) (by omega) (by rw [x_l0, nI_add]; rfl) (by omega)]
    have p1 : (w / c + 1 - 1) * c = c * (w / c) := by rw [Nat.add_sub_cancel]; exact t0
    refine congrArg (fun z => some (mI z, EM e)) ?_
    show _ = (if 0 < w % c then w else 0)
    rw [p1]
    generalize w / c = y at *
    generalize w % c = x at *
    split <;> (try split) <;> omega
  · rw [if_neg (by decide), if_neg (by decide), x_oiS, x_ogT z0, if_neg (by decide), if_pos (by decide), k_nbr F hG2 (a := w % c + 1) (b := w / c) (by rw [x_l0, nI_add]; rfl) (by omega) (by
      rcases Nat.eq_zero_or_pos (w / c) with q | q
      · rw [q]; rfl
      · rw [show (-1 : Int32) = mI 0 from rfl, x_sub1 q, mI_p (by omega)]) (by omega)]
    have p2 : 0 < w / c → (w / c - 1) * c + c = c * (w / c) := fun h => by
      rw [← t0]
      obtain ⟨z, hz⟩ : ∃ z, w / c = z + 1 := ⟨w / c - 1, (Nat.succ_pred_eq_of_pos h).symm⟩
      rw [hz, Nat.add_sub_cancel, Nat.add_mul, Nat.one_mul]
    refine congrArg (fun z => some (mI z, EM e)) ?_
    show _ = (if 0 < w / c then w - c + 1 else 0)
    by_cases h : 0 < w / c
    · have p3 := p2 h
      generalize w / c = y at *
      generalize w % c = x at *
      split <;> (try split) <;> omega
    · generalize w / c = y at *
      generalize w % c = x at *
      split <;> (try split) <;> omega
theorem k_wanted (F : Nat) {e : DS} {c r w p : Nat} (hG : GrM e c r) (hw : w < c * r) (hp : p < 80) (hg : e 8 p < c * r) (hm : e 11 p < 2) : r_X8_wanted F (nI p) (nI w) (EM e) = some (nI (wt c w (e 8 p) (e 11 p)), EM e) := by
  obtain ⟨h2, h3, hN⟩ := hG
  obtain ⟨m1, m2⟩ := Grm hN hw
  obtain ⟨n1, n2⟩ := Grm hN hg
  have h16 := Gr16 hN
  obtain ⟨hc1, hc2, hr1, hr2⟩ := hN
  obtain ⟨y, hy⟩ : ∃ y, y = w / c := ⟨_, rfl⟩
  obtain ⟨x, hx⟩ : ∃ x, x = w % c := ⟨_, rfl⟩
  obtain ⟨y', hy'⟩ : ∃ y, y = e 8 p / c := ⟨_, rfl⟩
  obtain ⟨x', hx'⟩ : ∃ x, x = e 8 p % c := ⟨_, rfl⟩
  unfold r_X8_wanted r_X8_wanted_b56 r_X8_wanted_b77 r_X8_wanted_b95 r_X8_wanted_b113 r_X8_wanted_b136 wt
  rw [← hx, ← hy, ← hx', ← hy']
  rw [← hx] at m1
  rw [← hx'] at n1
  rw [← hy] at m2
  rw [← hy'] at n2
  by_cases hm0 : e 11 p = 0 <;> rcases (show x = x' ∨ x < x' ∨ x' < x by omega) with h | h | h <;> rcases (show y = y' ∨ y < y' ∨ y' < y by omega) with h' | h' | h' <;>
    simp (disch := omega) only [x_obS, x_oiS, x_osS, x_og1, x_inT, x_nzT, x_boT, x_lt, x_le, x_eq, x_cl, nI_add, pk_mul, x_at, x_st, x_lm1, x_meq, x_nm, x_mneq, x_m0, x_mge, x_sub1, x_subN, if_pos, if_neg, if_true, if_false, x_l0, x_l1, x_l2, x_l3, x_l4, x_l5, x_l8, x_l10, x_l16, x_l50, x_l80, x_l128, x_l160, x_l640, x_l25600, EM_0, EM_1, EM_2, EM_3, EM_4, EM_5, EM_6, EM_7, EM_8, EM_9, EM_10, EM_11, EM_12, EM_13, EM_14, EM_15, EM_16, EM_17, EM_18, EMs_0, EMs_1, EMs_2, EMs_3, EMs_4, EMs_5, EMs_7, EMs_8, EMs_9, EMs_10, EMs_11, EMs_13, EMs_14, EMs_16, EMs_17, EMs_18, EMs_6, EMs_12, EMs_15, EMs_6n, EMs_12n, EMs_15n, x_zn, h2, h3, x_remN, x_divN, ← hx, ← hy, ← hx', ← hy', x_sle, x_sge, x_nlm]
