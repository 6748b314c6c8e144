/-! how a state of the class and one of the reference belong together -/
def cs (d : DS) (b : Nat) : Nat := d 17 (b * 4) + d 17 (b * 4 + 1) + d 17 (b * 4 + 2) + d 17 (b * 4 + 3)
def pb (d : DS) (p : Nat) : Nat := bf (d 10 p - 1) (d 11 p) (d 8 p)
def cm (d : DS) (b t : Nat) : Nat := if t < d 22 1 + 4 then d 17 (b * 4 + t % 4) else 0
def I1 (c r : Nat) (d : DS) : Prop := Gr d c r ∧ 1 ≤ d 22 6 ∧ d 22 6 ≤ 3 ∧ d 22 7 ≤ 3 ∧ d 22 1 < 30000 ∧ d 22 4 ≤ 80
def I2 (d : DS) : Prop := (∀ i, i < 16 → d 0 i < 2 ∧ 1 ≤ d 18 i ∧ d 18 i ≤ 16 ∧ d 19 i ≤ d 22 1 + 1) ∧ ∀ i, i < 80 → d 1 i < 10
def I3 (c r : Nat) (d : DS) : Prop := ∀ p, p < d 22 4 → d 6 p < c * r ∧ d 7 p < c * r ∧ d 8 p < 2 ∧ d 9 p < 2 ∧ d 10 p ≤ c * r ∧ d 11 p < 5 ∧ d 13 p < 2
def I4 (d : DS) : Prop := ∀ b, b < 160 → d 15 b ≤ d 22 6 ∧ ∀ j, j < d 15 b → d 14 (3 * b + j) < d 22 4 ∧ d 10 (d 14 (3 * b + j)) = b / 10 + 1 ∧ bf (b / 10) (d 11 (d 14 (3 * b + j))) (d 8 (d 14 (3 * b + j))) = b ∧ ∀ j', j' < j → d 14 (3 * b + j') ≠ d 14 (3 * b + j)
def I5 (d : DS) : Prop := ∀ p, p < d 22 4 → d 10 p ≠ 0 → ∃ j, j < d 15 (pb d p) ∧ d 14 (3 * pb d p + j) = p
def I6 (c r : Nat) (d : DS) : Prop := ∀ p, p < d 22 4 → d 10 p ≠ 0 → d 11 p < 4 → nb c r (d 10 p - 1) ((d 11 p + 2) % 4) ≠ 0
def I7 (d : DS) : Prop := (∀ b, b < 160 → d 16 b ≤ 3) ∧ ∀ b, b < 160 → b % 10 < 8 → d 16 b + cs d b + d 15 b ≤ d 22 6
def I8 (c r : Nat) (d : DS) : Prop := (d 22 8 = sumN (d 17) 640 ∧ ∀ b, b < 160 → 8 ≤ b % 10 → cs d b = 0) ∧ ∀ w, w < c * r → ∀ i, i < 4 → ∀ l, l < 2 → nb c r w ((i + 2) % 4) = 0 → d 16 (bf w i l) + cs d (bf w i l) + d 15 (bf w i l) = d 22 6
def RA (d e : DS) : Prop := e 18 0 = d 22 2 ∧ e 18 1 = d 22 3 ∧ e 18 2 = d 22 6 ∧ e 18 3 = d 22 7 ∧ e 18 4 = d 22 1 ∧ e 18 5 = d 22 4 ∧ e 18 6 = d 22 5
def RB (d e : DS) : Prop := (∀ i, i < 16 → e 7 i = d 0 i ∧ e 5 i = d 18 i ∧ e 6 i = d 19 i) ∧ ∀ i, i < 80 → e 4 i = d 1 i
def RP (d e : DS) : Prop := ∀ p, p < d 22 4 → e 9 p = d 6 p ∧ e 8 p = d 7 p ∧ e 10 p = d 8 p ∧ e 11 p = d 9 p ∧ e 12 p = d 10 p ∧ e 13 p = d 12 p ∧ e 14 p = d 13 p
def RQ (d e : DS) : Prop := ∀ b, b < 160 → e 1 b = d 15 b ∧ ∀ j, j < d 15 b → e 0 (3 * b + j) = d 14 (3 * b + j)
def RLk (c r : Nat) (d e : DS) : Prop := ∀ w, w < c * r → ∀ o, o < 4 → nb c r w o ≠ 0 → ∀ l, l < 2 → e 2 (lk w o l) = d 16 (bf (nb c r w o - 1) o l) ∧ ∀ t, d 22 1 ≤ t → t < d 22 1 + 5 → e 3 (5 * lk w o l + t % 5) = cm d (bf (nb c r w o - 1) o l) t
def JJ (c r : Nat) (d e : DS) : Prop := I1 c r d ∧ I2 d ∧ I3 c r d ∧ I4 d ∧ I5 d ∧ I6 c r d ∧ I7 d ∧ I8 c r d ∧ RA d e ∧ RB d e ∧ RP d e ∧ RQ d e ∧ RLk c r d e
def JX (t : Nat) (σ τ : CS) : Prop := ∃ (c r : Nat) (d e : DS), σ = E d ∧ τ = EM e ∧ JJ c r d e ∧ d 22 1 ≤ 50 * t
theorem JJ.grm {c r : Nat} {d e : DS} (h : JJ c r d e) : GrM e c r := by
  obtain ⟨⟨⟨g1, g2, g3, -⟩, -⟩, -, -, -, -, -, -, -, ⟨a1, a2, -⟩, -⟩ := h
  exact ⟨a1.trans g1, a2.trans g2, g3⟩
/-- the reference's last exception may be any -/
theorem JJ.thrown {c r : Nat} {d e : DS} (h : JJ c r d e) (v : Nat) : JJ c r d (dset e 18 7 v) := h
/-- a switch's number is one or not -/
theorem x_sw (x : Int32) {n : Nat} (hn : n ≤ 1000) : (x < 0 ∨ nI n ≤ x) ∨ ∃ j : Nat, j < n ∧ x = nI j := by
  rcases pk_ix x (n := n) (by omega) with h | h | h
  · exact Or.inl (Or.inl h)
  · exact Or.inl (Or.inr h)
  · exact Or.inr h
theorem n_has (F : Nat) {d : DS} {c r : Nat} (hG : Gr d c r) (x : Int32) : r_X3_has F x (E d) = some (if x < 0 ∨ nI (c * r) ≤ x then 0 else 1, E d) := by
  unfold r_X3_has r_X3_has_b16 r_X3_has_b17
  rw [n_size F hG, x_obS]
  by_cases h : x < 0
  · simp only [if_pos h, h, true_or, if_true]
    rfl
  · by_cases h2 : nI (c * r) ≤ x
    · simp only [if_neg h, if_pos h2, h2, or_true, if_true]
      rfl
    · simp only [if_neg h, if_neg h2, h, h2, or_self, if_false]
      rfl
theorem n_checkSwitch (F : Nat) {d : DS} {c r : Nat} (hG : Gr d c r) (x : Int32) : r_X7_checkSwitch F x (E d) = some (if x < 0 ∨ nI (c * r) ≤ x then 1 else 0, 0, E d) := by
  unfold r_X7_checkSwitch
  rw [n_has F hG, x_obS]
  by_cases h : x < 0 ∨ nI (c * r) ≤ x
  · simp only [if_pos h]
    rfl
  · simp only [if_neg h]
    rfl
theorem k_isSwitch (F : Nat) {e : DS} {c r : Nat} (hG : GrM e c r) (x : Int32) : r_X8_isSwitch F x (EM e) = some (nI (if x < 0 ∨ nI (c * r) ≤ x then 0 else 1), EM e) := by
  obtain ⟨h2, h3, hN⟩ := hG
  have e1 : EM e 18 0 * EM e 18 1 = nI (c * r) := by rw [EM_18, EM_18, h2, h3, pk_mul]
  unfold r_X8_isSwitch r_X8_isSwitch_b21 r_X8_isSwitch_b22
  rw [e1]
  by_cases h : x < 0
  · simp only [if_pos h, h, true_or, if_true]
    rfl
  · by_cases h2 : nI (c * r) ≤ x
    · simp only [if_neg h, if_pos h2, h2, or_true, if_true]
      rfl
    · simp only [if_neg h, if_neg h2, h, h2, or_self, if_false]
      rfl
theorem n_checkLane (F : Nat) (x : Int32) (s : CS) : r_X7_checkLane F x s = some (if x = 0 ∨ x = 1 then 0 else 2, 0, s) := by
  unfold r_X7_checkLane r_X7_checkLane_b19
  by_cases h : x = 0
  · simp only [if_pos h, h, true_or, if_true]
  · by_cases h2 : x = 1
    · subst h2
      rfl
    · simp only [if_neg h, if_neg h2, h, h2, or_self, if_false]
/-- a lane is one or not -/
theorem x_ln (x : Int32) : (nI 0 ≤ x ∧ x ≤ nI 1) = (x = 0 ∨ x = 1) := by
  apply propext
  constructor
  · intro ⟨h1, h2⟩
    rw [Int32.le_iff_toInt_le, x_toInt (by omega)] at h1 h2
    have : x.toInt = 0 ∨ x.toInt = 1 := by omega
    rcases this with q | q
    · exact Or.inl (Int32.toInt_inj.mp q)
    · exact Or.inr (Int32.toInt_inj.mp q)
  · rintro (rfl | rfl) <;> decide
theorem n_checkPacket (F : Nat) (d : DS) (x : Int32) : r_X7_checkPacket F x (E d) = some (if x < 0 ∨ nI (d 22 4) ≤ x then 1 else 0, 0, E d) := by
  unfold r_X7_checkPacket r_X7_checkPacket_b15
  rw [E_22]
  by_cases h : x < 0
  · simp only [if_pos h, h, true_or, if_true]
  · by_cases h2 : nI (d 22 4) ≤ x
    · have h3 : ¬ x < nI (d 22 4) := Int32.not_lt.mpr h2
      simp only [if_neg h, if_neg h3, h2, or_true, if_true]
    · have h3 : x < nI (d 22 4) := Int32.not_le.mp h2
      simp only [if_neg h, if_pos h3, h, h2, or_self, if_false]
theorem k_isPacket (F : Nat) (e : DS) (x : Int32) : r_X8_isPacket F x (EM e) = some (nI (if x < 0 ∨ nI (e 18 5) ≤ x then 0 else 1), EM e) := by
  unfold r_X8_isPacket r_X8_isPacket_b16 r_X8_isPacket_b17
  rw [EM_18]
  by_cases h : x < 0
  · simp only [if_pos h, h, true_or, if_true]
    rfl
  · by_cases h2 : nI (e 18 5) ≤ x
    · simp only [if_neg h, if_pos h2, h2, or_true, if_true]
      rfl
    · simp only [if_neg h, if_neg h2, h, h2, or_self, if_false]
      rfl
theorem k_goesT (F : Nat) (e : DS) : r_X8_goes F (nI 1) (nI 1) (nI 1) (EM e) = some (nI 1, EM (dset e 18 7 0)) := k_goes F e (by decide) (by decide) (by decide)
theorem k_goesF (F : Nat) (e : DS) {b c : Nat} (hb : b < 2) (hc : c < 2) : r_X8_goes F (nI 0) (nI b) (nI c) (EM e) = some (nI 0, EM (dset e 18 7 1)) := k_goes F e (by decide) hb hc
theorem x_obxS {q : XR} {k : CS → Option XR} (h : q.1 = 0) : x_obx (some q) k = k q.2.2 := if_pos h
theorem x_obxX {q : XR} {k : CS → Option XR} (h : ¬ q.1 = 0) : x_obx (some q) k = some (q.1, 0, q.2.2) := if_neg h
/-! the questions -/
theorem s_tick (F t : Nat) {σ τ : CS} (h : JX t σ τ) : l_S_tick F JX t σ τ := by
  obtain ⟨c, r, d, e, rfl, rfl, hJ, ht⟩ := h
  refine ⟨nI (d 22 1), E d, EM (dset e 18 7 0), rfl, ?_, c, r, d, _, rfl, rfl, hJ.thrown 0, by omega⟩
  unfold r_X8_tick
  simp (disch := omega) only [x_obS, x_oiS, x_osS, x_og1, x_inT, x_nzT, x_boT, x_lt, x_le, x_eq, x_cl, nI_add, pk_mul, x_at, x_st, x_lm1, x_meq, x_nm, x_mneq, x_m0, x_mge, x_sub1, x_subN, if_pos, if_neg, if_true, if_false, x_l0, x_l1, x_l2, x_l3, x_l4, x_l5, x_l8, x_l10, x_l16, x_l50, x_l80, x_l128, x_l160, x_l640, x_l25600, EM_0, EM_1, EM_2, EM_3, EM_4, EM_5, EM_6, EM_7, EM_8, EM_9, EM_10, EM_11, EM_12, EM_13, EM_14, EM_15, EM_16, EM_17, EM_18, EMs_0, EMs_1, EMs_2, EMs_3, EMs_4, EMs_5, EMs_7, EMs_8, EMs_9, EMs_10, EMs_11, EMs_13, EMs_14, EMs_16, EMs_17, EMs_18, EMs_6, EMs_12, EMs_15, EMs_6n, EMs_12n, EMs_15n, x_zn]
  rw [show dset e 18 7 0 18 4 = d 22 1 from hJ.2.2.2.2.2.2.2.2.1.2.2.2.2.1]
theorem s_packets (F t : Nat) {σ τ : CS} (h : JX t σ τ) : l_S_packets F JX t σ τ := by
  obtain ⟨c, r, d, e, rfl, rfl, hJ, ht⟩ := h
  refine ⟨nI (d 22 4), E d, EM (dset e 18 7 0), rfl, ?_, c, r, d, _, rfl, rfl, hJ.thrown 0, by omega⟩
  unfold r_X8_packets
  simp (disch := omega) only [x_obS, x_oiS, x_osS, x_og1, x_inT, x_nzT, x_boT, x_lt, x_le, x_eq, x_cl, nI_add, pk_mul, x_at, x_st, x_lm1, x_meq, x_nm, x_mneq, x_m0, x_mge, x_sub1, x_subN, if_pos, if_neg, if_true, if_false, x_l0, x_l1, x_l2, x_l3, x_l4, x_l5, x_l8, x_l10, x_l16, x_l50, x_l80, x_l128, x_l160, x_l640, x_l25600, EM_0, EM_1, EM_2, EM_3, EM_4, EM_5, EM_6, EM_7, EM_8, EM_9, EM_10, EM_11, EM_12, EM_13, EM_14, EM_15, EM_16, EM_17, EM_18, EMs_0, EMs_1, EMs_2, EMs_3, EMs_4, EMs_5, EMs_7, EMs_8, EMs_9, EMs_10, EMs_11, EMs_13, EMs_14, EMs_16, EMs_17, EMs_18, EMs_6, EMs_12, EMs_15, EMs_6n, EMs_12n, EMs_15n, x_zn]
  rw [show dset e 18 7 0 18 5 = d 22 4 from hJ.2.2.2.2.2.2.2.2.1.2.2.2.2.2.1]
theorem s_arrived (F t : Nat) {σ τ : CS} (h : JX t σ τ) : l_S_arrived F JX t σ τ := by
  obtain ⟨c, r, d, e, rfl, rfl, hJ, ht⟩ := h
  refine ⟨nI (d 22 5), E d, EM (dset e 18 7 0), rfl, ?_, c, r, d, _, rfl, rfl, hJ.thrown 0, by omega⟩
  unfold r_X8_arrived
  simp (disch := omega) only [x_obS, x_oiS, x_osS, x_og1, x_inT, x_nzT, x_boT, x_lt, x_le, x_eq, x_cl, nI_add, pk_mul, x_at, x_st, x_lm1, x_meq, x_nm, x_mneq, x_m0, x_mge, x_sub1, x_subN, if_pos, if_neg, if_true, if_false, x_l0, x_l1, x_l2, x_l3, x_l4, x_l5, x_l8, x_l10, x_l16, x_l50, x_l80, x_l128, x_l160, x_l640, x_l25600, EM_0, EM_1, EM_2, EM_3, EM_4, EM_5, EM_6, EM_7, EM_8, EM_9, EM_10, EM_11, EM_12, EM_13, EM_14, EM_15, EM_16, EM_17, EM_18, EMs_0, EMs_1, EMs_2, EMs_3, EMs_4, EMs_5, EMs_7, EMs_8, EMs_9, EMs_10, EMs_11, EMs_13, EMs_14, EMs_16, EMs_17, EMs_18, EMs_6, EMs_12, EMs_15, EMs_6n, EMs_12n, EMs_15n, x_zn]
  rw [show dset e 18 7 0 18 6 = d 22 5 from hJ.2.2.2.2.2.2.2.2.1.2.2.2.2.2.2]
theorem s_gap (F t : Nat) {σ τ : CS} (h : JX t σ τ) : l_S_gap F JX t σ τ := by
  obtain ⟨c, r, d, e, rfl, rfl, hJ, ht⟩ := h
  intro x
  have hG := hJ.1.1
  have h16 := Gr16 hG.2.2.1
  rcases x_sw x (n := c * r) (by omega) with hx | ⟨w, hw, rfl⟩
  · refine ⟨(1, 0, E d), 0, EM (dset e 18 7 1), ?_, ?_, Or.inr ⟨rfl, rfl⟩, c, r, d, _, rfl, rfl, hJ.thrown 1, by omega⟩
    · unfold r_X7_gap
      rw [n_checkSwitch F hG, if_pos hx]
      rfl
    · unfold r_X8_gap r_X8_gap_b24
      rw [k_isSwitch F hJ.grm, if_pos hx]
      simp (disch := omega) only [x_obS, x_oiS, x_osS, x_og1, x_inT, x_nzT, x_boT, x_lt, x_le, x_eq, x_cl, nI_add, pk_mul, x_at, x_st, x_lm1, x_meq, x_nm, x_mneq, x_m0, x_mge, x_sub1, x_subN, if_pos, if_neg, if_true, if_false, x_l0, x_l1, x_l2, x_l3, x_l4, x_l5, x_l8, x_l10, x_l16, x_l50, x_l80, x_l128, x_l160, x_l640, x_l25600, EM_0, EM_1, EM_2, EM_3, EM_4, EM_5, EM_6, EM_7, EM_8, EM_9, EM_10, EM_11, EM_12, EM_13, EM_14, EM_15, EM_16, EM_17, EM_18, EMs_0, EMs_1, EMs_2, EMs_3, EMs_4, EMs_5, EMs_7, EMs_8, EMs_9, EMs_10, EMs_11, EMs_13, EMs_14, EMs_16, EMs_17, EMs_18, EMs_6, EMs_12, EMs_15, EMs_6n, EMs_12n, EMs_15n, x_zn, k_goesF]
  · have hx : ¬ (nI w < 0 ∨ nI (c * r) ≤ nI w) := by
      rw [x_l0, x_lt (by omega) (by omega), x_le (by omega) (by omega)]
      omega
    refine ⟨(0, nI (d 18 w), E d), nI (d 18 w), EM (dset e 18 7 0), ?_, ?_, Or.inl ⟨rfl, rfl, rfl⟩, c, r, d, _, rfl, rfl, hJ.thrown 0, by omega⟩
    · unfold r_X7_gap r_X6_gapOf
      rw [n_checkSwitch F hG, if_neg hx, x_obxS rfl]
      simp (disch := omega) only [x_obS, x_oiS, x_osS, x_og1, x_inT, x_nzT, x_boT, x_lt, x_le, x_eq, x_cl, nI_add, pk_mul, x_at, x_st, x_lm1, x_meq, x_nm, x_mneq, x_m0, x_mge, x_sub1, x_subN, if_pos, if_neg, if_true, if_false, x_l0, x_l1, x_l2, x_l3, x_l4, x_l5, x_l8, x_l10, x_l16, x_l50, x_l80, x_l128, x_l160, x_l640, x_l25600, E_0, E_1, E_2, E_3, E_4, E_5, E_6, E_7, E_8, E_9, E_10, E_11, E_12, E_13, E_14, E_15, E_16, E_17, E_18, E_19, E_20, E_21, E_22, Es_0, Es_1, Es_2, Es_3, Es_4, Es_5, Es_6, Es_7, Es_8, Es_9, Es_11, Es_12, Es_13, Es_14, Es_15, Es_16, Es_17, Es_18, Es_21, Es_22, Es_10, Es_19, Es_20, Es_10n, Es_19n, Es_20n, n_at_0, n_at_1, n_at_2, n_at_3, n_at_4, n_at_5, n_at_6, n_at_7, n_at_8, n_at_9, n_at_10, n_at_11, n_at_12, n_at_13, n_at_14, n_at_15, n_at_16, n_at_17, n_at_18, n_at_19, n_at_20, n_at_21, n_put_0, n_put_1, n_put_2, n_put_3, n_put_4, n_put_5, n_put_6, n_put_7, n_put_8, n_put_9, n_put_10, n_put_11, n_put_12, n_put_13, n_put_14, n_put_15, n_put_16, n_put_17, n_put_18, n_put_19, n_put_20, n_put_21, n_put_10n, n_put_19n, n_put_20n, n_add_0, n_add_1, n_add_2, n_add_3, n_add_4, n_add_5, n_add_6, n_add_7, n_add_8, n_add_9, n_add_11, n_add_12, n_add_13, n_add_14, n_add_15, n_add_16, n_add_17, n_add_18, n_add_21, n_sub_0, n_sub_1, n_sub_2, n_sub_3, n_sub_4, n_sub_5, n_sub_6, n_sub_7, n_sub_8, n_sub_9, n_sub_11, n_sub_12, n_sub_13, n_sub_14, n_sub_15, n_sub_16, n_sub_17, n_sub_18, n_sub_21]
    · unfold r_X8_gap r_X8_gap_b24
      rw [k_isSwitch F hJ.grm, if_neg hx]
      simp (disch := omega) only [x_obS, x_oiS, x_osS, x_og1, x_inT, x_nzT, x_boT, x_lt, x_le, x_eq, x_cl, nI_add, pk_mul, x_at, x_st, x_lm1, x_meq, x_nm, x_mneq, x_m0, x_mge, x_sub1, x_subN, if_pos, if_neg, if_true, if_false, x_l0, x_l1, x_l2, x_l3, x_l4, x_l5, x_l8, x_l10, x_l16, x_l50, x_l80, x_l128, x_l160, x_l640, x_l25600, EM_0, EM_1, EM_2, EM_3, EM_4, EM_5, EM_6, EM_7, EM_8, EM_9, EM_10, EM_11, EM_12, EM_13, EM_14, EM_15, EM_16, EM_17, EM_18, EMs_0, EMs_1, EMs_2, EMs_3, EMs_4, EMs_5, EMs_7, EMs_8, EMs_9, EMs_10, EMs_11, EMs_13, EMs_14, EMs_16, EMs_17, EMs_18, EMs_6, EMs_12, EMs_15, EMs_6n, EMs_12n, EMs_15n, x_zn, k_goesT]
      rw [show dset e 18 7 0 5 w = d 18 w from ((hJ.2.2.2.2.2.2.2.2.2.1).1 w (by omega)).2.1]
