/-! lose, pause -/
theorem nb_back {c r w o : Nat} (hN : GrN c r) (hw : w < c * r) (ho : o < 4) (h : nb c r w o ≠ 0) : nb c r (nb c r w o - 1) ((o + 2) % 4) = w + 1 := by
  obtain ⟨h1, h2, h3, h4⟩ := hN
  rcases (show o = 0 ∨ o = 1 ∨ o = 2 ∨ o = 3 by omega) with rfl | rfl | rfl | rfl
  · change (if w % c + 1 < c then w + 2 else 0) ≠ 0 at h
    change (if 0 < ((if w % c + 1 < c then w + 2 else 0) - 1) % c then ((if w % c + 1 < c then w + 2 else 0) - 1) else 0) = w + 1
    by_cases a : w % c + 1 < c
    · rw [if_pos a]
      rcases (show c = 2 ∨ c = 3 ∨ c = 4 by omega) with rfl | rfl | rfl <;> rw [if_pos (by omega)] <;> omega
    · rw [if_neg a] at h
      omega
  · change (if w / c + 1 < r then w + c + 1 else 0) ≠ 0 at h
    change (if 0 < ((if w / c + 1 < r then w + c + 1 else 0) - 1) / c then ((if w / c + 1 < r then w + c + 1 else 0) - 1) - c + 1 else 0) = w + 1
    by_cases a : w / c + 1 < r
    · rw [if_pos a]
      rcases (show c = 2 ∨ c = 3 ∨ c = 4 by omega) with rfl | rfl | rfl <;> rw [if_pos (by omega)] <;> omega
    · rw [if_neg a] at h
      omega
  · change (if 0 < w % c then w else 0) ≠ 0 at h
    change (if ((if 0 < w % c then w else 0) - 1) % c + 1 < c then ((if 0 < w % c then w else 0) - 1) + 2 else 0) = w + 1
    by_cases a : 0 < w % c
    · rw [if_pos a]
      rcases (show c = 2 ∨ c = 3 ∨ c = 4 by omega) with rfl | rfl | rfl <;> rw [if_pos (by omega)] <;> omega
    · rw [if_neg a] at h
      omega
  · change (if 0 < w / c then w - c + 1 else 0) ≠ 0 at h
    change (if ((if 0 < w / c then w - c + 1 else 0) - 1) / c + 1 < r then ((if 0 < w / c then w - c + 1 else 0) - 1) + c + 1 else 0) = w + 1
    by_cases a : 0 < w / c
    · rw [if_pos a]
      rcases (show c = 2 ∨ c = 3 ∨ c = 4 by omega) with rfl | rfl | rfl <;> rw [if_pos (by omega)] <;> omega
    · rw [if_neg a] at h
      omega
theorem bf_inj {w i l w' i' l' : Nat} (hi : i < 5) (hl : l < 2) (hi' : i' < 5) (hl' : l' < 2) (h : bf w i l = bf w' i' l') : w = w' ∧ i = i' ∧ l = l' := by
  change w * 10 + 2 * i + l = w' * 10 + 2 * i' + l' at h
  omega
theorem lk_inj {w i l w' i' l' : Nat} (hi : i < 4) (hl : l < 2) (hi' : i' < 4) (hl' : l' < 2) (h : lk w i l = lk w' i' l') : w = w' ∧ i = i' ∧ l = l' := by
  change w * 8 + 2 * i + l = w' * 8 + 2 * i' + l' at h
  omega
theorem JJ.lose {c r w o l v : Nat} {d e : DS} (hJ : JJ c r d e) (hw : w < c * r) (ho : o < 4) (hl : l < 2) (h0 : nb c r w o ≠ 0) (hv : v ≤ d 16 (bf (nb c r w o - 1) o l)) : JJ c r (dset d 16 (bf (nb c r w o - 1) o l) v) (dset e 2 (lk w o l) v) := by
  obtain ⟨i1, i2, i3, i4, i5, i6, ⟨i7, i7'⟩, ⟨i8, i9⟩, ra, rb, rp, rq, rl⟩ := hJ
  have hN := i1.1.2.2.1
  have h1 := nb_lt (dir := o) hN hw
  refine ⟨i1, i2, i3, i4, i5, i6, ⟨fun b hb => ?_, fun b hb hm => ?_⟩, ⟨i8, fun w' hw' i hi l' hl' hn => ?_⟩, ra, rb, rp, rq, fun w' hw' o' ho' hn l' hl' => ?_⟩
  · have := i7 b hb
    rw [dset_a]
    split
    · rename_i q
      rw [q.2] at this
      omega
    · exact this
  · have := i7' b hb hm
    change dset d 16 _ v 16 b + cs d b + d 15 b ≤ d 22 6
    rw [dset_a]
    split
    · rename_i q
      rw [q.2] at this ⊢
      omega
    · exact this
  · have h9 := i9 w' hw' i hi l' hl' hn
    change dset d 16 _ v 16 (bf w' i l') + cs d (bf w' i l') + d 15 (bf w' i l') = d 22 6
    rw [dset_o _ _ _ _ (fun q => ?_)]
    · exact h9
    · obtain ⟨q1, q2, q3⟩ := bf_inj (by omega) hl' (by omega) hl q
      subst q2
      rw [q1, nb_back hN hw ho h0] at hn
      omega
  · obtain ⟨a1, a2⟩ := rl w' hw' o' ho' hn l' hl'
    refine ⟨?_, a2⟩
    by_cases q : w' = w ∧ o' = o ∧ l' = l
    · obtain ⟨rfl, rfl, rfl⟩ := q
      rw [dset_s, dset_s]
    · rw [dset_o _ _ _ _ (fun z => q ?_), dset_o _ _ _ _ (fun z => q ?_)]
      · exact a1
      · obtain ⟨q1, q2, q3⟩ := bf_inj (by omega) hl' (by omega) hl z
        subst q2
        have h2 := nb_lt (dir := o') hN hw'
        exact ⟨nb_inj hn (by omega), rfl, q3⟩
      · exact lk_inj ho' hl' ho hl z
theorem s_lose (F t : Nat) {σ τ : CS} (h : JX t σ τ) : l_S_lose F JX t σ τ := by
  obtain ⟨c, r, d, e, rfl, rfl, hJ, ht⟩ := h
  intro x y z
  have hG := hJ.1.1
  have h16 := Gr16 hG.2.2.1
  have hGM := hJ.grm
  have one : ∀ v5 : Nat, v5 < 2 → r_X8_isLink F x y (EM e) = some (nI 0, EM e) → r_X8_isWithin F z (nI 0) (nI 1) (EM e) = some (nI v5, EM e) → r_X8_lose F x y z (EM e) = some (0, EM (dset e 18 7 1)) := by
    intro v5 h5 q1 q2
    unfold r_X8_lose r_X8_lose_b49 r_X8_lose_b50
    rw [q1, x_obS, x_l0, x_l1, q2, x_obS, if_pos rfl, k_goesF F e h5 (by decide)]
    rfl
  have v5 : ∃ v5 : Nat, v5 < 2 ∧ r_X8_isWithin F z (nI 0) (nI 1) (EM e) = some (nI v5, EM e) := ⟨_, by split <;> omega, k_isWithin F 0 1 z _⟩
  obtain ⟨v5, h5, q5⟩ := v5
  rcases x_sw x (n := c * r) (by omega) with hx | ⟨w, hw, rfl⟩
  · refine ⟨(1, 0, E d), 0, EM (dset e 18 7 1), ?_, one v5 h5 (k_isLink1 F hGM hx) q5, Or.inr (Or.inl ⟨rfl, rfl⟩), c, r, d, _, rfl, rfl, hJ.thrown 1, by omega⟩
    unfold r_X7_lose
    rw [n_checkLink1 F hG hx]
    rfl
  · rcases x_dir y with hy | ⟨o, ho, rfl⟩
    · refine ⟨(1, 0, E d), 0, EM (dset e 18 7 1), ?_, one v5 h5 (k_isLink2 F hGM hw hy) q5, Or.inr (Or.inl ⟨rfl, rfl⟩), c, r, d, _, rfl, rfl, hJ.thrown 1, by omega⟩
      unfold r_X7_lose
      rw [n_checkLink2 F hG hw hy]
      rfl
    · have k3 := k_isLink3 F hGM hw ho
      have n3 := n_checkLink3 F hG hw ho
      by_cases h0 : nb c r w o = 0
      · rw [if_pos h0] at k3 n3
        refine ⟨(1, 0, E d), 0, EM (dset e 18 7 1), ?_, one v5 h5 k3 q5, Or.inr (Or.inl ⟨rfl, rfl⟩), c, r, d, _, rfl, rfl, hJ.thrown 1, by omega⟩
        unfold r_X7_lose
        rw [n3]
        rfl
      · rw [if_neg h0] at k3 n3
        have h1 := nb_lt (dir := o) hG.2.2.1 hw
        by_cases hz : z = 0 ∨ z = 1
        · obtain ⟨l, hl, rfl⟩ : ∃ l : Nat, l < 2 ∧ z = nI l := by
            rcases hz with rfl | rfl
            · exact ⟨0, by omega, rfl⟩
            · exact ⟨1, by omega, rfl⟩
          have hL := (hJ.2.2.2.2.2.2.2.2.2.2.2.2 w hw o ho h0 l hl).1
          have hb9 : bf (nb c r w o - 1) o l < 160 := by
            show (nb c r w o - 1) * 10 + 2 * o + l < 160
            omega
          have hb8 : lk w o l < 128 := by
            show w * 8 + 2 * o + l < 128
            omega
          have h7 := hJ.2.2.2.2.2.2.1.1 _ hb9
          obtain ⟨v, hv⟩ : ∃ v, v = d 16 (bf (nb c r w o - 1) o l) := ⟨_, rfl⟩
          rw [← hv] at hL h7
          by_cases hv0 : v = 0
          · refine ⟨(3, 0, E d), 0, EM (dset e 18 7 3), ?_, ?_, Or.inr (Or.inr (Or.inr ⟨rfl, rfl⟩)), c, r, d, _, rfl, rfl, hJ.thrown 3, by omega⟩
            · unfold r_X7_lose
              rw [n3, x_obxS rfl, n_checkLane, if_pos hz, x_obxS rfl]
              simp (disch := omega) only [x_obS, x_oiS, x_osS, x_og1, x_inT, x_nzT, x_boT, x_lt, x_le, x_eq, x_cl, nI_add, pk_mul, x_at, x_st, x_lm1, x_meq, x_nm, x_mneq, x_m0, x_mge, x_sub1, x_subN, if_pos, if_neg, if_true, if_false, x_l0, x_l1, x_l2, x_l3, x_l4, x_l5, x_l8, x_l10, x_l16, x_l50, x_l80, x_l128, x_l160, x_l640, x_l25600, E_0, E_1, E_2, E_3, E_4, E_5, E_6, E_7, E_8, E_9, E_10, E_11, E_12, E_13, E_14, E_15, E_16, E_17, E_18, E_19, E_20, E_21, E_22, Es_0, Es_1, Es_2, Es_3, Es_4, Es_5, Es_6, Es_7, Es_8, Es_9, Es_11, Es_12, Es_13, Es_14, Es_15, Es_16, Es_17, Es_18, Es_21, Es_22, Es_10, Es_19, Es_20, Es_10n, Es_19n, Es_20n, n_at_0, n_at_1, n_at_2, n_at_3, n_at_4, n_at_5, n_at_6, n_at_7, n_at_8, n_at_9, n_at_10, n_at_11, n_at_12, n_at_13, n_at_14, n_at_15, n_at_16, n_at_17, n_at_18, n_at_19, n_at_20, n_at_21, n_put_0, n_put_1, n_put_2, n_put_3, n_put_4, n_put_5, n_put_6, n_put_7, n_put_8, n_put_9, n_put_10, n_put_11, n_put_12, n_put_13, n_put_14, n_put_15, n_put_16, n_put_17, n_put_18, n_put_19, n_put_20, n_put_21, n_put_10n, n_put_19n, n_put_20n, n_add_0, n_add_1, n_add_2, n_add_3, n_add_4, n_add_5, n_add_6, n_add_7, n_add_8, n_add_9, n_add_11, n_add_12, n_add_13, n_add_14, n_add_15, n_add_16, n_add_17, n_add_18, n_add_21, n_sub_0, n_sub_1, n_sub_2, n_sub_3, n_sub_4, n_sub_5, n_sub_6, n_sub_7, n_sub_8, n_sub_9, n_sub_11, n_sub_12, n_sub_13, n_sub_14, n_sub_15, n_sub_16, n_sub_17, n_sub_18, n_sub_21, n_bufferBehind F hG hw ho h0, n_there, ← hv, hv0]
            · unfold r_X8_lose r_X8_lose_b49 r_X8_lose_b50
              rw [k3, x_obS, x_l0, x_l1, k_isWithin, if_pos (by rw [x_ln]; exact hz), x_obS, if_neg (by decide), if_neg (by decide), k_linkOf, x_obS]
              simp (disch := omega) only [x_obS, x_oiS, x_osS, x_og1, x_inT, x_nzT, x_boT, x_lt, x_le, x_eq, x_cl, nI_add, pk_mul, x_at, x_st, x_lm1, x_meq, x_nm, x_mneq, x_m0, x_mge, x_sub1, x_subN, if_pos, if_neg, if_true, if_false, x_l0, x_l1, x_l2, x_l3, x_l4, x_l5, x_l8, x_l10, x_l16, x_l50, x_l80, x_l128, x_l160, x_l640, x_l25600, EM_0, EM_1, EM_2, EM_3, EM_4, EM_5, EM_6, EM_7, EM_8, EM_9, EM_10, EM_11, EM_12, EM_13, EM_14, EM_15, EM_16, EM_17, EM_18, EMs_0, EMs_1, EMs_2, EMs_3, EMs_4, EMs_5, EMs_7, EMs_8, EMs_9, EMs_10, EMs_11, EMs_13, EMs_14, EMs_16, EMs_17, EMs_18, EMs_6, EMs_12, EMs_15, EMs_6n, EMs_12n, EMs_15n, x_zn, hL, hv0, k_goes]
              rfl
          · refine ⟨(0, nI (v - 1), E (dset d 16 (bf (nb c r w o - 1) o l) (v - 1))), nI (v - 1), EM (dset (dset e 18 7 0) 2 (lk w o l) (v - 1)), ?_, ?_, Or.inl ⟨rfl, rfl, rfl⟩, c, r, _, _, rfl, rfl, (hJ.thrown 0).lose hw ho hl h0 (by omega), (show d 22 1 ≤ 50 * (t + 1) by omega)⟩
            · unfold r_X7_lose
              rw [n3, x_obxS rfl, n_checkLane, if_pos hz, x_obxS rfl]
              simp (disch := omega) only [x_obS, x_oiS, x_osS, x_og1, x_inT, x_nzT, x_boT, x_lt, x_le, x_eq, x_cl, nI_add, pk_mul, x_at, x_st, x_lm1, x_meq, x_nm, x_mneq, x_m0, x_mge, x_sub1, x_subN, if_pos, if_neg, if_true, if_false, x_l0, x_l1, x_l2, x_l3, x_l4, x_l5, x_l8, x_l10, x_l16, x_l50, x_l80, x_l128, x_l160, x_l640, x_l25600, E_0, E_1, E_2, E_3, E_4, E_5, E_6, E_7, E_8, E_9, E_10, E_11, E_12, E_13, E_14, E_15, E_16, E_17, E_18, E_19, E_20, E_21, E_22, Es_0, Es_1, Es_2, Es_3, Es_4, Es_5, Es_6, Es_7, Es_8, Es_9, Es_11, Es_12, Es_13, Es_14, Es_15, Es_16, Es_17, Es_18, Es_21, Es_22, Es_10, Es_19, Es_20, Es_10n, Es_19n, Es_20n, n_at_0, n_at_1, n_at_2, n_at_3, n_at_4, n_at_5, n_at_6, n_at_7, n_at_8, n_at_9, n_at_10, n_at_11, n_at_12, n_at_13, n_at_14, n_at_15, n_at_16, n_at_17, n_at_18, n_at_19, n_at_20, n_at_21, n_put_0, n_put_1, n_put_2, n_put_3, n_put_4, n_put_5, n_put_6, n_put_7, n_put_8, n_put_9, n_put_10, n_put_11, n_put_12, n_put_13, n_put_14, n_put_15, n_put_16, n_put_17, n_put_18, n_put_19, n_put_20, n_put_21, n_put_10n, n_put_19n, n_put_20n, n_add_0, n_add_1, n_add_2, n_add_3, n_add_4, n_add_5, n_add_6, n_add_7, n_add_8, n_add_9, n_add_11, n_add_12, n_add_13, n_add_14, n_add_15, n_add_16, n_add_17, n_add_18, n_add_21, n_sub_0, n_sub_1, n_sub_2, n_sub_3, n_sub_4, n_sub_5, n_sub_6, n_sub_7, n_sub_8, n_sub_9, n_sub_11, n_sub_12, n_sub_13, n_sub_14, n_sub_15, n_sub_16, n_sub_17, n_sub_18, n_sub_21, n_bufferBehind F hG hw ho h0, n_there, ← hv, n_take, dset_s]
            · unfold r_X8_lose r_X8_lose_b49 r_X8_lose_b50
              rw [k3, x_obS, x_l0, x_l1, k_isWithin, if_pos (by rw [x_ln]; exact hz), x_obS, if_neg (by decide), if_neg (by decide), k_linkOf, x_obS]
              simp (disch := omega) only [x_obS, x_oiS, x_osS, x_og1, x_inT, x_nzT, x_boT, x_lt, x_le, x_eq, x_cl, nI_add, pk_mul, x_at, x_st, x_lm1, x_meq, x_nm, x_mneq, x_m0, x_mge, x_sub1, x_subN, if_pos, if_neg, if_true, if_false, x_l0, x_l1, x_l2, x_l3, x_l4, x_l5, x_l8, x_l10, x_l16, x_l50, x_l80, x_l128, x_l160, x_l640, x_l25600, EM_0, EM_1, EM_2, EM_3, EM_4, EM_5, EM_6, EM_7, EM_8, EM_9, EM_10, EM_11, EM_12, EM_13, EM_14, EM_15, EM_16, EM_17, EM_18, EMs_0, EMs_1, EMs_2, EMs_3, EMs_4, EMs_5, EMs_7, EMs_8, EMs_9, EMs_10, EMs_11, EMs_13, EMs_14, EMs_16, EMs_17, EMs_18, EMs_6, EMs_12, EMs_15, EMs_6n, EMs_12n, EMs_15n, x_zn, hL, k_goesT, k_linkOf, show dset e 18 7 0 2 (lk w o l) = v from hL, dset_s]
        · refine ⟨(2, 0, E d), 0, EM (dset e 18 7 2), ?_, ?_, Or.inr (Or.inr (Or.inl ⟨rfl, rfl⟩)), c, r, d, _, rfl, rfl, hJ.thrown 2, by omega⟩
          · unfold r_X7_lose
            rw [n3, x_obxS rfl, n_checkLane, if_neg hz]
            rfl
          · unfold r_X8_lose r_X8_lose_b49 r_X8_lose_b50
            rw [k3, x_obS, x_l0, x_l1, k_isWithin, if_neg (by rw [x_ln]; exact hz), x_obS, if_neg (by decide), if_pos rfl, k_goes F e (by decide) (by decide) (by decide)]
            rfl
theorem JJ.pause {c r w v : Nat} {d e : DS} (hJ : JJ c r d e) (hv : v < 2) : JJ c r (dset d 0 w v) (dset e 7 w v) := by
  obtain ⟨i1, ⟨i2, i2'⟩, i3, i4, i5, i6, i7, i8, ra, ⟨rb, rb'⟩, rp, rq, rl⟩ := hJ
  refine ⟨i1, ⟨fun i hi => ?_, i2'⟩, i3, i4, i5, i6, i7, i8, ra, ⟨fun i hi => ?_, rb'⟩, rp, rq, rl⟩
  · obtain ⟨a1, a2⟩ := i2 i hi
    refine ⟨?_, a2⟩
    rw [dset_a]
    split <;> omega
  · obtain ⟨a1, a2⟩ := rb i hi
    refine ⟨?_, a2⟩
    rw [dset_a, dset_a]
    by_cases q : i = w
    · simp [q]
    · simp [q, a1]
theorem s_pause (F t : Nat) {σ τ : CS} (h : JX t σ τ) : l_S_pause F JX t σ τ := by
  obtain ⟨c, r, d, e, rfl, rfl, hJ, ht⟩ := h
  intro x y hy
  obtain ⟨v, hv, rfl⟩ : ∃ v : Nat, v < 2 ∧ y = nI v := by
    rcases hy with rfl | rfl
    · exact ⟨0, by omega, rfl⟩
    · exact ⟨1, by omega, rfl⟩
  have hG := hJ.1.1
  have h16 := Gr16 hG.2.2.1
  have hGM := hJ.grm
  rcases x_sw x (n := c * r) (by omega) with hx | ⟨w, hw, rfl⟩
  · refine ⟨(1, 0, E d), 0, EM (dset e 18 7 1), ?_, ?_, Or.inr ⟨rfl, rfl⟩, c, r, d, _, rfl, rfl, hJ.thrown 1, by omega⟩
    · unfold r_X7_pause
      rw [n_checkSwitch F hG, if_pos hx]
      rfl
    · unfold r_X8_pause
      rw [k_isSwitch F hGM, if_pos hx]
      simp (disch := omega) only [x_obS, x_oiS, x_osS, x_og1, x_inT, x_nzT, x_boT, x_lt, x_le, x_eq, x_cl, nI_add, pk_mul, x_at, x_st, x_lm1, x_meq, x_nm, x_mneq, x_m0, x_mge, x_sub1, x_subN, if_pos, if_neg, if_true, if_false, x_l0, x_l1, x_l2, x_l3, x_l4, x_l5, x_l8, x_l10, x_l16, x_l50, x_l80, x_l128, x_l160, x_l640, x_l25600, EM_0, EM_1, EM_2, EM_3, EM_4, EM_5, EM_6, EM_7, EM_8, EM_9, EM_10, EM_11, EM_12, EM_13, EM_14, EM_15, EM_16, EM_17, EM_18, EMs_0, EMs_1, EMs_2, EMs_3, EMs_4, EMs_5, EMs_7, EMs_8, EMs_9, EMs_10, EMs_11, EMs_13, EMs_14, EMs_16, EMs_17, EMs_18, EMs_6, EMs_12, EMs_15, EMs_6n, EMs_12n, EMs_15n, x_zn, k_goesF]
  · have hx := x_swN hw (show c * r ≤ 1000 by omega)
    have h0 := (hJ.2.1.1 w (by omega)).1
    have hB := (hJ.2.2.2.2.2.2.2.2.2.1.1 w (by omega)).1
    have hB2 : dset e 18 7 0 7 w = d 0 w := hB
    refine ⟨(0, nI (d 0 w), E (dset d 0 w v)), nI (d 0 w), EM (dset (dset e 18 7 0) 7 w v), ?_, ?_, Or.inl ⟨rfl, rfl, rfl⟩, c, r, _, _, rfl, rfl, (hJ.thrown 0).pause hv, (show d 22 1 ≤ 50 * (t + 1) by omega)⟩
    · unfold r_X7_pause r_X7_pause_b21 r_X7_pause_b36
      rw [n_checkSwitch F hG, if_neg hx, x_obxS rfl]
      rcases (show d 0 w = 0 ∨ d 0 w = 1 by omega) with q | q <;> rcases (show v = 0 ∨ v = 1 by omega) with rfl | rfl
      · simp (disch := omega) only [x_obS, x_oiS, x_osS, x_og1, x_inT, x_nzT, x_boT, x_lt, x_le, x_eq, x_cl, nI_add, pk_mul, x_at, x_st, x_lm1, x_meq, x_nm, x_mneq, x_m0, x_mge, x_sub1, x_subN, if_pos, if_neg, if_true, if_false, x_l0, x_l1, x_l2, x_l3, x_l4, x_l5, x_l8, x_l10, x_l16, x_l50, x_l80, x_l128, x_l160, x_l640, x_l25600, E_0, E_1, E_2, E_3, E_4, E_5, E_6, E_7, E_8, E_9, E_10, E_11, E_12, E_13, E_14, E_15, E_16, E_17, E_18, E_19, E_20, E_21, E_22, Es_0, Es_1, Es_2, Es_3, Es_4, Es_5, Es_6, Es_7, Es_8, Es_9, Es_11, Es_12, Es_13, Es_14, Es_15, Es_16, Es_17, Es_18, Es_21, Es_22, Es_10, Es_19, Es_20, Es_10n, Es_19n, Es_20n, n_at_0, n_at_1, n_at_2, n_at_3, n_at_4, n_at_5, n_at_6, n_at_7, n_at_8, n_at_9, n_at_10, n_at_11, n_at_12, n_at_13, n_at_14, n_at_15, n_at_16, n_at_17, n_at_18, n_at_19, n_at_20, n_at_21, n_put_0, n_put_1, n_put_2, n_put_3, n_put_4, n_put_5, n_put_6, n_put_7, n_put_8, n_put_9, n_put_10, n_put_11, n_put_12, n_put_13, n_put_14, n_put_15, n_put_16, n_put_17, n_put_18, n_put_19, n_put_20, n_put_21, n_put_10n, n_put_19n, n_put_20n, n_add_0, n_add_1, n_add_2, n_add_3, n_add_4, n_add_5, n_add_6, n_add_7, n_add_8, n_add_9, n_add_11, n_add_12, n_add_13, n_add_14, n_add_15, n_add_16, n_add_17, n_add_18, n_add_21, n_sub_0, n_sub_1, n_sub_2, n_sub_3, n_sub_4, n_sub_5, n_sub_6, n_sub_7, n_sub_8, n_sub_9, n_sub_11, n_sub_12, n_sub_13, n_sub_14, n_sub_15, n_sub_16, n_sub_17, n_sub_18, n_sub_21, q]
      · simp (disch := omega) only [x_obS, x_oiS, x_osS, x_og1, x_inT, x_nzT, x_boT, x_lt, x_le, x_eq, x_cl, nI_add, pk_mul, x_at, x_st, x_lm1, x_meq, x_nm, x_mneq, x_m0, x_mge, x_sub1, x_subN, if_pos, if_neg, if_true, if_false, x_l0, x_l1, x_l2, x_l3, x_l4, x_l5, x_l8, x_l10, x_l16, x_l50, x_l80, x_l128, x_l160, x_l640, x_l25600, E_0, E_1, E_2, E_3, E_4, E_5, E_6, E_7, E_8, E_9, E_10, E_11, E_12, E_13, E_14, E_15, E_16, E_17, E_18, E_19, E_20, E_21, E_22, Es_0, Es_1, Es_2, Es_3, Es_4, Es_5, Es_6, Es_7, Es_8, Es_9, Es_11, Es_12, Es_13, Es_14, Es_15, Es_16, Es_17, Es_18, Es_21, Es_22, Es_10, Es_19, Es_20, Es_10n, Es_19n, Es_20n, n_at_0, n_at_1, n_at_2, n_at_3, n_at_4, n_at_5, n_at_6, n_at_7, n_at_8, n_at_9, n_at_10, n_at_11, n_at_12, n_at_13, n_at_14, n_at_15, n_at_16, n_at_17, n_at_18, n_at_19, n_at_20, n_at_21, n_put_0, n_put_1, n_put_2, n_put_3, n_put_4, n_put_5, n_put_6, n_put_7, n_put_8, n_put_9, n_put_10, n_put_11, n_put_12, n_put_13, n_put_14, n_put_15, n_put_16, n_put_17, n_put_18, n_put_19, n_put_20, n_put_21, n_put_10n, n_put_19n, n_put_20n, n_add_0, n_add_1, n_add_2, n_add_3, n_add_4, n_add_5, n_add_6, n_add_7, n_add_8, n_add_9, n_add_11, n_add_12, n_add_13, n_add_14, n_add_15, n_add_16, n_add_17, n_add_18, n_add_21, n_sub_0, n_sub_1, n_sub_2, n_sub_3, n_sub_4, n_sub_5, n_sub_6, n_sub_7, n_sub_8, n_sub_9, n_sub_11, n_sub_12, n_sub_13, n_sub_14, n_sub_15, n_sub_16, n_sub_17, n_sub_18, n_sub_21, q]
      · simp (disch := omega) only [x_obS, x_oiS, x_osS, x_og1, x_inT, x_nzT, x_boT, x_lt, x_le, x_eq, x_cl, nI_add, pk_mul, x_at, x_st, x_lm1, x_meq, x_nm, x_mneq, x_m0, x_mge, x_sub1, x_subN, if_pos, if_neg, if_true, if_false, x_l0, x_l1, x_l2, x_l3, x_l4, x_l5, x_l8, x_l10, x_l16, x_l50, x_l80, x_l128, x_l160, x_l640, x_l25600, E_0, E_1, E_2, E_3, E_4, E_5, E_6, E_7, E_8, E_9, E_10, E_11, E_12, E_13, E_14, E_15, E_16, E_17, E_18, E_19, E_20, E_21, E_22, Es_0, Es_1, Es_2, Es_3, Es_4, Es_5, Es_6, Es_7, Es_8, Es_9, Es_11, Es_12, Es_13, Es_14, Es_15, Es_16, Es_17, Es_18, Es_21, Es_22, Es_10, Es_19, Es_20, Es_10n, Es_19n, Es_20n, n_at_0, n_at_1, n_at_2, n_at_3, n_at_4, n_at_5, n_at_6, n_at_7, n_at_8, n_at_9, n_at_10, n_at_11, n_at_12, n_at_13, n_at_14, n_at_15, n_at_16, n_at_17, n_at_18, n_at_19, n_at_20, n_at_21, n_put_0, n_put_1, n_put_2, n_put_3, n_put_4, n_put_5, n_put_6, n_put_7, n_put_8, n_put_9, n_put_10, n_put_11, n_put_12, n_put_13, n_put_14, n_put_15, n_put_16, n_put_17, n_put_18, n_put_19, n_put_20, n_put_21, n_put_10n, n_put_19n, n_put_20n, n_add_0, n_add_1, n_add_2, n_add_3, n_add_4, n_add_5, n_add_6, n_add_7, n_add_8, n_add_9, n_add_11, n_add_12, n_add_13, n_add_14, n_add_15, n_add_16, n_add_17, n_add_18, n_add_21, n_sub_0, n_sub_1, n_sub_2, n_sub_3, n_sub_4, n_sub_5, n_sub_6, n_sub_7, n_sub_8, n_sub_9, n_sub_11, n_sub_12, n_sub_13, n_sub_14, n_sub_15, n_sub_16, n_sub_17, n_sub_18, n_sub_21, q]
      · simp (disch := omega) only [x_obS, x_oiS, x_osS, x_og1, x_inT, x_nzT, x_boT, x_lt, x_le, x_eq, x_cl, nI_add, pk_mul, x_at, x_st, x_lm1, x_meq, x_nm, x_mneq, x_m0, x_mge, x_sub1, x_subN, if_pos, if_neg, if_true, if_false, x_l0, x_l1, x_l2, x_l3, x_l4, x_l5, x_l8, x_l10, x_l16, x_l50, x_l80, x_l128, x_l160, x_l640, x_l25600, E_0, E_1, E_2, E_3, E_4, E_5, E_6, E_7, E_8, E_9, E_10, E_11, E_12, E_13, E_14, E_15, E_16, E_17, E_18, E_19, E_20, E_21, E_22, Es_0, Es_1, Es_2, Es_3, Es_4, Es_5, Es_6, Es_7, Es_8, Es_9, Es_11, Es_12, Es_13, Es_14, Es_15, Es_16, Es_17, Es_18, Es_21, Es_22, Es_10, Es_19, Es_20, Es_10n, Es_19n, Es_20n, n_at_0, n_at_1, n_at_2, n_at_3, n_at_4, n_at_5, n_at_6, n_at_7, n_at_8, n_at_9, n_at_10, n_at_11, n_at_12, n_at_13, n_at_14, n_at_15, n_at_16, n_at_17, n_at_18, n_at_19, n_at_20, n_at_21, n_put_0, n_put_1, n_put_2, n_put_3, n_put_4, n_put_5, n_put_6, n_put_7, n_put_8, n_put_9, n_put_10, n_put_11, n_put_12, n_put_13, n_put_14, n_put_15, n_put_16, n_put_17, n_put_18, n_put_19, n_put_20, n_put_21, n_put_10n, n_put_19n, n_put_20n, n_add_0, n_add_1, n_add_2, n_add_3, n_add_4, n_add_5, n_add_6, n_add_7, n_add_8, n_add_9, n_add_11, n_add_12, n_add_13, n_add_14, n_add_15, n_add_16, n_add_17, n_add_18, n_add_21, n_sub_0, n_sub_1, n_sub_2, n_sub_3, n_sub_4, n_sub_5, n_sub_6, n_sub_7, n_sub_8, n_sub_9, n_sub_11, n_sub_12, n_sub_13, n_sub_14, n_sub_15, n_sub_16, n_sub_17, n_sub_18, n_sub_21, q]
    · unfold r_X8_pause
      rw [k_isSwitch F hGM, if_neg hx]
      simp (disch := omega) only [x_obS, x_oiS, x_osS, x_og1, x_inT, x_nzT, x_boT, x_lt, x_le, x_eq, x_cl, nI_add, pk_mul, x_at, x_st, x_lm1, x_meq, x_nm, x_mneq, x_m0, x_mge, x_sub1, x_subN, if_pos, if_neg, if_true, if_false, x_l0, x_l1, x_l2, x_l3, x_l4, x_l5, x_l8, x_l10, x_l16, x_l50, x_l80, x_l128, x_l160, x_l640, x_l25600, EM_0, EM_1, EM_2, EM_3, EM_4, EM_5, EM_6, EM_7, EM_8, EM_9, EM_10, EM_11, EM_12, EM_13, EM_14, EM_15, EM_16, EM_17, EM_18, EMs_0, EMs_1, EMs_2, EMs_3, EMs_4, EMs_5, EMs_7, EMs_8, EMs_9, EMs_10, EMs_11, EMs_13, EMs_14, EMs_16, EMs_17, EMs_18, EMs_6, EMs_12, EMs_15, EMs_6n, EMs_12n, EMs_15n, x_zn, k_goesT, hB2]
