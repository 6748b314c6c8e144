/-! credits come back -/
theorem sumN_u {f g : Nat → Nat} {i : Nat} : ∀ {n : Nat}, i < n → (∀ j, j ≠ i → g j = f j) → sumN g n + f i = sumN f n + g i := by
  intro n
  induction n with
  | zero =>
    intro h
    omega
  | succ n ih =>
    intro h h2
    show sumN g n + g n + f i = sumN f n + f n + g i
    by_cases hn : i = n
    · subst hn
      have : sumN g i = sumN f i := sumN_c fun j hj => h2 j (by omega)
      omega
    · have := ih (by omega) h2
      have := h2 n (by omega)
      omega
theorem sumN_ge (f : Nat → Nat) {i : Nat} : ∀ {n : Nat}, i < n → f i ≤ sumN f n := by
  intro n
  induction n with
  | zero =>
    intro h
    omega
  | succ n ih =>
    intro h
    show f i ≤ sumN f n + f n
    by_cases hn : i = n
    · subst hn
      omega
    · have := ih (by omega)
      omega
def CB (d d' : DS) (b : Nat) : Prop := (∀ i, i < 160 → d' 16 i = if i < b then d 16 i + d 17 (i * 4 + d 22 1 % 4) else d 16 i) ∧ (∀ i, i < 640 → d' 17 i = if i / 4 < b ∧ i % 4 = d 22 1 % 4 then 0 else d 17 i) ∧ d' 22 8 = sumN (d' 17) 640 ∧ (∀ k, k ≠ 16 → k ≠ 17 → k ≠ 22 → d' k = d k) ∧ ∀ i, i ≠ 8 → d' 22 i = d 22 i
theorem n_cbL (F : Nat) {d : DS} (ht : d 22 1 < 30000) (hs : ∀ b, b < 160 → d 16 b + d 17 (b * 4 + d 22 1 % 4) ≤ 100) (hsum : sumN (d 17) 640 < 100000) : ∀ (m n b : Nat) (d1 : DS), b + m = 160 → m + 1 ≤ n → CB d d1 b → ∃ d', r_X2_comeBack_b10 F n (nI (d 22 1)) (nI b) (E d1) = some (0, E d') ∧ CB d d' 160 := by
  intro m
  induction m with
  | zero =>
    intro n b d1 h1 h2 h3
    obtain ⟨n, rfl⟩ : ∃ k, n = k + 1 := ⟨n - 1, by omega⟩
    obtain rfl : b = 160 := by omega
    refine ⟨d1, ?_, h3⟩
    rw [r_X2_comeBack_b10_s]
    simp (disch := omega) only [x_obS, x_oiS, x_osS, x_og1, x_inT, x_nzT, x_boT, x_lt, x_le, x_eq, x_cl, nI_add, pk_mul, x_at, x_st, x_lm1, x_meq, x_nm, x_mneq, x_m0, x_mge, x_sub1, x_subN, if_pos, if_neg, if_true, if_false, x_l0, x_l1, x_l2, x_l3, x_l4, x_l5, x_l8, x_l10, x_l16, x_l50, x_l80, x_l128, x_l160, x_l640, x_l25600, E_0, E_1, E_2, E_3, E_4, E_5, E_6, E_7, E_8, E_9, E_10, E_11, E_12, E_13, E_14, E_15, E_16, E_17, E_18, E_19, E_20, E_21, E_22, Es_0, Es_1, Es_2, Es_3, Es_4, Es_5, Es_6, Es_7, Es_8, Es_9, Es_11, Es_12, Es_13, Es_14, Es_15, Es_16, Es_17, Es_18, Es_21, Es_22, Es_10, Es_19, Es_20, Es_10n, Es_19n, Es_20n, n_at_0, n_at_1, n_at_2, n_at_3, n_at_4, n_at_5, n_at_6, n_at_7, n_at_8, n_at_9, n_at_10, n_at_11, n_at_12, n_at_13, n_at_14, n_at_15, n_at_16, n_at_17, n_at_18, n_at_19, n_at_20, n_at_21, n_put_0, n_put_1, n_put_2, n_put_3, n_put_4, n_put_5, n_put_6, n_put_7, n_put_8, n_put_9, n_put_10, n_put_11, n_put_12, n_put_13, n_put_14, n_put_15, n_put_16, n_put_17, n_put_18, n_put_19, n_put_20, n_put_21, n_put_10n, n_put_19n, n_put_20n, n_add_0, n_add_1, n_add_2, n_add_3, n_add_4, n_add_5, n_add_6, n_add_7, n_add_8, n_add_9, n_add_11, n_add_12, n_add_13, n_add_14, n_add_15, n_add_16, n_add_17, n_add_18, n_add_21, n_sub_0, n_sub_1, n_sub_2, n_sub_3, n_sub_4, n_sub_5, n_sub_6, n_sub_7, n_sub_8, n_sub_9, n_sub_11, n_sub_12, n_sub_13, n_sub_14, n_sub_15, n_sub_16, n_sub_17, n_sub_18, n_sub_21]
  | succ m ih =>
    intro n b d1 h1 h2 h3
    obtain ⟨n, rfl⟩ : ∃ k, n = k + 1 := ⟨n - 1, by omega⟩
    obtain ⟨c1, c2, c3, c4, c5⟩ := h3
    obtain ⟨s, hsl⟩ : ∃ s, s = b * 4 + d 22 1 % 4 := ⟨_, rfl⟩
    have hm4 : d 22 1 % 4 < 4 := Nat.mod_lt _ (by decide)
    have hs6 : s < 640 := by omega
    have q17 := c2 s hs6
    rw [if_neg (by omega)] at q17
    have q16 := c1 b (by omega)
    rw [if_neg (by omega)] at q16
    have hge := sumN_ge (d1 17) hs6
    have h100 := hs b (by omega)
    rw [← hsl] at h100
    have hu := sumN_u (f := d1 17) (g := dset d1 17 s 0 17) hs6 (fun j hj => dset_o _ _ _ _ hj)
    rw [dset_s] at hu
    obtain ⟨d', f1, f2⟩ := ih n (b + 1) (dset (dset (dset d1 16 b (d1 16 b + d1 17 s)) 17 s 0) 22 8 (d1 22 8 - d1 17 s)) (by omega) (by omega) (by
      refine ⟨fun i hi => ?_, fun i hi => ?_, ?_, fun k k1 k2 k3 => ?_, fun i hi => ?_⟩
      · show dset d1 16 b (d1 16 b + d1 17 s) 16 i = _
        rw [dset_a]
        by_cases hib : i = b
        · subst hib
          rw [if_pos ⟨rfl, rfl⟩, if_pos (by omega), q16, q17, hsl]
        · rw [if_neg (fun z => hib z.2), c1 i hi]
          by_cases hlt : i < b
          · rw [if_pos hlt, if_pos (by omega)]
          · rw [if_neg hlt, if_neg (by omega)]
      · show dset d1 17 s 0 17 i = _
        rw [dset_a]
        by_cases his : i = s
        · subst his
          rw [if_pos ⟨rfl, rfl⟩, if_pos (by omega)]
        · rw [if_neg (fun z => his z.2), c2 i hi]
          by_cases hlt : i / 4 < b ∧ i % 4 = d 22 1 % 4
          · rw [if_pos hlt, if_pos ⟨by omega, hlt.2⟩]
          · rw [if_neg hlt, if_neg (by omega)]
      · show d1 22 8 - d1 17 s = sumN (dset d1 17 s 0 17) 640
        omega
      · rw [← c4 k k1 k2 k3]
        funext j
        rw [dset_n _ _ _ _ k3, dset_n _ _ _ _ k2, dset_n _ _ _ _ k1]
      · rw [← c5 i hi]
        show dset _ 22 8 (d1 22 8 - d1 17 s) 22 i = d1 22 i
        rw [dset_o _ _ _ _ hi]
        rfl)
    refine ⟨d', ?_, f2⟩
    rw [r_X2_comeBack_b10_s]
    simp (disch := omega) only [x_obS, x_oiS, x_osS, x_og1, x_inT, x_nzT, x_boT, x_lt, x_le, x_eq, x_cl, nI_add, pk_mul, x_at, x_st, x_lm1, x_meq, x_nm, x_mneq, x_m0, x_mge, x_sub1, x_subN, if_pos, if_neg, if_true, if_false, x_l0, x_l1, x_l2, x_l3, x_l4, x_l5, x_l8, x_l10, x_l16, x_l50, x_l80, x_l128, x_l160, x_l640, x_l25600, E_0, E_1, E_2, E_3, E_4, E_5, E_6, E_7, E_8, E_9, E_10, E_11, E_12, E_13, E_14, E_15, E_16, E_17, E_18, E_19, E_20, E_21, E_22, Es_0, Es_1, Es_2, Es_3, Es_4, Es_5, Es_6, Es_7, Es_8, Es_9, Es_11, Es_12, Es_13, Es_14, Es_15, Es_16, Es_17, Es_18, Es_21, Es_22, Es_10, Es_19, Es_20, Es_10n, Es_19n, Es_20n, n_at_0, n_at_1, n_at_2, n_at_3, n_at_4, n_at_5, n_at_6, n_at_7, n_at_8, n_at_9, n_at_10, n_at_11, n_at_12, n_at_13, n_at_14, n_at_15, n_at_16, n_at_17, n_at_18, n_at_19, n_at_20, n_at_21, n_put_0, n_put_1, n_put_2, n_put_3, n_put_4, n_put_5, n_put_6, n_put_7, n_put_8, n_put_9, n_put_10, n_put_11, n_put_12, n_put_13, n_put_14, n_put_15, n_put_16, n_put_17, n_put_18, n_put_19, n_put_20, n_put_21, n_put_10n, n_put_19n, n_put_20n, n_add_0, n_add_1, n_add_2, n_add_3, n_add_4, n_add_5, n_add_6, n_add_7, n_add_8, n_add_9, n_add_11, n_add_12, n_add_13, n_add_14, n_add_15, n_add_16, n_add_17, n_add_18, n_add_21, n_sub_0, n_sub_1, n_sub_2, n_sub_3, n_sub_4, n_sub_5, n_sub_6, n_sub_7, n_sub_8, n_sub_9, n_sub_11, n_sub_12, n_sub_13, n_sub_14, n_sub_15, n_sub_16, n_sub_17, n_sub_18, n_sub_21, n_slotOf, ← hsl, dset_n]
    exact f1
theorem JJ.cs3 {c r : Nat} {d e : DS} (hJ : JJ c r d e) {b : Nat} (hb : b < 160) : d 16 b + cs d b ≤ 100 ∧ cs d b ≤ 3 := by
  have i7 := hJ.2.2.2.2.2.2.1
  have h1 := i7.1 b hb
  have h6 := hJ.1.2.2.1
  by_cases h8 : b % 10 < 8
  · have := i7.2 b hb h8
    omega
  · have := hJ.2.2.2.2.2.2.2.1.1.2 b hb (by omega)
    omega
theorem cs_ge (d : DS) (b k : Nat) (hk : k < 4) : d 17 (b * 4 + k) ≤ cs d b := by
  unfold cs
  rcases (show k = 0 ∨ k = 1 ∨ k = 2 ∨ k = 3 by omega) with rfl | rfl | rfl | rfl
  · rw [Nat.add_zero]
    omega
  · omega
  · omega
  · omega
theorem sumN_le {f : Nat → Nat} {k : Nat} : ∀ {n : Nat}, (∀ i, i < n → f i ≤ k) → sumN f n ≤ k * n := by
  intro n
  induction n with
  | zero => exact fun _ => Nat.zero_le _
  | succ n ih =>
    intro h
    show sumN f n + f n ≤ k * (n + 1)
    have := ih (fun i hi => h i (by omega))
    have := h n (by omega)
    rw [Nat.mul_add]
    omega
theorem n_comeBack (F : Nat) {c r : Nat} {d e : DS} (hJ : JJ c r d e) (hF : 1000 ≤ F) : ∃ d', r_X2_comeBack F (nI (d 22 1)) (E d) = some (0, E d') ∧ CB d d' 160 := by
  have hsum := hJ.2.2.2.2.2.2.2.1.1.1
  have h17 : ∀ i, i < 640 → d 17 i ≤ 3 := fun i hi => by
    have h1 := cs_ge d (i / 4) (i % 4) (by omega)
    have h2 := (hJ.cs3 (b := i / 4) (by omega)).2
    rw [show i / 4 * 4 + i % 4 = i by omega] at h1
    omega
  have hs3 := sumN_le h17
  unfold r_X2_comeBack
  have hm4 : d 22 1 % 4 < 4 := Nat.mod_lt _ (by decide)
  by_cases h0 : d 22 8 = 0
  · have hb17 : ∀ i, i < 640 → d 17 i = 0 := fun i hi => by
      have := sumN_ge (d 17) hi
      omega
    refine ⟨d, ?_, fun i hi => ?_, fun i hi => ?_, hsum, fun _ _ _ _ => rfl, fun _ _ => rfl⟩
    · rw [if_pos (by rw [E_22, h0]; rfl)]
    · rw [if_pos hi, hb17 _ (by omega), Nat.add_zero]
    · rw [hb17 i hi]
      split <;> rfl
  · rw [if_neg (by rw [E_22, x_l0, x_eq (by omega) (by omega)]; exact h0)]
    refine n_cbL F hJ.1.2.2.2.2.1 (fun b hb => ?_) (by omega) 160 F 0 d (by omega) (by omega) ⟨fun i hi => by rw [if_neg (by omega)], fun i hi => by rw [if_neg (by omega)], hsum, fun _ _ _ _ => rfl, fun _ _ => rfl⟩
    have h1 := cs_ge d b (d 22 1 % 4) hm4
    have h2 := (hJ.cs3 hb).1
    omega
def CBM (e e' : DS) (x : Nat) : Prop := (∀ i, i < 128 → e' 2 i = if i < x then e 2 i + e 3 (5 * i + e 18 4 % 5) else e 2 i) ∧ (∀ i, i < 640 → e' 3 i = if i / 5 < x ∧ i % 5 = e 18 4 % 5 then 0 else e 3 i) ∧ ∀ k, k ≠ 2 → k ≠ 3 → e' k = e k
theorem k_cbL (F : Nat) {e : DS} (ht : e 18 4 < 30000) : ∀ (m n x : Nat) (e1 : DS), x + m = 128 → m + 1 ≤ n → CBM e e1 x → ∃ e', r_X8_comeBack_b2 F n (nI x) (EM e1) = some (0, EM e') ∧ CBM e e' 128 := by
  intro m
  induction m with
  | zero =>
    intro n x e1 h1 h2 h3
    obtain ⟨n, rfl⟩ : ∃ k, n = k + 1 := ⟨n - 1, by omega⟩
    obtain rfl : x = 128 := by omega
    refine ⟨e1, ?_, h3⟩
    rw [r_X8_comeBack_b2_s]
    simp (disch := omega) only [x_obS, x_oiS, x_osS, x_og1, x_inT, x_nzT, x_boT, x_lt, x_le, x_eq, x_cl, nI_add, pk_mul, x_at, x_st, x_lm1, x_meq, x_nm, x_mneq, x_m0, x_mge, x_sub1, x_subN, if_pos, if_neg, if_true, if_false, x_l0, x_l1, x_l2, x_l3, x_l4, x_l5, x_l8, x_l10, x_l16, x_l50, x_l80, x_l128, x_l160, x_l640, x_l25600, EM_0, EM_1, EM_2, EM_3, EM_4, EM_5, EM_6, EM_7, EM_8, EM_9, EM_10, EM_11, EM_12, EM_13, EM_14, EM_15, EM_16, EM_17, EM_18, EMs_0, EMs_1, EMs_2, EMs_3, EMs_4, EMs_5, EMs_7, EMs_8, EMs_9, EMs_10, EMs_11, EMs_13, EMs_14, EMs_16, EMs_17, EMs_18, EMs_6, EMs_12, EMs_15, EMs_6n, EMs_12n, EMs_15n, x_zn]
  | succ m ih =>
    intro n x e1 h1 h2 h3
    obtain ⟨n, rfl⟩ : ∃ k, n = k + 1 := ⟨n - 1, by omega⟩
    obtain ⟨c1, c2, c3⟩ := h3
    obtain ⟨s, hsl⟩ : ∃ s, s = 5 * x + e 18 4 % 5 := ⟨_, rfl⟩
    have hm5 : e 18 4 % 5 < 5 := Nat.mod_lt _ (by decide)
    have hs6 : s < 640 := by omega
    have q3 := c2 s hs6
    rw [if_neg (by omega)] at q3
    have q2 := c1 x (by omega)
    rw [if_neg (by omega)] at q2
    have h18 : e1 18 4 = e 18 4 := by rw [c3 18 (by decide) (by decide)]
    obtain ⟨e', f1, f2⟩ := ih n (x + 1) (dset (dset e1 2 x (e1 2 x + e1 3 s)) 3 s 0) (by omega) (by omega) (by
      refine ⟨fun i hi => ?_, fun i hi => ?_, fun k k1 k2 => ?_⟩
      · show dset e1 2 x (e1 2 x + e1 3 s) 2 i = _
        rw [dset_a]
        by_cases hib : i = x
        · subst hib
          rw [if_pos ⟨rfl, rfl⟩, if_pos (by omega), q2, q3, hsl]
        · rw [if_neg (fun z => hib z.2), c1 i hi]
          by_cases hlt : i < x
          · rw [if_pos hlt, if_pos (by omega)]
          · rw [if_neg hlt, if_neg (by omega)]
      · show dset e1 3 s 0 3 i = _
        rw [dset_a]
        by_cases his : i = s
        · subst his
          rw [if_pos ⟨rfl, rfl⟩, if_pos (by omega)]
        · rw [if_neg (fun z => his z.2), c2 i hi]
          by_cases hlt : i / 5 < x ∧ i % 5 = e 18 4 % 5
          · rw [if_pos hlt, if_pos ⟨by omega, hlt.2⟩]
          · rw [if_neg hlt, if_neg (by omega)]
      · rw [← c3 k k1 k2]
        funext j
        rw [dset_n _ _ _ _ k2, dset_n _ _ _ _ k1])
    refine ⟨e', ?_, f2⟩
    have e5 : x_rem (EM e1 18 4) (5 : Int32) = nI (e 18 4 % 5) := by
      rw [EM_18, h18, x_r5 (by omega)]
    rw [r_X8_comeBack_b2_s, e5]
    have e6 : x_rem (nI (e1 18 4)) (nI 5) = nI (e 18 4 % 5) := by
      rw [h18]
      exact x_remN (by omega) (by decide) (by decide)
    simp (disch := omega) only [x_obS, x_oiS, x_osS, x_og1, x_inT, x_nzT, x_boT, x_lt, x_le, x_eq, x_cl, nI_add, pk_mul, x_at, x_st, x_lm1, x_meq, x_nm, x_mneq, x_m0, x_mge, x_sub1, x_subN, if_pos, if_neg, if_true, if_false, x_l0, x_l1, x_l2, x_l3, x_l4, x_l5, x_l8, x_l10, x_l16, x_l50, x_l80, x_l128, x_l160, x_l640, x_l25600, EM_0, EM_1, EM_2, EM_3, EM_4, EM_5, EM_6, EM_7, EM_8, EM_9, EM_10, EM_11, EM_12, EM_13, EM_14, EM_15, EM_16, EM_17, EM_18, EMs_0, EMs_1, EMs_2, EMs_3, EMs_4, EMs_5, EMs_7, EMs_8, EMs_9, EMs_10, EMs_11, EMs_13, EMs_14, EMs_16, EMs_17, EMs_18, EMs_6, EMs_12, EMs_15, EMs_6n, EMs_12n, EMs_15n, x_zn, e6, ← hsl, dset_n]
    exact f1
/-! the middle of a tick: what came back is in its place, nothing has moved -/
def RLm (c r : Nat) (d e : DS) : Prop := ∀ w, w < c * r → ∀ o, o < 4 → nb c r w o ≠ 0 → ∀ l, l < 2 → e 2 (lk w o l) = d 16 (bf (nb c r w o - 1) o l) ∧ e 3 (5 * lk w o l + d 22 1 % 5) = 0 ∧ ∀ t, d 22 1 + 1 ≤ t → t < d 22 1 + 5 → e 3 (5 * lk w o l + t % 5) = d 17 (bf (nb c r w o - 1) o l * 4 + t % 4)
/-- what holds of the system's state alone -/
def JI (c r : Nat) (d : DS) : Prop := I1 c r d ∧ I2 d ∧ I3 c r d ∧ I4 d ∧ I5 d ∧ I6 c r d ∧ I7 d ∧ I8 c r d
/-- as RA, but for how many went out: a run counts them at its end -/
def RA2 (d e : DS) : Prop := e 18 0 = d 22 2 ∧ e 18 1 = d 22 3 ∧ e 18 2 = d 22 6 ∧ e 18 3 = d 22 7 ∧ e 18 4 = d 22 1 ∧ e 18 5 = d 22 4
def JM (c r : Nat) (d e : DS) : Prop := JI c r d ∧ RA2 d e ∧ RB d e ∧ RP d e ∧ RQ d e ∧ RLm c r d e
theorem cs_CB {d d' : DS} (h : CB d d' 160) {b : Nat} (hb : b < 160) : cs d' b + d 17 (b * 4 + d 22 1 % 4) = cs d b ∧ d' 16 b = d 16 b + d 17 (b * 4 + d 22 1 % 4) := by
  obtain ⟨c1, c2, c3, c4, c5⟩ := h
  refine ⟨?_, ?_⟩
  · unfold cs
    rw [c2 _ (by omega), c2 _ (by omega), c2 _ (by omega), c2 _ (by omega)]
    have hm : d 22 1 % 4 = 0 ∨ d 22 1 % 4 = 1 ∨ d 22 1 % 4 = 2 ∨ d 22 1 % 4 = 3 := by omega
    generalize d 22 1 % 4 = q at *
    rcases hm with rfl | rfl | rfl | rfl
    · rw [if_pos (by omega), if_neg (by omega), if_neg (by omega), if_neg (by omega)]
      simp only [Nat.add_zero]
      omega
    · rw [if_neg (by omega), if_pos (by omega), if_neg (by omega), if_neg (by omega)]
      omega
    · rw [if_neg (by omega), if_neg (by omega), if_pos (by omega), if_neg (by omega)]
      omega
    · rw [if_neg (by omega), if_neg (by omega), if_neg (by omega), if_pos (by omega)]
      omega
  · rw [c1 b hb, if_pos hb]
theorem JJ.come {c r : Nat} {d e d' e' : DS} (hJ : JJ c r d e) (h : CB d d' 160) (hM : CBM e e' 128) : JM c r d' e' := by
  have h16 := Gr16 hJ.1.1.2.2.1
  have hN := hJ.1.1.2.2.1
  have hcs := fun b hb => cs_CB h (b := b) hb
  have hJc := fun b hb => hJ.cs3 (b := b) hb
  obtain ⟨i1, ⟨i2, i2'⟩, i3, i4, i5, i6, ⟨i7, i7'⟩, ⟨i8, i8'⟩, ra, rb, rp, rq, rl⟩ := hJ
  obtain ⟨c1, c2, c3, c4, c5⟩ := h
  obtain ⟨m1, m2, m3⟩ := hM
  have z22 : d' 22 1 = d 22 1 ∧ d' 22 2 = d 22 2 ∧ d' 22 3 = d 22 3 ∧ d' 22 4 = d 22 4 ∧ d' 22 5 = d 22 5 ∧ d' 22 6 = d 22 6 ∧ d' 22 7 = d 22 7 := ⟨c5 1 (by decide), c5 2 (by decide), c5 3 (by decide), c5 4 (by decide), c5 5 (by decide), c5 6 (by decide), c5 7 (by decide)⟩
  obtain ⟨s1, s2, s3, s4, s5, s6, s7⟩ := z22
  have kd : ∀ k, k ≠ 16 → k ≠ 17 → k ≠ 22 → d' k = d k := c4
  have r0 := kd 0 (by decide) (by decide) (by decide)
  have r1 := kd 1 (by decide) (by decide) (by decide)
  have r4 := kd 4 (by decide) (by decide) (by decide)
  have r5 := kd 5 (by decide) (by decide) (by decide)
  have r6 := kd 6 (by decide) (by decide) (by decide)
  have r7 := kd 7 (by decide) (by decide) (by decide)
  have r8 := kd 8 (by decide) (by decide) (by decide)
  have r9 := kd 9 (by decide) (by decide) (by decide)
  have r10 := kd 10 (by decide) (by decide) (by decide)
  have r11 := kd 11 (by decide) (by decide) (by decide)
  have r12 := kd 12 (by decide) (by decide) (by decide)
  have r13 := kd 13 (by decide) (by decide) (by decide)
  have r14 := kd 14 (by decide) (by decide) (by decide)
  have r15 := kd 15 (by decide) (by decide) (by decide)
  have r18 := kd 18 (by decide) (by decide) (by decide)
  have r19 := kd 19 (by decide) (by decide) (by decide)
  have me : ∀ k, k ≠ 2 → k ≠ 3 → e' k = e k := m3
  have t0 := me 0 (by decide) (by decide)
  have t1 := me 1 (by decide) (by decide)
  have t4 := me 4 (by decide) (by decide)
  have t5 := me 5 (by decide) (by decide)
  have t6 := me 6 (by decide) (by decide)
  have t7 := me 7 (by decide) (by decide)
  have t8 := me 8 (by decide) (by decide)
  have t9 := me 9 (by decide) (by decide)
  have t10 := me 10 (by decide) (by decide)
  have t11 := me 11 (by decide) (by decide)
  have t12 := me 12 (by decide) (by decide)
  have t13 := me 13 (by decide) (by decide)
  have t14 := me 14 (by decide) (by decide)
  have t18 := me 18 (by decide) (by decide)
  have hm4 : d 22 1 % 4 < 4 := Nat.mod_lt _ (by decide)
  have b3 : ∀ b, b < 160 → d 16 b + d 17 (b * 4 + d 22 1 % 4) ≤ 3 := fun b hb => by
    have h1 := cs_ge d b (d 22 1 % 4) hm4
    have h2 := i7 b hb
    have h6 := i1.2.2.1
    by_cases h8 : b % 10 < 8
    · have := i7' b hb h8
      omega
    · have := i8.2 b hb (by omega)
      omega
  refine ⟨⟨⟨⟨s2.trans i1.1.1, s3.trans i1.1.2.1, hN, by rw [r4, r5]; exact i1.1.2.2.2⟩, by rw [s1, s4, s6, s7]; exact i1.2⟩, ⟨by rw [r0, r18, r19, s1]; exact i2, by rw [r1]; exact i2'⟩, ?_, ?_, ?_, ?_, ⟨fun b hb => ?_, fun b hb h8 => ?_⟩, ⟨⟨c3, fun b hb h8 => ?_⟩, fun w hw i hi l hl h0 => ?_⟩⟩, ?_, ?_, ?_, ?_, fun w hw o ho h0 l hl => ?_⟩
  · unfold I3
    rw [s4, r6, r7, r8, r9, r10, r11, r13]
    exact i3
  · unfold I4
    rw [s4, s6, r8, r10, r11, r14, r15]
    exact i4
  · unfold I5 pb
    rw [s4, r8, r10, r11, r14, r15]
    exact i5
  · unfold I6
    rw [s4, r10, r11]
    exact i6
  · rw [(hcs b hb).2]
    exact b3 b hb
  · have := (hcs b hb)
    have := i7' b hb h8
    rw [r15, s6]
    omega
  · have := (hcs b hb)
    have := i8.2 b hb h8
    omega
  · have hb9 : bf w i l < 160 := by
      show w * 10 + 2 * i + l < 160
      omega
    have := (hcs _ hb9)
    have := i8' w hw i hi l hl h0
    rw [r15, s6]
    omega
  · unfold RA2
    rw [t18, s1, s2, s3, s4, s6, s7]
    exact ⟨ra.1, ra.2.1, ra.2.2.1, ra.2.2.2.1, ra.2.2.2.2.1, ra.2.2.2.2.2.1⟩
  · unfold RB
    rw [t7, t5, t6, t4, r0, r18, r19, r1]
    exact rb
  · unfold RP
    rw [s4, t8, t9, t10, t11, t12, t13, t14, r6, r7, r8, r9, r10, r12, r13]
    exact rp
  · unfold RQ
    rw [t0, t1, r14, r15]
    exact rq
  · have hb1 := nb_lt (dir := o) hN hw
    have hb9 : bf (nb c r w o - 1) o l < 160 := by
      show (nb c r w o - 1) * 10 + 2 * o + l < 160
      omega
    have hb8 : lk w o l < 128 := by
      show w * 8 + 2 * o + l < 128
      omega
    obtain ⟨g1, g2⟩ := rl w hw o ho h0 l hl
    have e4 : e 18 4 = d 22 1 := ra.2.2.2.2.1
    have g3 := g2 (d 22 1) (by omega) (by omega)
    unfold cm at g3
    rw [if_pos (by omega)] at g3
    rw [(hcs _ hb9).2, s1]
    generalize bf (nb c r w o - 1) o l = b at *
    generalize lk w o l = x at *
    have hm5 : d 22 1 % 5 < 5 := Nat.mod_lt _ (by decide)
    refine ⟨?_, ?_, fun t ht1 ht2 => ?_⟩
    · rw [m1 x hb8, if_pos hb8, e4, g1, g3]
    · rw [m2 _ (by omega), if_pos (by rw [e4]; omega)]
    · have g4 := g2 t (by omega) (by omega)
      have h5t : t % 5 < 5 := Nat.mod_lt _ (by decide)
      have h4t : t % 4 < 4 := Nat.mod_lt _ (by decide)
      rw [m2 _ (by omega), if_neg (by rw [e4]; omega), c2 _ (by omega), g4]
      unfold cm
      by_cases hl4 : t < d 22 1 + 4
      · rw [if_pos hl4, if_neg (by omega)]
      · rw [if_neg hl4, if_pos (by omega)]
theorem k_comeBack (F : Nat) {e : DS} (hF : 1000 ≤ F) (ht : e 18 4 < 30000) : ∃ e', r_X8_comeBack F (EM e) = some (0, EM e') ∧ CBM e e' 128 :=
  k_cbL F ht 128 F 0 e (by omega) (by omega) ⟨fun i hi => by rw [if_neg (by omega)], fun i hi => by rw [if_neg (by omega)], fun _ _ _ => rfl⟩
