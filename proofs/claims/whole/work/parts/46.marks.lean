/-! who is marked -/
def crd (m : DS) (p : Nat) : Prop := m 10 p ≠ 0 ∧ 4 ≤ sumN (fun j => m 15 ((m 10 p - 1) * 10 + j)) 10
def mks (c r : Nat) (d m : DS) : Nat → DS
  | 0 => m
  | x + 1 => if sl c r d x = 0 then mks c r d m x else if m 10 (pk c r d x) = 0 then mks c r d m x else if sumN (fun j => m 15 ((m 10 (pk c r d x) - 1) * 10 + j)) 10 < 4 then mks c r d m x else dset (mks c r d m x) 13 (pk c r d x) 1
theorem mks_k (c r : Nat) (d m : DS) {k : Nat} (hk : k ≠ 13) : ∀ x, mks c r d m x k = m k := by
  intro x
  induction x with
  | zero => rfl
  | succ x ih =>
    rw [mks]
    split
    · exact ih
    · split
      · exact ih
      · split
        · exact ih
        · rw [← ih]
          funext i
          rw [dset_n _ _ _ _ hk]
theorem mks_13 (c r : Nat) (d m : DS) : ∀ x p, m 13 p < 2 → mks c r d m x 13 p < 2 := by
  intro x p h
  induction x with
  | zero => exact h
  | succ x ih =>
    rw [mks]
    split
    · exact ih
    · split
      · exact ih
      · split
        · exact ih
        · rw [dset_a]
          split
          · decide
          · exact ih
theorem pkx_lt {c r : Nat} {d : DS} (hJ : JI c r d) {x : Nat} (hx : x < c * r * 5) (hs : sl c r d x ≠ 0) : pk c r d x < d 22 4 := by
  have hP0 := ALLP.start hJ (d1 := d) ⟨fun _ _ _ _ _ => rfl, fun _ _ => rfl, hJ.2.1.2⟩ x (Nat.zero_le _) hx hs
  have s10 := sl_le hs
  exact (hJ.head (w := x / 5) (j := sl c r d x - 1) hP0.1 (by omega) hP0.2.2.2.1).1
theorem load_le {m : DS} {w : Nat} (hw : w < 16) (h : ∀ b, b < 160 → m 15 b ≤ 3) : sumN (fun j => m 15 (w * 10 + j)) 10 ≤ 30 := sumN_le (k := 3) (n := 10) fun i hi => h _ (by omega)
theorem n_ro70 (F : Nat) {c r : Nat} {d m : DS} (hF : 1000 ≤ F) (hJ : JI c r d) (hm : JI c r m) (h4 : m 22 4 = d 22 4) (h0 : m 22 0 = cnt c r d (c * r * 5)) (h3 : ∀ i, i < c * r * 5 → sl c r d i ≠ 0 → m 3 (cnt c r d i) = pk c r d i) : ∀ (k n x : Nat), x + k = c * r * 5 → k + 1 ≤ n → r_X7_runOne_b70 F n (nI (cnt c r d x)) (E (mks c r d m x)) = some (0, E (dset (mks c r d m (c * r * 5)) 22 1 (m 22 1 + 1))) := by
  have h16 := Gr16 hJ.1.1.2.2.1
  have hc5 := cnt_le c r d (c * r * 5)
  have sz3 : ∀ b, b < 160 → m 15 b ≤ 3 := fun b hb => by
    have := (hm.2.2.2.1 b hb).1
    have := hm.1.2.2.1
    omega
  intro k
  induction k with
  | zero =>
    intro n x q1 q2
    obtain ⟨n, rfl⟩ : ∃ k, n = k + 1 := ⟨n - 1, by omega⟩
    obtain rfl : x = c * r * 5 := by omega
    have e22 : mks c r d m (c * r * 5) 22 = m 22 := mks_k c r d m (by decide) _
    rw [r_X7_runOne_b70_s, E_22, e22, h0, if_pos (by rw [x_le (by omega) (by omega)]; omega), E_22, e22, x_l1, nI_add, Es_22]
    rfl
  | succ k ih =>
    intro n x q1 q2
    by_cases hs : sl c r d x = 0
    · have e1 : cnt c r d (x + 1) = cnt c r d x := by rw [cnt, if_pos hs]
      have := ih n (x + 1) (by omega) (by omega)
      rw [e1, mks, if_pos hs] at this
      exact this
    · obtain ⟨n, rfl⟩ : ∃ k, n = k + 1 := ⟨n - 1, by omega⟩
      have e1 : cnt c r d (x + 1) = cnt c r d x + 1 := by rw [cnt, if_neg hs]
      have hlt := cnt_lt (show x < c * r * 5 by omega) hs
      have hpn := pkx_lt hJ (show x < c * r * 5 by omega) hs
      have hn80 := hJ.1.2.2.2.2.2
      have e22 : mks c r d m x 22 = m 22 := mks_k c r d m (by decide) _
      have e3 : mks c r d m x 3 = m 3 := mks_k c r d m (by decide) _
      have e10 : mks c r d m x 10 = m 10 := mks_k c r d m (by decide) _
      have e15 : mks c r d m x 15 = m 15 := mks_k c r d m (by decide) _
      have ihh := ih n (x + 1) (by omega) (by omega)
      rw [e1, mks, if_neg hs] at ihh
      rw [r_X7_runOne_b70_s, E_22, e22, h0, if_neg (by rw [x_le (by omega) (by omega)]; omega), n_at_3 F _ (by omega), x_obS, e3, h3 x (by omega) hs]
      unfold r_X7_markInCrowd r_X7_markInCrowd_b41
      rw [n_at_10 F _ (by omega), x_obS, e10]
      by_cases g1 : m 10 (pk c r d x) = 0
      · rw [if_pos g1] at ihh
        rw [g1, if_pos (by rfl), x_obS, x_l1, nI_add]
        exact ihh
      · have g3 := hm.2.2.1 _ (show pk c r d x < m 22 4 by omega)
        have hpl : m 10 (pk c r d x) - 1 < 16 := by omega
        have hl3 := load_le hpl sz3
        rw [if_neg g1] at ihh
        rw [if_neg (by rw [show (-1 : Int32) = mI 0 from rfl, x_meq (by omega) (by decide)]; exact g1), mI_p g1, n_load F hF hpl (by rw [e15]; exact sz3), x_obS, e15]
        by_cases g2 : sumN (fun j => m 15 ((m 10 (pk c r d x) - 1) * 10 + j)) 10 < 4
        · rw [if_pos g2] at ihh
          rw [if_pos (by rw [x_l4, x_lt (by omega) (by decide)]; exact g2), x_obS, x_l1, nI_add]
          exact ihh
        · rw [if_neg g2] at ihh
          rw [if_neg (by rw [x_l4, x_lt (by omega) (by decide)]; exact g2), x_l1, n_put_13 F _ _ (by omega), x_obS, x_obS, nI_add]
          exact ihh
theorem k_t292 (F : Nat) {c r a : Nat} {d m eP : DS} (hF : 1000 ≤ F) (hJ : JI c r d) (hm : JI c r m) (h4 : m 22 4 = d 22 4) (h15 : ∀ i, i < c * r * 5 → eP 15 i = if sl c r d i = 0 then 0 else pk c r d i + 1) (h12 : ∀ p, p < d 22 4 → eP 12 p = m 10 p) (h1 : ∀ b, b < 160 → eP 1 b = m 15 b) : ∀ (k n x : Nat) (eQ : DS), x + k = c * r * 5 → k + 1 ≤ n → (∀ k, k ≠ 14 → eQ k = eP k) → (∀ p, p < d 22 4 → eQ 14 p = mks c r d m x 13 p) → ∃ eR : DS, r_X8_ticks_b292 F n (nI a) (nI (c * r * 5)) (nI x) (EM eQ) = some (nI a, EM (dset eR 18 4 (eP 18 4 + 1))) ∧ (∀ k, k ≠ 14 → eR k = eP k) ∧ ∀ p, p < d 22 4 → eR 14 p = mks c r d m (c * r * 5) 13 p := by
  have h16 := Gr16 hJ.1.1.2.2.1
  have sz3 : ∀ b, b < 160 → m 15 b ≤ 3 := fun b hb => by
    have := (hm.2.2.2.1 b hb).1
    have := hm.1.2.2.1
    omega
  intro k
  induction k with
  | zero =>
    intro n x eQ q1 q2 q3 q4
    obtain ⟨n, rfl⟩ : ∃ k, n = k + 1 := ⟨n - 1, by omega⟩
    obtain rfl : x = c * r * 5 := by omega
    refine ⟨eQ, ?_, q3, q4⟩
    rw [r_X8_ticks_b292_s, if_pos (by rw [x_le (by omega) (by omega)]; omega), EM_18, q3 18 (by decide), x_l1, nI_add, EMs_18]
    rfl
  | succ k ih =>
    intro n x eQ q1 q2 q3 q4
    obtain ⟨n, rfl⟩ : ∃ k, n = k + 1 := ⟨n - 1, by omega⟩
    have skip : mks c r d m (x + 1) = mks c r d m x → ∃ eR : DS, r_X8_ticks_b343 (r_X8_ticks_b292 F n) F (nI a) (nI (c * r * 5)) (nI x) (EM eQ) = some (nI a, EM (dset eR 18 4 (eP 18 4 + 1))) ∧ (∀ k, k ≠ 14 → eR k = eP k) ∧ ∀ p, p < d 22 4 → eR 14 p = mks c r d m (c * r * 5) 13 p := fun z => by
      unfold r_X8_ticks_b343
      rw [x_l1, nI_add]
      exact ih n (x + 1) eQ (by omega) (by omega) q3 (by rw [z]; exact q4)
    have a15 : x_at (EM eQ) 15 (nI x) = mI (eQ 15 x) := by
      show EM eQ 15 (nI x).toNatClampNeg = _
      rw [x_cl (by omega), EM_15]
    rw [r_X8_ticks_b292_s, if_neg (by rw [x_le (by omega) (by omega)]; omega), x_ogT (x_inT (by omega) (by omega)), a15, q3 15 (by decide), h15 x (by omega), x_oiS]
    by_cases hs : sl c r d x = 0
    · rw [if_pos hs, if_pos (by decide)]
      exact skip (by rw [mks, if_pos hs])
    · have hpn := pkx_lt hJ (show x < c * r * 5 by omega) hs
      have hn80 := hJ.1.2.2.2.2.2
      have hp80 : pk c r d x < 80 := by omega
      have hp0 : ¬ nI (pk c r d x) < 0 := nI_pos (by omega)
      have a12 : x_at (EM eQ) 12 (nI (pk c r d x)) = mI (m 10 (pk c r d x)) := by
        show EM eQ 12 (nI (pk c r d x)).toNatClampNeg = _
        rw [x_cl (by omega), EM_12, q3 12 (by decide), h12 _ hpn]
      rw [if_neg hs, mI_s, if_neg hp0, x_ogT (x_inT hp80 (by omega)), a12]
      have g3 := hm.2.2.1 _ (show pk c r d x < m 22 4 by omega)
      by_cases g1 : m 10 (pk c r d x) = 0
      · rw [g1, if_pos (by decide)]
        exact skip (by rw [mks, if_neg hs, if_pos g1])
      · have hpl : m 10 (pk c r d x) - 1 < 16 := by omega
        have hl3 := load_le hpl sz3
        have hsum : sumN (fun j => eQ 1 ((m 10 (pk c r d x) - 1) * 10 + j)) 10 = sumN (fun j => m 15 ((m 10 (pk c r d x) - 1) * 10 + j)) 10 := sumN_c fun i hi => by
          rw [q3 1 (by decide)]
          exact h1 _ (by omega)
        rw [if_neg (by rw [x_l0, x_m0 (by omega)]; exact g1), x_ogT (x_inT hp80 (by omega)), mI_p g1, k_inSwitch F hF hpl (by rw [q3 1 (by decide)]; exact fun b hb => by rw [h1 b hb]; exact sz3 b hb), x_obS, hsum]
        by_cases g2 : sumN (fun j => m 15 ((m 10 (pk c r d x) - 1) * 10 + j)) 10 < 4
        · rw [if_pos (by rw [x_l4, x_lt (by omega) (by decide)]; exact g2)]
          exact skip (by rw [mks, if_neg hs, if_neg g1, if_pos g2])
        · have hst : x_st (EM eQ) 14 (nI (pk c r d x)) (vp_nar .boolean (1 : Int32)) = EM (dset eQ 14 (pk c r d x) 1) := by
            show cset (EM eQ) 14 (nI (pk c r d x)).toNatClampNeg (vp_nar .boolean (nI 1)) = _
            rw [x_cl (by omega), x_zn (by decide), EMs_14]
          rw [if_neg (by rw [x_l4, x_lt (by omega) (by decide)]; exact g2), x_ogT (x_inT hp80 (by omega)), hst, x_osS]
          unfold r_X8_ticks_b343
          rw [x_l1, nI_add]
          refine ih n (x + 1) _ (by omega) (by omega) (fun k hk => ?_) (fun p hp => ?_)
          · rw [← q3 k hk]
            funext i
            rw [dset_n _ _ _ _ hk]
          · rw [mks, if_neg hs, if_neg g1, if_neg g2, dset_a, dset_a]
            by_cases q : p = pk c r d x
            · rw [if_pos ⟨rfl, q⟩, if_pos ⟨rfl, q⟩]
            · rw [if_neg (fun z => q z.2), if_neg (fun z => q z.2)]
              exact q4 p hp
