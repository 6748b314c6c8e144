/-! the rows of the system, read and written -/
theorem rl_le : ∀ k, k < 22 → rl k ≤ 640 := by decide
theorem n_at {k i : Nat} (F : Nat) (d : DS) (hk : k < 22) (hi : i < rl k) : r_X5_at k F (nI i) (E d) = some (E d k i, E d) := by
  have h6 := rl_le k hk
  have h0 : ¬ nI i < 0 := nI_pos (by omega)
  have h1 : ¬ Int32.ofNat (rl k) ≤ nI i := nI_ge hi (by omega)
  unfold r_X5_at r_X5_at_b23
  rw [if_neg h0, if_neg h1, x_ogT (x_inT hi (by omega))]
  show some (E d k (nI i).toNatClampNeg, E d) = _
  rw [x_cl (by omega)]
theorem n_put {k i : Nat} (F : Nat) (s : CS) (w : Int32) (hk : k < 22) (hi : i < rl k) : r_X5_put k F (nI i) w s = some (0, cset s k i w) := by
  have h6 := rl_le k hk
  have h0 : ¬ nI i < 0 := nI_pos (by omega)
  have h1 : ¬ Int32.ofNat (rl k) ≤ nI i := nI_ge hi (by omega)
  unfold r_X5_put r_X5_put_b20
  rw [if_neg h0, if_neg h1, x_ogT (x_inT hi (by omega))]
  show some ((0 : Int32), cset s k (nI i).toNatClampNeg w) = _
  rw [x_cl (by omega)]
theorem n_add {k i : Nat} (F : Nat) (d : DS) (w : Int32) (hk : k < 22) (hi : i < rl k) : r_X5_add k F (nI i) w (E d) = some (0, cset (E d) k i (E d k i + w)) := by
  unfold r_X5_add
  rw [n_at F d hk hi, x_obS, n_put F _ _ hk hi, x_obS]
/-- a row filled -/
def cfill (s : CS) (k n : Nat) (w : Int32) : CS := fun k' i => if k' = k ∧ i < n then w else s k' i
theorem cfill_s (s : CS) (k n : Nat) (w : Int32) : cset (cfill s k n w) k n w = cfill s k (n + 1) w := by
  funext k' j
  unfold cset cfill
  by_cases h : k' = k
  · subst h
    by_cases h2 : j = n
    · subst h2
      simp [upd]
    · by_cases h3 : j < n
      · simp [upd, h2, h3, show j < n + 1 by omega]
      · simp [upd, h2, h3, show ¬ j < n + 1 by omega]
  · simp [h]
theorem cfill_0 (s : CS) (k : Nat) (w : Int32) : cfill s k 0 w = s := by
  funext k' j
  simp [cfill]
theorem n_fillL {k : Nat} (F : Nat) (w : Int32) (s : CS) (hk : k < 22) : ∀ (n i : Nat), i ≤ rl k → rl k + 1 ≤ i + n → r_X5_fill_b2 k F n w (nI i) (cfill s k i w) = some (0, cfill s k (rl k) w) := by
  have h6 := rl_le k hk
  intro n
  induction n with
  | zero =>
    intro i h1 h2
    omega
  | succ n ih =>
    intro i h1 h2
    rw [r_X5_fill_b2_s, show Int32.ofNat (rl k) = nI (rl k) from rfl]
    by_cases h : i = rl k
    · subst h
      rw [if_pos (nI_le (Nat.le_refl _) (by omega))]
    · rw [if_neg (nI_ge (by omega) (by omega)), x_ogT (x_inT (by omega) (by omega)), x_osS]
      show r_X5_fill_b2 k F n w (nI i + 1) (cset (cfill s k i w) k (nI i).toNatClampNeg w) = _
      rw [x_cl (by omega), cfill_s, nI_1]
      exact ih (i + 1) (by omega) (by omega)
theorem n_fill {k : Nat} (F : Nat) (w : Int32) (s : CS) (hk : k < 22) (hF : 1000 ≤ F) : r_X5_fill k F w s = some (0, cfill s k (rl k) w) := by
  have h6 := rl_le k hk
  have h := n_fillL F w s hk F 0 (by omega) (by omega)
  rw [cfill_0] at h
  exact h
/-- the same over naturals -/
def dfill (d : DS) (k n v : Nat) : DS := fun k' i => if k' = k ∧ i < n then v else d k' i
theorem E_fill (d : DS) {k : Nat} (h : mC k = false) (n v : Nat) : cfill (E d) k n (nI v) = E (dfill d k n v) := by
  funext k' i
  unfold cfill E dfill
  by_cases h1 : k' = k ∧ i < n
  · obtain ⟨rfl, h2⟩ := h1
    simp [h, h2]
  · simp only [if_neg h1]
theorem E_fillm (d : DS) {k : Nat} (h : mC k = true) (n v : Nat) : cfill (E d) k n (mI v) = E (dfill d k n v) := by
  funext k' i
  unfold cfill E dfill
  by_cases h1 : k' = k ∧ i < n
  · obtain ⟨rfl, h2⟩ := h1
    simp [h, h2]
  · simp only [if_neg h1]
theorem n_at_0 (F : Nat) (d : DS) {i : Nat} (hi : i < 16) : r_X5_at 0 F (nI i) (E d) = some (nI (d 0 i), E d) := n_at F d (by decide) hi
theorem n_put_0 (F : Nat) (d : DS) {i : Nat} (v : Nat) (hi : i < 16) : r_X5_put 0 F (nI i) (nI v) (E d) = some (0, E (dset d 0 i v)) := by
  rw [n_put F _ _ (by decide) hi, Es_0]
theorem n_add_0 (F : Nat) (d : DS) {i : Nat} (v : Nat) (hi : i < 16) : r_X5_add 0 F (nI i) (nI v) (E d) = some (0, E (dset d 0 i (d 0 i + v))) := by
  rw [n_add F _ _ (by decide) hi, E_0, nI_add, Es_0]
theorem n_sub_0 (F : Nat) (d : DS) {i : Nat} (hi : i < 16) (h1 : 1 ≤ d 0 i) : r_X5_add 0 F (nI i) (mI 0) (E d) = some (0, E (dset d 0 i (d 0 i - 1))) := by
  rw [n_add F _ _ (by decide) hi, E_0, x_sub1 h1, Es_0]
theorem n_fill_0 (F : Nat) (d : DS) (v : Nat) (hF : 1000 ≤ F) : r_X5_fill 0 F (nI v) (E d) = some (0, E (dfill d 0 16 v)) := by
  rw [n_fill F _ _ (by decide) hF, E_fill d rfl]; rfl
theorem n_at_1 (F : Nat) (d : DS) {i : Nat} (hi : i < 80) : r_X5_at 1 F (nI i) (E d) = some (nI (d 1 i), E d) := n_at F d (by decide) hi
theorem n_put_1 (F : Nat) (d : DS) {i : Nat} (v : Nat) (hi : i < 80) : r_X5_put 1 F (nI i) (nI v) (E d) = some (0, E (dset d 1 i v)) := by
  rw [n_put F _ _ (by decide) hi, Es_1]
theorem n_add_1 (F : Nat) (d : DS) {i : Nat} (v : Nat) (hi : i < 80) : r_X5_add 1 F (nI i) (nI v) (E d) = some (0, E (dset d 1 i (d 1 i + v))) := by
  rw [n_add F _ _ (by decide) hi, E_1, nI_add, Es_1]
theorem n_sub_1 (F : Nat) (d : DS) {i : Nat} (hi : i < 80) (h1 : 1 ≤ d 1 i) : r_X5_add 1 F (nI i) (mI 0) (E d) = some (0, E (dset d 1 i (d 1 i - 1))) := by
  rw [n_add F _ _ (by decide) hi, E_1, x_sub1 h1, Es_1]
theorem n_fill_1 (F : Nat) (d : DS) (v : Nat) (hF : 1000 ≤ F) : r_X5_fill 1 F (nI v) (E d) = some (0, E (dfill d 1 80 v)) := by
  rw [n_fill F _ _ (by decide) hF, E_fill d rfl]; rfl
theorem n_at_2 (F : Nat) (d : DS) {i : Nat} (hi : i < 5) : r_X5_at 2 F (nI i) (E d) = some (nI (d 2 i), E d) := n_at F d (by decide) hi
theorem n_put_2 (F : Nat) (d : DS) {i : Nat} (v : Nat) (hi : i < 5) : r_X5_put 2 F (nI i) (nI v) (E d) = some (0, E (dset d 2 i v)) := by
  rw [n_put F _ _ (by decide) hi, Es_2]
theorem n_add_2 (F : Nat) (d : DS) {i : Nat} (v : Nat) (hi : i < 5) : r_X5_add 2 F (nI i) (nI v) (E d) = some (0, E (dset d 2 i (d 2 i + v))) := by
  rw [n_add F _ _ (by decide) hi, E_2, nI_add, Es_2]
theorem n_sub_2 (F : Nat) (d : DS) {i : Nat} (hi : i < 5) (h1 : 1 ≤ d 2 i) : r_X5_add 2 F (nI i) (mI 0) (E d) = some (0, E (dset d 2 i (d 2 i - 1))) := by
  rw [n_add F _ _ (by decide) hi, E_2, x_sub1 h1, Es_2]
theorem n_fill_2 (F : Nat) (d : DS) (v : Nat) (hF : 1000 ≤ F) : r_X5_fill 2 F (nI v) (E d) = some (0, E (dfill d 2 5 v)) := by
  rw [n_fill F _ _ (by decide) hF, E_fill d rfl]; rfl
theorem n_at_3 (F : Nat) (d : DS) {i : Nat} (hi : i < 80) : r_X5_at 3 F (nI i) (E d) = some (nI (d 3 i), E d) := n_at F d (by decide) hi
theorem n_put_3 (F : Nat) (d : DS) {i : Nat} (v : Nat) (hi : i < 80) : r_X5_put 3 F (nI i) (nI v) (E d) = some (0, E (dset d 3 i v)) := by
  rw [n_put F _ _ (by decide) hi, Es_3]
theorem n_add_3 (F : Nat) (d : DS) {i : Nat} (v : Nat) (hi : i < 80) : r_X5_add 3 F (nI i) (nI v) (E d) = some (0, E (dset d 3 i (d 3 i + v))) := by
  rw [n_add F _ _ (by decide) hi, E_3, nI_add, Es_3]
theorem n_sub_3 (F : Nat) (d : DS) {i : Nat} (hi : i < 80) (h1 : 1 ≤ d 3 i) : r_X5_add 3 F (nI i) (mI 0) (E d) = some (0, E (dset d 3 i (d 3 i - 1))) := by
  rw [n_add F _ _ (by decide) hi, E_3, x_sub1 h1, Es_3]
theorem n_fill_3 (F : Nat) (d : DS) (v : Nat) (hF : 1000 ≤ F) : r_X5_fill 3 F (nI v) (E d) = some (0, E (dfill d 3 80 v)) := by
  rw [n_fill F _ _ (by decide) hF, E_fill d rfl]; rfl
theorem n_at_4 (F : Nat) (d : DS) {i : Nat} (hi : i < 16) : r_X5_at 4 F (nI i) (E d) = some (nI (d 4 i), E d) := n_at F d (by decide) hi
theorem n_put_4 (F : Nat) (d : DS) {i : Nat} (v : Nat) (hi : i < 16) : r_X5_put 4 F (nI i) (nI v) (E d) = some (0, E (dset d 4 i v)) := by
  rw [n_put F _ _ (by decide) hi, Es_4]
theorem n_add_4 (F : Nat) (d : DS) {i : Nat} (v : Nat) (hi : i < 16) : r_X5_add 4 F (nI i) (nI v) (E d) = some (0, E (dset d 4 i (d 4 i + v))) := by
  rw [n_add F _ _ (by decide) hi, E_4, nI_add, Es_4]
theorem n_sub_4 (F : Nat) (d : DS) {i : Nat} (hi : i < 16) (h1 : 1 ≤ d 4 i) : r_X5_add 4 F (nI i) (mI 0) (E d) = some (0, E (dset d 4 i (d 4 i - 1))) := by
  rw [n_add F _ _ (by decide) hi, E_4, x_sub1 h1, Es_4]
theorem n_fill_4 (F : Nat) (d : DS) (v : Nat) (hF : 1000 ≤ F) : r_X5_fill 4 F (nI v) (E d) = some (0, E (dfill d 4 16 v)) := by
  rw [n_fill F _ _ (by decide) hF, E_fill d rfl]; rfl
theorem n_at_5 (F : Nat) (d : DS) {i : Nat} (hi : i < 16) : r_X5_at 5 F (nI i) (E d) = some (nI (d 5 i), E d) := n_at F d (by decide) hi
theorem n_put_5 (F : Nat) (d : DS) {i : Nat} (v : Nat) (hi : i < 16) : r_X5_put 5 F (nI i) (nI v) (E d) = some (0, E (dset d 5 i v)) := by
  rw [n_put F _ _ (by decide) hi, Es_5]
theorem n_add_5 (F : Nat) (d : DS) {i : Nat} (v : Nat) (hi : i < 16) : r_X5_add 5 F (nI i) (nI v) (E d) = some (0, E (dset d 5 i (d 5 i + v))) := by
  rw [n_add F _ _ (by decide) hi, E_5, nI_add, Es_5]
theorem n_sub_5 (F : Nat) (d : DS) {i : Nat} (hi : i < 16) (h1 : 1 ≤ d 5 i) : r_X5_add 5 F (nI i) (mI 0) (E d) = some (0, E (dset d 5 i (d 5 i - 1))) := by
  rw [n_add F _ _ (by decide) hi, E_5, x_sub1 h1, Es_5]
theorem n_fill_5 (F : Nat) (d : DS) (v : Nat) (hF : 1000 ≤ F) : r_X5_fill 5 F (nI v) (E d) = some (0, E (dfill d 5 16 v)) := by
  rw [n_fill F _ _ (by decide) hF, E_fill d rfl]; rfl
theorem n_at_6 (F : Nat) (d : DS) {i : Nat} (hi : i < 80) : r_X5_at 6 F (nI i) (E d) = some (nI (d 6 i), E d) := n_at F d (by decide) hi
theorem n_put_6 (F : Nat) (d : DS) {i : Nat} (v : Nat) (hi : i < 80) : r_X5_put 6 F (nI i) (nI v) (E d) = some (0, E (dset d 6 i v)) := by
  rw [n_put F _ _ (by decide) hi, Es_6]
theorem n_add_6 (F : Nat) (d : DS) {i : Nat} (v : Nat) (hi : i < 80) : r_X5_add 6 F (nI i) (nI v) (E d) = some (0, E (dset d 6 i (d 6 i + v))) := by
  rw [n_add F _ _ (by decide) hi, E_6, nI_add, Es_6]
theorem n_sub_6 (F : Nat) (d : DS) {i : Nat} (hi : i < 80) (h1 : 1 ≤ d 6 i) : r_X5_add 6 F (nI i) (mI 0) (E d) = some (0, E (dset d 6 i (d 6 i - 1))) := by
  rw [n_add F _ _ (by decide) hi, E_6, x_sub1 h1, Es_6]
theorem n_fill_6 (F : Nat) (d : DS) (v : Nat) (hF : 1000 ≤ F) : r_X5_fill 6 F (nI v) (E d) = some (0, E (dfill d 6 80 v)) := by
  rw [n_fill F _ _ (by decide) hF, E_fill d rfl]; rfl
theorem n_at_7 (F : Nat) (d : DS) {i : Nat} (hi : i < 80) : r_X5_at 7 F (nI i) (E d) = some (nI (d 7 i), E d) := n_at F d (by decide) hi
theorem n_put_7 (F : Nat) (d : DS) {i : Nat} (v : Nat) (hi : i < 80) : r_X5_put 7 F (nI i) (nI v) (E d) = some (0, E (dset d 7 i v)) := by
  rw [n_put F _ _ (by decide) hi, Es_7]
theorem n_add_7 (F : Nat) (d : DS) {i : Nat} (v : Nat) (hi : i < 80) : r_X5_add 7 F (nI i) (nI v) (E d) = some (0, E (dset d 7 i (d 7 i + v))) := by
  rw [n_add F _ _ (by decide) hi, E_7, nI_add, Es_7]
theorem n_sub_7 (F : Nat) (d : DS) {i : Nat} (hi : i < 80) (h1 : 1 ≤ d 7 i) : r_X5_add 7 F (nI i) (mI 0) (E d) = some (0, E (dset d 7 i (d 7 i - 1))) := by
  rw [n_add F _ _ (by decide) hi, E_7, x_sub1 h1, Es_7]
theorem n_fill_7 (F : Nat) (d : DS) (v : Nat) (hF : 1000 ≤ F) : r_X5_fill 7 F (nI v) (E d) = some (0, E (dfill d 7 80 v)) := by
  rw [n_fill F _ _ (by decide) hF, E_fill d rfl]; rfl
theorem n_at_8 (F : Nat) (d : DS) {i : Nat} (hi : i < 80) : r_X5_at 8 F (nI i) (E d) = some (nI (d 8 i), E d) := n_at F d (by decide) hi
theorem n_put_8 (F : Nat) (d : DS) {i : Nat} (v : Nat) (hi : i < 80) : r_X5_put 8 F (nI i) (nI v) (E d) = some (0, E (dset d 8 i v)) := by
  rw [n_put F _ _ (by decide) hi, Es_8]
theorem n_add_8 (F : Nat) (d : DS) {i : Nat} (v : Nat) (hi : i < 80) : r_X5_add 8 F (nI i) (nI v) (E d) = some (0, E (dset d 8 i (d 8 i + v))) := by
  rw [n_add F _ _ (by decide) hi, E_8, nI_add, Es_8]
theorem n_sub_8 (F : Nat) (d : DS) {i : Nat} (hi : i < 80) (h1 : 1 ≤ d 8 i) : r_X5_add 8 F (nI i) (mI 0) (E d) = some (0, E (dset d 8 i (d 8 i - 1))) := by
  rw [n_add F _ _ (by decide) hi, E_8, x_sub1 h1, Es_8]
theorem n_fill_8 (F : Nat) (d : DS) (v : Nat) (hF : 1000 ≤ F) : r_X5_fill 8 F (nI v) (E d) = some (0, E (dfill d 8 80 v)) := by
  rw [n_fill F _ _ (by decide) hF, E_fill d rfl]; rfl
theorem n_at_9 (F : Nat) (d : DS) {i : Nat} (hi : i < 80) : r_X5_at 9 F (nI i) (E d) = some (nI (d 9 i), E d) := n_at F d (by decide) hi
theorem n_put_9 (F : Nat) (d : DS) {i : Nat} (v : Nat) (hi : i < 80) : r_X5_put 9 F (nI i) (nI v) (E d) = some (0, E (dset d 9 i v)) := by
  rw [n_put F _ _ (by decide) hi, Es_9]
theorem n_add_9 (F : Nat) (d : DS) {i : Nat} (v : Nat) (hi : i < 80) : r_X5_add 9 F (nI i) (nI v) (E d) = some (0, E (dset d 9 i (d 9 i + v))) := by
  rw [n_add F _ _ (by decide) hi, E_9, nI_add, Es_9]
theorem n_sub_9 (F : Nat) (d : DS) {i : Nat} (hi : i < 80) (h1 : 1 ≤ d 9 i) : r_X5_add 9 F (nI i) (mI 0) (E d) = some (0, E (dset d 9 i (d 9 i - 1))) := by
  rw [n_add F _ _ (by decide) hi, E_9, x_sub1 h1, Es_9]
theorem n_fill_9 (F : Nat) (d : DS) (v : Nat) (hF : 1000 ≤ F) : r_X5_fill 9 F (nI v) (E d) = some (0, E (dfill d 9 80 v)) := by
  rw [n_fill F _ _ (by decide) hF, E_fill d rfl]; rfl
theorem n_at_10 (F : Nat) (d : DS) {i : Nat} (hi : i < 80) : r_X5_at 10 F (nI i) (E d) = some (mI (d 10 i), E d) := n_at F d (by decide) hi
theorem n_put_10 (F : Nat) (d : DS) {i : Nat} (v : Nat) (hi : i < 80) : r_X5_put 10 F (nI i) (mI v) (E d) = some (0, E (dset d 10 i v)) := by
  rw [n_put F _ _ (by decide) hi, Es_10]
theorem n_put_10n (F : Nat) (d : DS) {i : Nat} (v : Nat) (hi : i < 80) : r_X5_put 10 F (nI i) (nI v) (E d) = some (0, E (dset d 10 i (v + 1))) := by
  rw [n_put F _ _ (by decide) hi, Es_10n]
theorem n_fill_10 (F : Nat) (d : DS) (hF : 1000 ≤ F) : r_X5_fill 10 F (mI 0) (E d) = some (0, E (dfill d 10 80 0)) := by
  rw [n_fill F _ _ (by decide) hF, E_fillm d rfl]; rfl
theorem n_at_11 (F : Nat) (d : DS) {i : Nat} (hi : i < 80) : r_X5_at 11 F (nI i) (E d) = some (nI (d 11 i), E d) := n_at F d (by decide) hi
theorem n_put_11 (F : Nat) (d : DS) {i : Nat} (v : Nat) (hi : i < 80) : r_X5_put 11 F (nI i) (nI v) (E d) = some (0, E (dset d 11 i v)) := by
  rw [n_put F _ _ (by decide) hi, Es_11]
theorem n_add_11 (F : Nat) (d : DS) {i : Nat} (v : Nat) (hi : i < 80) : r_X5_add 11 F (nI i) (nI v) (E d) = some (0, E (dset d 11 i (d 11 i + v))) := by
  rw [n_add F _ _ (by decide) hi, E_11, nI_add, Es_11]
theorem n_sub_11 (F : Nat) (d : DS) {i : Nat} (hi : i < 80) (h1 : 1 ≤ d 11 i) : r_X5_add 11 F (nI i) (mI 0) (E d) = some (0, E (dset d 11 i (d 11 i - 1))) := by
  rw [n_add F _ _ (by decide) hi, E_11, x_sub1 h1, Es_11]
theorem n_fill_11 (F : Nat) (d : DS) (v : Nat) (hF : 1000 ≤ F) : r_X5_fill 11 F (nI v) (E d) = some (0, E (dfill d 11 80 v)) := by
  rw [n_fill F _ _ (by decide) hF, E_fill d rfl]; rfl
theorem n_at_12 (F : Nat) (d : DS) {i : Nat} (hi : i < 80) : r_X5_at 12 F (nI i) (E d) = some (nI (d 12 i), E d) := n_at F d (by decide) hi
theorem n_put_12 (F : Nat) (d : DS) {i : Nat} (v : Nat) (hi : i < 80) : r_X5_put 12 F (nI i) (nI v) (E d) = some (0, E (dset d 12 i v)) := by
  rw [n_put F _ _ (by decide) hi, Es_12]
theorem n_add_12 (F : Nat) (d : DS) {i : Nat} (v : Nat) (hi : i < 80) : r_X5_add 12 F (nI i) (nI v) (E d) = some (0, E (dset d 12 i (d 12 i + v))) := by
  rw [n_add F _ _ (by decide) hi, E_12, nI_add, Es_12]
theorem n_sub_12 (F : Nat) (d : DS) {i : Nat} (hi : i < 80) (h1 : 1 ≤ d 12 i) : r_X5_add 12 F (nI i) (mI 0) (E d) = some (0, E (dset d 12 i (d 12 i - 1))) := by
  rw [n_add F _ _ (by decide) hi, E_12, x_sub1 h1, Es_12]
theorem n_fill_12 (F : Nat) (d : DS) (v : Nat) (hF : 1000 ≤ F) : r_X5_fill 12 F (nI v) (E d) = some (0, E (dfill d 12 80 v)) := by
  rw [n_fill F _ _ (by decide) hF, E_fill d rfl]; rfl
theorem n_at_13 (F : Nat) (d : DS) {i : Nat} (hi : i < 80) : r_X5_at 13 F (nI i) (E d) = some (nI (d 13 i), E d) := n_at F d (by decide) hi
theorem n_put_13 (F : Nat) (d : DS) {i : Nat} (v : Nat) (hi : i < 80) : r_X5_put 13 F (nI i) (nI v) (E d) = some (0, E (dset d 13 i v)) := by
  rw [n_put F _ _ (by decide) hi, Es_13]
theorem n_add_13 (F : Nat) (d : DS) {i : Nat} (v : Nat) (hi : i < 80) : r_X5_add 13 F (nI i) (nI v) (E d) = some (0, E (dset d 13 i (d 13 i + v))) := by
  rw [n_add F _ _ (by decide) hi, E_13, nI_add, Es_13]
theorem n_sub_13 (F : Nat) (d : DS) {i : Nat} (hi : i < 80) (h1 : 1 ≤ d 13 i) : r_X5_add 13 F (nI i) (mI 0) (E d) = some (0, E (dset d 13 i (d 13 i - 1))) := by
  rw [n_add F _ _ (by decide) hi, E_13, x_sub1 h1, Es_13]
theorem n_fill_13 (F : Nat) (d : DS) (v : Nat) (hF : 1000 ≤ F) : r_X5_fill 13 F (nI v) (E d) = some (0, E (dfill d 13 80 v)) := by
  rw [n_fill F _ _ (by decide) hF, E_fill d rfl]; rfl
theorem n_at_14 (F : Nat) (d : DS) {i : Nat} (hi : i < 480) : r_X5_at 14 F (nI i) (E d) = some (nI (d 14 i), E d) := n_at F d (by decide) hi
theorem n_put_14 (F : Nat) (d : DS) {i : Nat} (v : Nat) (hi : i < 480) : r_X5_put 14 F (nI i) (nI v) (E d) = some (0, E (dset d 14 i v)) := by
  rw [n_put F _ _ (by decide) hi, Es_14]
theorem n_add_14 (F : Nat) (d : DS) {i : Nat} (v : Nat) (hi : i < 480) : r_X5_add 14 F (nI i) (nI v) (E d) = some (0, E (dset d 14 i (d 14 i + v))) := by
  rw [n_add F _ _ (by decide) hi, E_14, nI_add, Es_14]
theorem n_sub_14 (F : Nat) (d : DS) {i : Nat} (hi : i < 480) (h1 : 1 ≤ d 14 i) : r_X5_add 14 F (nI i) (mI 0) (E d) = some (0, E (dset d 14 i (d 14 i - 1))) := by
  rw [n_add F _ _ (by decide) hi, E_14, x_sub1 h1, Es_14]
theorem n_fill_14 (F : Nat) (d : DS) (v : Nat) (hF : 1000 ≤ F) : r_X5_fill 14 F (nI v) (E d) = some (0, E (dfill d 14 480 v)) := by
  rw [n_fill F _ _ (by decide) hF, E_fill d rfl]; rfl
theorem n_at_15 (F : Nat) (d : DS) {i : Nat} (hi : i < 160) : r_X5_at 15 F (nI i) (E d) = some (nI (d 15 i), E d) := n_at F d (by decide) hi
theorem n_put_15 (F : Nat) (d : DS) {i : Nat} (v : Nat) (hi : i < 160) : r_X5_put 15 F (nI i) (nI v) (E d) = some (0, E (dset d 15 i v)) := by
  rw [n_put F _ _ (by decide) hi, Es_15]
theorem n_add_15 (F : Nat) (d : DS) {i : Nat} (v : Nat) (hi : i < 160) : r_X5_add 15 F (nI i) (nI v) (E d) = some (0, E (dset d 15 i (d 15 i + v))) := by
  rw [n_add F _ _ (by decide) hi, E_15, nI_add, Es_15]
theorem n_sub_15 (F : Nat) (d : DS) {i : Nat} (hi : i < 160) (h1 : 1 ≤ d 15 i) : r_X5_add 15 F (nI i) (mI 0) (E d) = some (0, E (dset d 15 i (d 15 i - 1))) := by
  rw [n_add F _ _ (by decide) hi, E_15, x_sub1 h1, Es_15]
theorem n_fill_15 (F : Nat) (d : DS) (v : Nat) (hF : 1000 ≤ F) : r_X5_fill 15 F (nI v) (E d) = some (0, E (dfill d 15 160 v)) := by
  rw [n_fill F _ _ (by decide) hF, E_fill d rfl]; rfl
theorem n_at_16 (F : Nat) (d : DS) {i : Nat} (hi : i < 160) : r_X5_at 16 F (nI i) (E d) = some (nI (d 16 i), E d) := n_at F d (by decide) hi
theorem n_put_16 (F : Nat) (d : DS) {i : Nat} (v : Nat) (hi : i < 160) : r_X5_put 16 F (nI i) (nI v) (E d) = some (0, E (dset d 16 i v)) := by
  rw [n_put F _ _ (by decide) hi, Es_16]
theorem n_add_16 (F : Nat) (d : DS) {i : Nat} (v : Nat) (hi : i < 160) : r_X5_add 16 F (nI i) (nI v) (E d) = some (0, E (dset d 16 i (d 16 i + v))) := by
  rw [n_add F _ _ (by decide) hi, E_16, nI_add, Es_16]
theorem n_sub_16 (F : Nat) (d : DS) {i : Nat} (hi : i < 160) (h1 : 1 ≤ d 16 i) : r_X5_add 16 F (nI i) (mI 0) (E d) = some (0, E (dset d 16 i (d 16 i - 1))) := by
  rw [n_add F _ _ (by decide) hi, E_16, x_sub1 h1, Es_16]
theorem n_fill_16 (F : Nat) (d : DS) (v : Nat) (hF : 1000 ≤ F) : r_X5_fill 16 F (nI v) (E d) = some (0, E (dfill d 16 160 v)) := by
  rw [n_fill F _ _ (by decide) hF, E_fill d rfl]; rfl
theorem n_at_17 (F : Nat) (d : DS) {i : Nat} (hi : i < 640) : r_X5_at 17 F (nI i) (E d) = some (nI (d 17 i), E d) := n_at F d (by decide) hi
theorem n_put_17 (F : Nat) (d : DS) {i : Nat} (v : Nat) (hi : i < 640) : r_X5_put 17 F (nI i) (nI v) (E d) = some (0, E (dset d 17 i v)) := by
  rw [n_put F _ _ (by decide) hi, Es_17]
theorem n_add_17 (F : Nat) (d : DS) {i : Nat} (v : Nat) (hi : i < 640) : r_X5_add 17 F (nI i) (nI v) (E d) = some (0, E (dset d 17 i (d 17 i + v))) := by
  rw [n_add F _ _ (by decide) hi, E_17, nI_add, Es_17]
theorem n_sub_17 (F : Nat) (d : DS) {i : Nat} (hi : i < 640) (h1 : 1 ≤ d 17 i) : r_X5_add 17 F (nI i) (mI 0) (E d) = some (0, E (dset d 17 i (d 17 i - 1))) := by
  rw [n_add F _ _ (by decide) hi, E_17, x_sub1 h1, Es_17]
theorem n_fill_17 (F : Nat) (d : DS) (v : Nat) (hF : 1000 ≤ F) : r_X5_fill 17 F (nI v) (E d) = some (0, E (dfill d 17 640 v)) := by
  rw [n_fill F _ _ (by decide) hF, E_fill d rfl]; rfl
theorem n_at_18 (F : Nat) (d : DS) {i : Nat} (hi : i < 16) : r_X5_at 18 F (nI i) (E d) = some (nI (d 18 i), E d) := n_at F d (by decide) hi
theorem n_put_18 (F : Nat) (d : DS) {i : Nat} (v : Nat) (hi : i < 16) : r_X5_put 18 F (nI i) (nI v) (E d) = some (0, E (dset d 18 i v)) := by
  rw [n_put F _ _ (by decide) hi, Es_18]
theorem n_add_18 (F : Nat) (d : DS) {i : Nat} (v : Nat) (hi : i < 16) : r_X5_add 18 F (nI i) (nI v) (E d) = some (0, E (dset d 18 i (d 18 i + v))) := by
  rw [n_add F _ _ (by decide) hi, E_18, nI_add, Es_18]
theorem n_sub_18 (F : Nat) (d : DS) {i : Nat} (hi : i < 16) (h1 : 1 ≤ d 18 i) : r_X5_add 18 F (nI i) (mI 0) (E d) = some (0, E (dset d 18 i (d 18 i - 1))) := by
  rw [n_add F _ _ (by decide) hi, E_18, x_sub1 h1, Es_18]
theorem n_fill_18 (F : Nat) (d : DS) (v : Nat) (hF : 1000 ≤ F) : r_X5_fill 18 F (nI v) (E d) = some (0, E (dfill d 18 16 v)) := by
  rw [n_fill F _ _ (by decide) hF, E_fill d rfl]; rfl
theorem n_at_19 (F : Nat) (d : DS) {i : Nat} (hi : i < 16) : r_X5_at 19 F (nI i) (E d) = some (mI (d 19 i), E d) := n_at F d (by decide) hi
theorem n_put_19 (F : Nat) (d : DS) {i : Nat} (v : Nat) (hi : i < 16) : r_X5_put 19 F (nI i) (mI v) (E d) = some (0, E (dset d 19 i v)) := by
  rw [n_put F _ _ (by decide) hi, Es_19]
theorem n_put_19n (F : Nat) (d : DS) {i : Nat} (v : Nat) (hi : i < 16) : r_X5_put 19 F (nI i) (nI v) (E d) = some (0, E (dset d 19 i (v + 1))) := by
  rw [n_put F _ _ (by decide) hi, Es_19n]
theorem n_fill_19 (F : Nat) (d : DS) (hF : 1000 ≤ F) : r_X5_fill 19 F (mI 0) (E d) = some (0, E (dfill d 19 16 0)) := by
  rw [n_fill F _ _ (by decide) hF, E_fillm d rfl]; rfl
theorem n_at_20 (F : Nat) (d : DS) {i : Nat} (hi : i < 160) : r_X5_at 20 F (nI i) (E d) = some (mI (d 20 i), E d) := n_at F d (by decide) hi
theorem n_put_20 (F : Nat) (d : DS) {i : Nat} (v : Nat) (hi : i < 160) : r_X5_put 20 F (nI i) (mI v) (E d) = some (0, E (dset d 20 i v)) := by
  rw [n_put F _ _ (by decide) hi, Es_20]
theorem n_put_20n (F : Nat) (d : DS) {i : Nat} (v : Nat) (hi : i < 160) : r_X5_put 20 F (nI i) (nI v) (E d) = some (0, E (dset d 20 i (v + 1))) := by
  rw [n_put F _ _ (by decide) hi, Es_20n]
theorem n_fill_20 (F : Nat) (d : DS) (hF : 1000 ≤ F) : r_X5_fill 20 F (mI 0) (E d) = some (0, E (dfill d 20 160 0)) := by
  rw [n_fill F _ _ (by decide) hF, E_fillm d rfl]; rfl
theorem n_at_21 (F : Nat) (d : DS) {i : Nat} (hi : i < 160) : r_X5_at 21 F (nI i) (E d) = some (nI (d 21 i), E d) := n_at F d (by decide) hi
theorem n_put_21 (F : Nat) (d : DS) {i : Nat} (v : Nat) (hi : i < 160) : r_X5_put 21 F (nI i) (nI v) (E d) = some (0, E (dset d 21 i v)) := by
  rw [n_put F _ _ (by decide) hi, Es_21]
theorem n_add_21 (F : Nat) (d : DS) {i : Nat} (v : Nat) (hi : i < 160) : r_X5_add 21 F (nI i) (nI v) (E d) = some (0, E (dset d 21 i (d 21 i + v))) := by
  rw [n_add F _ _ (by decide) hi, E_21, nI_add, Es_21]
theorem n_sub_21 (F : Nat) (d : DS) {i : Nat} (hi : i < 160) (h1 : 1 ≤ d 21 i) : r_X5_add 21 F (nI i) (mI 0) (E d) = some (0, E (dset d 21 i (d 21 i - 1))) := by
  rw [n_add F _ _ (by decide) hi, E_21, x_sub1 h1, Es_21]
theorem n_fill_21 (F : Nat) (d : DS) (v : Nat) (hF : 1000 ≤ F) : r_X5_fill 21 F (nI v) (E d) = some (0, E (dfill d 21 160 v)) := by
  rw [n_fill F _ _ (by decide) hF, E_fill d rfl]; rfl
