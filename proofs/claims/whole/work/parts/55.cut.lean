/-! cutting ends: the system's side -/
def zr (h : Nat → Nat → Nat) (b : Nat) : Nat → Nat → Nat := fun b' o => if b' = b then 0 else h b' o
def cps (c r : Nat) (h : Nat → Nat → Nat) : Nat → (Nat → Nat → Nat) × Nat
  | 0 => (h, 0)
  | b + 1 => if mk ((cps c r h b).1 b) 4 = 0 then cps c r h b else if enf c r (cps c r h b).1 b 4 0 = 0 then cps c r h b else (zr (cps c r h b).1 b, 1)
theorem zr_le {h : Nat → Nat → Nat} (hh : ∀ b o, h b o ≤ 1) (b : Nat) : ∀ b' o, zr h b b' o ≤ 1 := fun b' o => by
  unfold zr
  split
  · exact Nat.zero_le _
  · exact hh _ _
theorem cps_le (c r : Nat) {h : Nat → Nat → Nat} (hh : ∀ b o, h b o ≤ 1) : ∀ n, (∀ b o, (cps c r h n).1 b o ≤ 1) ∧ (cps c r h n).2 ≤ 1 := by
  intro n
  induction n with
  | zero => exact ⟨hh, Nat.zero_le _⟩
  | succ n ih =>
    rw [cps]
    split
    · exact ih
    · split
      · exact ih
      · exact ⟨zr_le ih.1 n, Nat.le_refl _⟩
theorem a21_z (d : DS) (h : Nat → Nat → Nat) {b : Nat} (hb : b < 160) : dset (a21 d h) 21 b 0 = a21 d (zr h b) := by
  funext k i
  rw [dset_a]
  unfold a21
  by_cases q : k = 21 ∧ i = b
  · rw [if_pos q, if_pos ⟨q.1, by omega⟩, q.2]
    have : zr h b b = fun _ => 0 := funext fun o => if_pos rfl
    rw [this]
    rfl
  · rw [if_neg q]
    by_cases q2 : k = 21 ∧ i < 160
    · rw [if_pos q2, if_pos q2]
      have : zr h b i = h i := funext fun o => if_neg (fun z => q ⟨q2.1, z⟩)
      rw [this]
    · rw [if_neg q2, if_neg q2]
theorem n_cut17 (K4 : Int32 → Int32 → CS → Option (Int32 × CS)) (F : Nat) {c r w : Nat} {d : DS} {h : Nat → Nat → Nat} (hF : 1000 ≤ F) (hG : Gr d c r) (hw : w < c * r) (hh : ∀ b o, h b o ≤ 1) : ∀ (k n j : Nat), j + k = 10 → k + 1 ≤ n → r_X1_cutEnds_b17 K4 F n (nI (cps c r h (w * 10 + j)).2) (nI w) (nI j) (E (a21 d (cps c r h (w * 10 + j)).1)) = K4 (nI (cps c r h (w * 10 + 10)).2) (nI (w + 1)) (E (a21 d (cps c r h (w * 10 + 10)).1)) := by
  have h16 := Gr16 hG.2.2.1
  intro k
  induction k with
  | zero =>
    intro n j h1 h2
    obtain ⟨n, rfl⟩ : ∃ k, n = k + 1 := ⟨n - 1, by omega⟩
    obtain rfl : j = 10 := by omega
    rw [r_X1_cutEnds_b17_s, if_pos (by decide), x_l1, nI_add]
  | succ k ih =>
    intro n j h1 h2
    obtain ⟨n, rfl⟩ : ∃ k, n = k + 1 := ⟨n - 1, by omega⟩
    have hb : w * 10 + j < 160 := by omega
    have ihh := ih n (j + 1) (by omega) (by omega)
    rw [show w * 10 + (j + 1) = w * 10 + j + 1 from rfl, cps] at ihh
    have hle := (cps_le c r hh (w * 10 + j)).1
    have e21 : a21 d (cps c r h (w * 10 + j)).1 21 (w * 10 + j) = mk ((cps c r h (w * 10 + j)).1 (w * 10 + j)) 4 := if_pos ⟨rfl, hb⟩
    have hie := n_isEnd F (d := d) (b := w * 10 + j) (c := c) (r := r) hF hG (by omega) hle
    rw [show (w * 10 + j) / 10 = w by omega, show (w * 10 + j) % 2 = j % 2 by omega] at hie
    have hmk := mk_lt (hle (w * 10 + j)) 4
    have h4 : (2 : Nat) ^ 4 = 16 := by decide
    have hef := enf_le c r (cps c r h (w * 10 + j)).1 (w * 10 + j) 4 0
    rw [r_X1_cutEnds_b17_s, if_neg (by rw [x_l10, x_le (by decide) (by omega)]; omega), x_l10, pk_mul, nI_add, x_oiS, n_at_21 F _ hb, x_obS, e21]
    unfold r_X1_cutEnds_b75
    by_cases g1 : mk ((cps c r h (w * 10 + j)).1 (w * 10 + j)) 4 = 0
    · rw [if_pos g1] at ihh
      rw [g1, if_pos (by rfl), x_l1, nI_add]
      exact ihh
    · rw [if_neg g1] at ihh
      rw [if_neg (by rw [x_l0, x_eq (by omega) (by decide)]; exact g1), n_at_21 F _ hb, x_obS, e21, x_l1, x_and1 (by omega), hie, x_obS]
      by_cases g2 : enf c r (cps c r h (w * 10 + j)).1 (w * 10 + j) 4 0 = 0
      · rw [if_pos g2] at ihh
        rw [g2, if_pos (by rfl), nI_add]
        exact ihh
      · rw [if_neg g2] at ihh
        rw [show enf c r (cps c r h (w * 10 + j)).1 (w * 10 + j) 4 0 = 1 by omega, if_neg (by decide), x_l0, n_put_21 F _ _ hb, x_obS, a21_z d _ hb, nI_add]
        exact ihh
theorem n_cutEnds (F : Nat) {c r : Nat} {d : DS} {h : Nat → Nat → Nat} (hF : 1000 ≤ F) (hG : Gr d c r) (hh : ∀ b o, h b o ≤ 1) : r_X1_cutEnds F (E (a21 d h)) = some (nI (cps c r h (c * r * 10)).2, E (a21 d (cps c r h (c * r * 10)).1)) := by
  have h16 := Gr16 hG.2.2.1
  have key : ∀ (k n w : Nat), w + k = c * r → k + 1 ≤ n → r_X1_cutEnds_b4 F n (nI (cps c r h (w * 10)).2) (nI w) (E (a21 d (cps c r h (w * 10)).1)) = some (nI (cps c r h (c * r * 10)).2, E (a21 d (cps c r h (c * r * 10)).1)) := by
    intro k
    induction k with
    | zero =>
      intro n w h1 h2
      obtain ⟨n, rfl⟩ : ∃ k, n = k + 1 := ⟨n - 1, by omega⟩
      obtain rfl : w = c * r := by omega
      have hf := (cps_le c r hh (c * r * 10)).2
      rw [r_X1_cutEnds_b4_s, n_size F (show Gr (a21 d _) c r from hG), x_obS, if_pos (by rw [x_le (by omega) (by omega)]; omega), x_ogT (x_boT (by omega))]
    | succ k ih =>
      intro n w h1 h2
      obtain ⟨n, rfl⟩ : ∃ k, n = k + 1 := ⟨n - 1, by omega⟩
      have ihh := ih n (w + 1) (by omega) (by omega)
      rw [show (w + 1) * 10 = w * 10 + 10 by omega] at ihh
      have h17 := n_cut17 (r_X1_cutEnds_b4 F n) F hF hG (show w < c * r by omega) hh 10 F 0 (by omega) (by omega)
      rw [r_X1_cutEnds_b4_s, n_size F (show Gr (a21 d _) c r from hG), x_obS, if_neg (by rw [x_le (by omega) (by omega)]; omega), x_l0]
      exact h17.trans ihh
  unfold r_X1_cutEnds
  have h0 := key (c * r) F 0 (by omega) (by omega)
  rw [Nat.zero_mul] at h0
  exact h0
