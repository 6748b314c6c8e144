/-! one goes: the system's side -/
def PRE (c r : Nat) (m : DS) (w o b p : Nat) : Prop := w < c * r ∧ o < 5 ∧ b / 10 = w ∧ 0 < m 15 b ∧ hd m b = p ∧ wt c w (m 7 p) (m 9 p) = o ∧ (o < 4 → nb c r w o ≠ 0 ∧ 1 ≤ m 16 (bf (nb c r w o - 1) o (b % 2)))
def mvA (m : DS) (b : Nat) : DS := if b % 10 < 8 then gvb (rmv m b) b else rmv m b
def mvC (c r : Nat) (m : DS) (w o b p : Nat) : DS := if o = 4 then dset (dset (dset (mvA m b) 10 p 0) 22 5 (m 22 5 + 1)) 18 (m 6 p) (gp (m 18 (m 6 p)) (m 13 p)) else dset (dset (dset (apd (dset (mvA m b) 16 (bf (nb c r w o - 1) o (b % 2)) (m 16 (bf (nb c r w o - 1) o (b % 2)) - 1)) (bf (nb c r w o - 1) o (b % 2)) p) 10 p (nb c r w o)) 11 p o) 12 p (m 12 p + 1)
theorem rmv_k (m : DS) (b : Nat) {k : Nat} (h1 : k ≠ 14) (h2 : k ≠ 15) : rmv m b k = m k := by
  funext i
  unfold rmv
  rw [dset_n _ _ _ _ h2, shR_k _ h1]
theorem mvA_k (m : DS) (b : Nat) {k : Nat} (h1 : k ≠ 14) (h2 : k ≠ 15) (h3 : k ≠ 17) (h4 : k ≠ 22) : mvA m b k = m k := by
  unfold mvA
  split
  · unfold gvb
    funext i
    rw [dset_n _ _ _ _ h4, dset_n _ _ _ _ h3, rmv_k m b h1 h2]
  · exact rmv_k m b h1 h2
theorem rmv_15 (m : DS) (b i : Nat) : rmv m b 15 i = if i = b then m 15 b - 1 else m 15 i := rfl
theorem mvA_15 (m : DS) (b i : Nat) : mvA m b 15 i = if i = b then m 15 b - 1 else m 15 i := by
  unfold mvA
  split <;> rfl
theorem mvA_14 (m : DS) (b i : Nat) : mvA m b 14 i = if 3 * b ≤ i ∧ i < 3 * b + (m 15 b - 1) then m 14 (i + 1) else m 14 i := by
  have h : rmv m b 14 i = if 3 * b ≤ i ∧ i < 3 * b + (m 15 b - 1) then m 14 (i + 1) else m 14 i := by
    show (if 14 = 14 ∧ 3 * b ≤ i ∧ i < 3 * b + (m 15 b - 1) then m 14 (i + 1) else m 14 i) = _
    by_cases q : 3 * b ≤ i ∧ i < 3 * b + (m 15 b - 1)
    · rw [if_pos q, if_pos ⟨rfl, q⟩]
    · rw [if_neg q, if_neg (fun z => q z.2)]
  unfold mvA
  split
  · exact h
  · exact h
theorem mvA_17 (m : DS) (b i : Nat) : mvA m b 17 i = if b % 10 < 8 ∧ i = b * 4 + (m 22 1 + 1 + m 22 7) % 4 then m 17 i + 1 else m 17 i := by
  unfold mvA
  by_cases h8 : b % 10 < 8
  · rw [if_pos h8]
    show dset (rmv m b) 17 (b * 4 + (m 22 1 + 1 + m 22 7) % 4) (m 17 (b * 4 + (m 22 1 + 1 + m 22 7) % 4) + 1) 17 i = _
    rw [dset_a]
    by_cases q : i = b * 4 + (m 22 1 + 1 + m 22 7) % 4
    · rw [if_pos ⟨rfl, q⟩, if_pos ⟨h8, q⟩, q]
    · rw [if_neg (fun z => q z.2), if_neg (fun z => q z.2)]
      rfl
  · rw [if_neg h8, if_neg (fun z => h8 z.1)]
    rfl
theorem mvA_22 (m : DS) (b i : Nat) : mvA m b 22 i = if b % 10 < 8 ∧ i = 8 then m 22 8 + 1 else m 22 i := by
  unfold mvA
  by_cases h8 : b % 10 < 8
  · rw [if_pos h8]
    show dset _ 22 8 (m 22 8 + 1) 22 i = _
    rw [dset_a]
    by_cases q : i = 8
    · rw [if_pos ⟨rfl, q⟩, if_pos ⟨h8, q⟩]
    · rw [if_neg (fun z => q z.2), if_neg (fun z => q z.2)]
      rfl
  · rw [if_neg h8, if_neg (fun z => h8 z.1)]
    rfl
theorem n_move (F : Nat) {c r : Nat} {m : DS} {w o b p : Nat} (hF : 1000 ≤ F) (hJ : JI c r m) (hP : PRE c r m w o b p) : r_X7_move F (nI p) (E m) = some (0, E (mvC c r m w o b p)) := by
  obtain ⟨hw, ho, hbw, h0, hhd, hwt, hcr⟩ := hP
  have hN := hJ.1.1.2.2.1
  have h16 := Gr16 hN
  have hb : b < 160 := by omega
  have hbe : b / 10 * 10 + b % 10 = b := by omega
  obtain ⟨q1, q2, q3, q4, q5, q6, q7, q8⟩ := hJ.head hw (show b % 10 < 10 by omega) (by rw [← hbw, hbe]; exact h0)
  rw [← hbw, hbe, hhd] at q1 q2 q3 q4 q5 q6 q7 q8
  rw [hbw] at q2
  have q4' : m 8 p = b % 2 := by omega
  obtain ⟨j6, j6', j7, j1, j80⟩ := hJ.1.2
  have hs := (hJ.2.2.2.1 b hb).1
  have hp : p < 80 := by omega
  have hbf : bf w (b % 10 / 2) (b % 2) = b := by
    show w * 10 + 2 * (b % 10 / 2) + b % 2 = b
    omega
  have fin : r_X7_move_b87 F (nI p) (nI o) (nI w) (nI (b % 2)) (E (mvA m b)) = some (0, E (mvC c r m w o b p)) := by
    have hG : Gr (mvA m b) c r := by
      unfold Gr
      rw [mvA_22, mvA_22, mvA_k m b (by decide) (by decide) (by decide) (by decide), mvA_k m b (by decide) (by decide) (by decide) (by decide), if_neg (by omega), if_neg (by omega)]
      exact hJ.1.1
    unfold r_X7_move_b87 mvC
    by_cases h4 : o = 4
    · rw [if_pos (by rw [h4]; rfl), if_pos h4, n_goOut F hp, x_obS, n_at_6 F _ hp, x_obS, n_at_13 F _ hp, x_obS]
      have g5 : mvA m b 22 5 = m 22 5 := by rw [mvA_22, if_neg (by omega)]
      rw [g5]
      have g6 : dset (dset (mvA m b) 10 p 0) 22 5 (m 22 5 + 1) 6 p = m 6 p := by
        show mvA m b 6 p = m 6 p
        rw [mvA_k m b (by decide) (by decide) (by decide) (by decide)]
      have g13 : dset (dset (mvA m b) 10 p 0) 22 5 (m 22 5 + 1) 13 p = m 13 p := by
        show mvA m b 13 p = m 13 p
        rw [mvA_k m b (by decide) (by decide) (by decide) (by decide)]
      have g18 : dset (dset (mvA m b) 10 p 0) 22 5 (m 22 5 + 1) 18 = m 18 := by
        show mvA m b 18 = m 18
        rw [mvA_k m b (by decide) (by decide) (by decide) (by decide)]
      obtain ⟨u1, u2, u3, u4⟩ := hJ.2.1.1 (m 6 p) (by omega)
      rw [g6, g13]
      unfold r_X7_move_b134
      have had := fun mk hmk => n_adapt F (d := dset (dset (mvA m b) 10 p 0) 22 5 (m 22 5 + 1)) (w := m 6 p) (mk := mk) (by omega) hmk (by rw [g18]; exact u2) (by rw [g18]; exact u3)
      rw [g18] at had
      by_cases hm : m 13 p = 0
      · rw [hm, if_pos (by rfl), x_l0, had 0 (by omega), x_obS]
      · rw [show m 13 p = 1 by omega, if_neg (by decide), x_l1, had 1 (by omega), x_obS]
    · obtain ⟨hnb, hc1⟩ := hcr (by omega)
      have hb1 := nb_lt (dir := o) hN hw
      obtain ⟨b', hb'⟩ : ∃ b', b' = bf (nb c r w o - 1) o (b % 2) := ⟨_, rfl⟩
      have hbv : b' = (nb c r w o - 1) * 10 + 2 * o + b % 2 := hb'
      rw [← hb'] at hc1
      have hb9 : b' < 160 := by omega
      have i7 := hJ.2.2.2.2.2.2.1.2 b' hb9 (by omega)
      have g16 : mvA m b 16 = m 16 := mvA_k m b (by decide) (by decide) (by decide) (by decide)
      have g12 : mvA m b 12 = m 12 := mvA_k m b (by decide) (by decide) (by decide) (by decide)
      have g6 : mvA m b 22 6 = m 22 6 := by rw [mvA_22, if_neg (by omega)]
      have hsz : mvA m b 15 b' ≤ m 15 b' := by
        rw [mvA_15]
        split
        · rename_i z
          rw [z]
          omega
        · omega
      rw [if_neg (by rw [x_l4, x_eq (by omega) (by decide)]; exact h4), if_neg h4, n_behind F o hG hw (by omega), x_obS, mI_p hnb, n_bufferOf, x_obS, ← hb', n_take F hb9 (by rw [g16]; exact hc1), x_obS, n_bufferOf, x_obS, ← hb', g16, n_append F p hb9 (by
        show mvA m b 15 b' < mvA m b 22 6
        omega) (by
        show mvA m b 22 6 ≤ 3
        omega), x_obS, n_goOver F hp, x_obS, show nb c r w o - 1 + 1 = nb c r w o by omega]
      have g12' : apd (dset (mvA m b) 16 b' (m 16 b' - 1)) b' p 12 p = m 12 p := by
        show mvA m b 12 p = m 12 p
        rw [g12]
      rw [g12']
  unfold r_X7_move
  rw [n_outputOf F hJ.1.1 hp q2 hw q5 q6, x_obS, hwt, n_at_10 F _ hp, x_obS, n_at_11 F _ hp, x_obS, n_at_8 F _ hp, x_obS, q2, mI_s, q3, q4', n_bufferOf, x_obS, hbf, n_removeFirst F hF hb h0 (by omega), x_obS]
  by_cases h8 : b % 10 < 8
  · rw [if_neg (by rw [x_l4, x_eq (by omega) (by decide)]; omega), n_bufferOf, x_obS, hbf]
    have g1 : rmv m b 22 = m 22 := rmv_k m b (by decide) (by decide)
    have gg := n_giveBack F (d := rmv m b) hb (by rw [g1]; omega) (by rw [g1]; omega)
    rw [E_22, gg, x_obS]
    have hA : gvb (rmv m b) b = mvA m b := by
      unfold mvA
      rw [if_pos h8]
    rw [hA]
    exact fin
  · rw [if_pos (by rw [show b % 10 / 2 = 4 by omega]; rfl)]
    have hA : rmv m b = mvA m b := by
      unfold mvA
      rw [if_neg h8]
    rw [hA]
    exact fin
