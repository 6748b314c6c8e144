/-! waiting circles -/
theorem wt_nb {c r w g m : Nat} (hN : GrN c r) (hw : w < c * r) (hg : g < c * r) (h4 : wt c w g m ≠ 4) : nb c r w (wt c w g m) ≠ 0 := by
  obtain ⟨a1, a2⟩ := Grm hN hw
  obtain ⟨b1, b2⟩ := Grm hN hg
  obtain ⟨n1, n2, n3, n4⟩ := hN
  have k0 : w % c < g % c → nb c r w 0 ≠ 0 := fun h => by
    change (if w % c + 1 < c then w + 2 else 0) ≠ 0
    rw [if_pos (by omega)]
    omega
  have k1 : w / c < g / c → nb c r w 1 ≠ 0 := fun h => by
    change (if w / c + 1 < r then w + c + 1 else 0) ≠ 0
    rw [if_pos (by omega)]
    omega
  have k2 : g % c < w % c → nb c r w 2 ≠ 0 := fun h => by
    change (if 0 < w % c then w else 0) ≠ 0
    rw [if_pos (by omega)]
    intro z
    rw [z, Nat.zero_mod] at h
    omega
  have k3 : g / c < w / c → nb c r w 3 ≠ 0 := fun h => by
    change (if 0 < w / c then w - c + 1 else 0) ≠ 0
    rw [if_pos (Nat.lt_of_le_of_lt (Nat.zero_le _) h)]
    omega
  unfold wt at h4 ⊢
  by_cases hm : m = 0
  · rw [if_pos hm] at h4 ⊢
    by_cases hx : w % c = g % c
    · rw [if_pos hx] at h4 ⊢
      by_cases hy : w / c = g / c
      · rw [if_pos hy] at h4
        exact absurd rfl h4
      · rw [if_neg hy]
        by_cases hz : w / c < g / c
        · rw [if_pos hz]
          exact k1 hz
        · rw [if_neg hz]
          exact k3 (by omega)
    · rw [if_neg hx]
      by_cases hz : w % c < g % c
      · rw [if_pos hz]
        exact k0 hz
      · rw [if_neg hz]
        exact k2 (by omega)
  · rw [if_neg hm] at h4 ⊢
    by_cases hy : w / c = g / c
    · rw [if_pos hy] at h4 ⊢
      by_cases hx : w % c = g % c
      · rw [if_pos hx] at h4
        exact absurd rfl h4
      · rw [if_neg hx]
        by_cases hz : w % c < g % c
        · rw [if_pos hz]
          exact k0 hz
        · rw [if_neg hz]
          exact k2 (by omega)
    · rw [if_neg hy]
      by_cases hz : w / c < g / c
      · rw [if_pos hz]
        exact k1 hz
      · rw [if_neg hz]
        exact k3 (by omega)
/-- what a buffer waits for, and one; 0: for none -/
def nx (c r : Nat) (d : DS) (b : Nat) : Nat := if 0 < d 15 b then (if nxt c r (b / 10) (wt c (b / 10) (d 7 (hd d b)) (d 9 (hd d b))) (b % 2) = 0 then 0 else if d 15 (nxt c r (b / 10) (wt c (b / 10) (d 7 (hd d b)) (d 9 (hd d b))) (b % 2) - 1) < d 22 6 then 0 else nxt c r (b / 10) (wt c (b / 10) (d 7 (hd d b)) (d 9 (hd d b))) (b % 2)) else 0
theorem nxt_le {c r w o l : Nat} (hN : GrN c r) (hw : w < c * r) (hl : l < 2) : nxt c r w o l ≤ c * r * 10 ∧ (o = 4 → nxt c r w o l = 0) := by
  unfold nxt
  have hb1 := nb_lt (dir := o) hN hw
  refine ⟨?_, fun h => ?_⟩
  · split
    · exact Nat.zero_le _
    · rename_i h
      have h4 : o < 4 := by
        rcases Nat.lt_or_ge o 4 with g | g
        · exact g
        · exact absurd (by
            obtain ⟨k, rfl⟩ : ∃ k, o = k + 4 := ⟨o - 4, by omega⟩
            rfl) h
      show (nb c r w o - 1) * 10 + 2 * o + l + 1 ≤ c * r * 10
      omega
  · rw [h, if_pos]
    rfl
theorem nx_le {c r : Nat} {d : DS} (hN : GrN c r) {b : Nat} (hb : b < c * r * 10) : nx c r d b ≤ c * r * 10 := by
  have := (nxt_le (o := wt c (b / 10) (d 7 (hd d b)) (d 9 (hd d b))) hN (show b / 10 < c * r by omega) (show b % 2 < 2 from Nat.mod_lt _ (by decide))).1
  unfold nx
  split
  · split
    · exact Nat.zero_le _
    · split
      · exact Nat.zero_le _
      · exact this
  · exact Nat.zero_le _
theorem JJ.ji {c r : Nat} {d e : DS} (h : JJ c r d e) : JI c r d := ⟨h.1, h.2.1, h.2.2.1, h.2.2.2.1, h.2.2.2.2.1, h.2.2.2.2.2.1, h.2.2.2.2.2.2.1, h.2.2.2.2.2.2.2.1⟩
theorem n_awaitedBy (F : Nat) {c r : Nat} {d : DS} (hJ : JI c r d) {b : Nat} (hb : b < c * r * 10) : r_X1_awaitedBy F (nI b) (E d) = some (mI (nx c r d b), E d) := by
  have hN := hJ.1.1.2.2.1
  have h16 := Gr16 hN
  have hb9 : b < 160 := by omega
  have hbe : b / 10 * 10 + b % 10 = b := by omega
  have hs := (hJ.2.2.2.1 b hb9).1
  obtain ⟨j6, j6', j7, j1, j80⟩ := hJ.1.2
  unfold r_X1_awaitedBy r_X1_awaitedBy_b71 r_X1_awaitedBy_b72 nx
  rw [n_first F hb9 (by omega), x_obS]
  by_cases h0 : 0 < d 15 b
  · obtain ⟨q1, q2, q3, q4, q5, q6, q7, q8⟩ := hJ.head (w := b / 10) (j := b % 10) (by omega) (by omega) (by rw [hbe]; exact h0)
    rw [hbe] at q1 q2 q3 q4 q5 q6 q7 q8
    rw [if_pos h0, if_pos h0, show d 14 (3 * b) = hd d b from rfl]
    generalize hd d b = p at *
    have hp : p < 80 := by omega
    have hw : b / 10 < c * r := by omega
    rw [mI_s, if_neg (by rw [show (-1 : Int32) = mI 0 from rfl, x_nm (by omega)]; exact id), n_at_10 F _ hp, x_obS, n_outputOf F hJ.1.1 hp q2 hw q5 q6, x_obS, n_at_8 F _ hp, x_obS, q2, mI_s, q4, show b % 10 % 2 = b % 2 by omega]
    obtain ⟨o, ho⟩ : ∃ o, o = wt c (b / 10) (d 7 p) (d 9 p) := ⟨_, rfl⟩
    have ho4 := wt_le c (b / 10) (d 7 p) (d 9 p)
    rw [← ho] at ho4 ⊢
    have hle := (nxt_le (o := o) hN hw (show b % 2 < 2 from Nat.mod_lt _ (by decide))).1
    rw [n_nextBuffer F _ _ hJ.1.1 hw (by omega), x_obS]
    generalize nxt c r (b / 10) o (b % 2) = z at *
    by_cases hz : z = 0
    · rw [if_pos hz, hz, if_pos (by rfl)]
      rfl
    · have hz9 : z - 1 < 160 := by omega
      have hsz := (hJ.2.2.2.1 (z - 1) hz9).1
      rw [if_neg hz, if_neg (by rw [show (-1 : Int32) = mI 0 from rfl, x_meq (by omega) (by decide)]; exact hz), mI_p hz, n_isFull F hz9 (by omega) (by omega), x_obS]
      by_cases hf : d 15 (z - 1) < d 22 6
      · rw [if_pos hf, if_pos hf, if_pos (by rfl)]
        rfl
      · rw [if_neg hf, if_neg hf, if_neg (by decide), mI_p hz]
  · rw [if_neg h0, if_neg h0, if_pos (by rfl)]
    rfl
theorem k_waitsFor (F : Nat) {c r : Nat} {d e : DS} (hJ : JJ c r d e) {b : Nat} (hb : b < c * r * 10) : r_X8_waitsFor F (nI b) (EM e) = some (mI (nx c r d b), EM e) := by
  have hN := hJ.1.1.2.2.1
  have h16 := Gr16 hN
  have hb9 : b < 160 := by omega
  have hbe : b / 10 * 10 + b % 10 = b := by omega
  have hs := (hJ.2.2.2.1 b hb9).1
  obtain ⟨j6, j6', j7, j1, j80⟩ := hJ.1.2
  obtain ⟨y1, y2⟩ := hJ.2.2.2.2.2.2.2.2.2.2.2.1 b hb9
  have hz10 : nI b / (10 : Int32) = nI (b / 10) := x_dv 10 (by omega) (by decide) (by decide) 10 rfl
  have a1 : x_at (EM e) 1 (nI b) = nI (d 15 b) := by
    show EM e 1 (nI b).toNatClampNeg = _
    rw [x_cl (by omega), EM_1, y1]
  unfold r_X8_waitsFor r_X8_waitsFor_b72 nx
  rw [x_ogT (x_inT hb9 (by omega)), a1]
  by_cases h0 : 0 < d 15 b
  · obtain ⟨q1, q2, q3, q4, q5, q6, q7, q8⟩ := hJ.ji.head (w := b / 10) (j := b % 10) (by omega) (by omega) (by rw [hbe]; exact h0)
    rw [hbe] at q1 q2 q3 q4 q5 q6 q7 q8
    have y3 := y2 0 h0
    rw [Nat.add_zero] at y3
    have a0 : x_at (EM e) 0 (nI (3 * b)) = nI (hd d b) := by
      show EM e 0 (nI (3 * b)).toNatClampNeg = _
      rw [x_cl (by omega), EM_0, y3]
      rfl
    rw [if_pos h0, if_neg (by rw [x_l0, x_eq (by omega) (by decide)]; omega), hz10, x_oiS, x_l3, pk_mul, x_ogT (x_inT (by omega) (by omega)), a0]
    generalize hd d b = p at *
    obtain ⟨z1, z2, z3, z4, z5, z6, z7⟩ := hJ.2.2.2.2.2.2.2.2.2.2.1 p q1
    have hp : p < 80 := by omega
    have hw : b / 10 < c * r := by omega
    rw [k_wanted F hJ.grm hw hp (by rw [z2]; exact q5) (by rw [z4]; exact q6), x_obS, z2, z4]
    have hnb := wt_nb (m := d 9 p) hN hw q5
    obtain ⟨o, ho⟩ : ∃ o, o = wt c (b / 10) (d 7 p) (d 9 p) := ⟨_, rfl⟩
    have ho4 := wt_le c (b / 10) (d 7 p) (d 9 p)
    rw [← ho] at ho4 hnb ⊢
    by_cases h4 : o = 4
    · rw [if_pos (by rw [h4]; rfl), (nxt_le hN hw (Nat.mod_lt _ (by decide))).2 h4, if_pos rfl]
      rfl
    · have hn := hnb h4
      have hb1 := nb_lt (dir := o) hN hw
      have hnx : nxt c r (b / 10) o (b % 2) = bf (nb c r (b / 10) o - 1) o (b % 2) + 1 := by
        unfold nxt
        rw [if_neg hn]
      rw [if_neg (by rw [x_l4, x_eq (by omega) (by decide)]; exact h4), k_neighbour F o hJ.grm hw (by omega), x_obS, mI_p hn, x_r2 (by omega), k_bufferOf, x_obS, hnx, Nat.add_sub_cancel]
      have hz9 : bf (nb c r (b / 10) o - 1) o (b % 2) < 160 := by
        show (nb c r (b / 10) o - 1) * 10 + 2 * o + b % 2 < 160
        omega
      generalize bf (nb c r (b / 10) o - 1) o (b % 2) = z at *
      have hsz := (hJ.2.2.2.1 z hz9).1
      have a2 : x_at (EM e) 1 (nI z) = nI (d 15 z) := by
        show EM e 1 (nI z).toNatClampNeg = _
        rw [x_cl (by omega), EM_1, (hJ.2.2.2.2.2.2.2.2.2.2.2.1 z hz9).1]
      have a3 : EM e 18 2 = nI (d 22 6) := by rw [EM_18, hJ.2.2.2.2.2.2.2.2.1.2.2.1]
      rw [if_neg (show ¬ (z + 1 = 0) from Nat.succ_ne_zero _), x_ogT (x_inT hz9 (by omega)), a2, a3]
      by_cases hf : d 15 z < d 22 6
      · rw [if_pos hf, if_neg (by rw [x_eq (by omega) (by omega)]; omega)]
        rfl
      · rw [if_neg hf, if_pos (by rw [x_eq (by omega) (by omega)]; omega), mI_s]
  · rw [if_neg h0, if_pos (by rw [show d 15 b = 0 by omega]; rfl)]
    rfl
