/-! they leave: the reference's side -/
def lvM (c r : Nat) (e : DS) (w o S p T : Nat) : DS :=
  let b := w * 10 + (S - 1)
  let e3 := dset (tkM (dset e 4 (w * 5 + o) (S % 10)) b) 15 (w * 5 + o) (p + 1)
  let s := 5 * lk (nb c r w ((b % 10 / 2 + 2) % 4) - 1) (b % 10 / 2) (b % 2) + T % 5
  let e4 := if b % 10 < 8 then dset e3 3 s (e 3 s + 1) else e3
  if o = 4 then e4 else dset e4 2 (lk w o (b % 2)) (e 2 (lk w o (b % 2)) - 1)
theorem k_leaves (F : Nat) {c r w o S p : Nat} {e : DS} (hF : 1000 ≤ F) (hG : GrM e c r) (hw : w < c * r) (ho : o < 5) (hS0 : S ≠ 0) (hS : S ≤ 10) (h15 : e 15 (w * 5 + o) = S) (h1 : 1 ≤ e 1 (w * 10 + (S - 1))) (h3 : e 1 (w * 10 + (S - 1)) ≤ 3) (hp : e 0 (3 * (w * 10 + (S - 1))) = p) (ht : e 18 4 < 100000) (hd : e 18 3 ≤ 3) (hn : S - 1 < 8 → nb c r w (((S - 1) / 2 + 2) % 4) ≠ 0) (hc : o ≠ 4 → 1 ≤ e 2 (lk w o ((S - 1) % 2))) : r_X8_leaves F (nI w) (nI o) (EM e) = some (0, EM (lvM c r e w o S p (e 18 4 + 1 + e 18 3))) := by
  have h16 := Gr16 hG.2.2
  have hx : w * 5 + o < 80 := by omega
  obtain ⟨S, rfl⟩ : ∃ k, S = k + 1 := ⟨S - 1, by omega⟩
  rw [Nat.add_sub_cancel] at h1 h3 hp hn hc
  obtain ⟨b, hb⟩ : ∃ b, b = w * 10 + S := ⟨_, rfl⟩
  rw [← hb] at h1 h3 hp
  have hb9 : b < 160 := by omega
  have hbi : b % 10 / 2 = S / 2 := by omega
  have hbl : b % 2 = S % 2 := by omega
  obtain ⟨e1, he1⟩ : ∃ e1, e1 = dset e 4 (w * 5 + o) ((S + 1) % 10) := ⟨_, rfl⟩
  have htk := k_takes F (e := e1) hF hb9 (by rw [he1]; exact h1) (by rw [he1]; exact h3)
  have hp1 : e1 0 (3 * b) = p := by
    rw [he1]
    exact hp
  rw [hp1] at htk
  obtain ⟨e3, he3⟩ : ∃ e3, e3 = dset (tkM e1 b) 15 (w * 5 + o) (p + 1) := ⟨_, rfl⟩
  have r2 : e3 2 = e 2 := by rw [he3, he1]; rfl
  have r3 : e3 3 = e 3 := by rw [he3, he1]; rfl
  have r18 : e3 18 = e 18 := by rw [he3, he1]; rfl
  have hG3 : GrM e3 c r := by
    unfold GrM
    rw [r18]
    exact hG
  have tail : ∀ e4 : DS, e4 2 = e 2 → r_X8_leaves_b109 F (nI w) (nI o) (nI (S % 2)) (EM e4) = some (0, EM (if o = 4 then e4 else dset e4 2 (lk w o (S % 2)) (e 2 (lk w o (S % 2)) - 1))) := by
    intro e4 h42
    unfold r_X8_leaves_b109 r_X8_leaves_b130
    by_cases h4 : o = 4
    · rw [if_pos (by rw [h4]; decide), if_pos h4]
    · have hlk : lk w o (S % 2) < 128 := by
        show w * 8 + 2 * o + S % 2 < 128
        omega
      rw [if_neg (by rw [x_l4, x_le (by decide) (by omega)]; omega), if_neg h4, k_linkOf, x_obS, x_ogT (x_inT hlk (by omega)), x_ogT (x_inT hlk (by omega))]
      show some ((0 : Int32), cset (EM e4) 2 (nI (lk w o (S % 2))).toNatClampNeg (EM e4 2 (nI (lk w o (S % 2))).toNatClampNeg - (1 : Int32))) = _
      rw [x_cl (by omega), EM_2, h42, x_l1, x_subN (hc h4), EMs_2]
  have hlv : lvM c r e w o (S + 1) p (e 18 4 + 1 + e 18 3) = if o = 4 then (if b % 10 < 8 then dset e3 3 (5 * lk (nb c r w ((S / 2 + 2) % 4) - 1) (S / 2) (S % 2) + (e 18 4 + 1 + e 18 3) % 5) (e 3 (5 * lk (nb c r w ((S / 2 + 2) % 4) - 1) (S / 2) (S % 2) + (e 18 4 + 1 + e 18 3) % 5) + 1) else e3) else dset (if b % 10 < 8 then dset e3 3 (5 * lk (nb c r w ((S / 2 + 2) % 4) - 1) (S / 2) (S % 2) + (e 18 4 + 1 + e 18 3) % 5) (e 3 (5 * lk (nb c r w ((S / 2 + 2) % 4) - 1) (S / 2) (S % 2) + (e 18 4 + 1 + e 18 3) % 5) + 1) else e3) 2 (lk w o (S % 2)) (e 2 (lk w o (S % 2)) - 1) := by
    unfold lvM
    simp only [Nat.add_sub_cancel, ← hb, hbi, hbl, ← he1, ← he3]
  rw [hlv]
  have a15 : x_at (EM e) 15 (nI (w * 5 + o)) = nI S := by
    show EM e 15 (nI (w * 5 + o)).toNatClampNeg = _
    rw [x_cl (by omega), EM_15, h15, mI_s]
  have a4 : x_st (EM e) 4 (nI (w * 5 + o)) (nI ((S + 1) % 10)) = EM e1 := by
    show cset (EM e) 4 (nI (w * 5 + o)).toNatClampNeg _ = _
    rw [x_cl (by omega), EMs_4, he1]
  have b15 : x_st (EM (tkM e1 b)) 15 (nI (w * 5 + o)) (nI p) = EM e3 := by
    show cset (EM (tkM e1 b)) 15 (nI (w * 5 + o)).toNatClampNeg _ = _
    rw [x_cl (by omega), EMs_15n, he3]
  unfold r_X8_leaves
  rw [x_l5, pk_mul, nI_add, x_oiS, x_ogT (x_inT hx (by omega)), x_oiS, a15, x_ogT (x_inT hx (by omega)), x_l1, nI_add, x_r10 (by omega), a4, x_osS, x_d2 (by omega), x_oiS, x_r2 (by omega), x_oiS, x_l10, pk_mul, nI_add, ← hb, htk, x_obS, x_ogT (x_inT hx (by omega)), b15, x_osS]
  by_cases h8 : b % 10 < 8
  · have hS8 : S < 8 := by omega
    have hv := hn hS8
    have hb1 := nb_lt (dir := (S / 2 + 2) % 4) hG.2.2 hw
    have hlk : lk (nb c r w ((S / 2 + 2) % 4) - 1) (S / 2) (S % 2) < 128 := by
      show (nb c r w ((S / 2 + 2) % 4) - 1) * 8 + 2 * (S / 2) + S % 2 < 128
      omega
    have hm5 : (e 18 4 + 1 + e 18 3) % 5 < 5 := Nat.mod_lt _ (by decide)
    rw [if_neg (by rw [x_l4, x_le (by decide) (by omega)]; omega), x_l2, nI_add, x_r4 (by omega), k_neighbour F _ hG3 hw (Nat.mod_lt _ (by decide)), x_obS, mI_p hv, k_linkOf, x_obS]
    have e18 : x_rem (EM e3 18 4 + nI 1 + EM e3 18 3) (nI 5) = nI ((e 18 4 + 1 + e 18 3) % 5) := by
      rw [EM_18, EM_18, r18, nI_add, nI_add, x_remN (by omega) (by decide) (by decide)]
    rw [e18, pk_mul, nI_add]
    rw [x_ogT (x_inT (by omega) (by omega)), x_ogT (x_inT (by omega) (by omega)), x_osS]
    have hst : x_st (EM e3) 3 (nI (5 * lk (nb c r w ((S / 2 + 2) % 4) - 1) (S / 2) (S % 2) + (e 18 4 + 1 + e 18 3) % 5)) (x_at (EM e3) 3 (nI (5 * lk (nb c r w ((S / 2 + 2) % 4) - 1) (S / 2) (S % 2) + (e 18 4 + 1 + e 18 3) % 5)) + nI 1) = EM (dset e3 3 (5 * lk (nb c r w ((S / 2 + 2) % 4) - 1) (S / 2) (S % 2) + (e 18 4 + 1 + e 18 3) % 5) (e 3 (5 * lk (nb c r w ((S / 2 + 2) % 4) - 1) (S / 2) (S % 2) + (e 18 4 + 1 + e 18 3) % 5) + 1)) := by
      show cset (EM e3) 3 _ (EM e3 3 (nI _).toNatClampNeg + nI 1) = _
      rw [x_cl (by omega), EM_3, nI_add, EMs_3, r3]
    rw [hst, tail _ (by funext i; rw [dset_n _ _ _ _ (by decide), r2]), if_pos h8]
  · rw [if_pos (by rw [x_l4, x_le (by decide) (by omega)]; omega), tail e3 r2, if_neg h8]
