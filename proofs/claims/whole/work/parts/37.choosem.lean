/-! who goes: the reference's side -/
theorem dset_id {d : DS} {k i v : Nat} (h : d k i = v) : dset d k i v = d := by
  funext k' j
  rw [dset_a]
  split
  · rename_i q
    rw [q.1, q.2, h]
  · rfl
theorem dset_2 (d : DS) (k i v v' : Nat) : dset (dset d k i v) k i v' = dset d k i v' := by
  funext k' j
  simp only [dset_a]
  split <;> rfl
def rbM (c r : Nat) (e : DS) (w o j : Nat) : Nat := if 0 < e 1 (w * 10 + j) ∧ wt c w (e 8 (e 0 (3 * (w * 10 + j)))) (e 11 (e 0 (3 * (w * 10 + j)))) = o ∧ cgM c r e w o (j % 2) = 1 then 1 else 0
theorem cgM_le (c r : Nat) (e : DS) (w o l : Nat) : cgM c r e w o l ≤ 1 := by
  unfold cgM
  split
  · omega
  · split <;> omega
theorem k_ch16 (F : Nat) {c r w o : Nat} {e : DS} (hG : GrM e c r) (hw : w < c * r) (ho : o < 5) (hn : o < 4 → ¬ nb c r w o = 0) (ht : e 4 (w * 5 + o) < 10) (hp : ∀ j, j < 10 → 0 < e 1 (w * 10 + j) → e 0 (3 * (w * 10 + j)) < 80 ∧ e 8 (e 0 (3 * (w * 10 + j))) < c * r ∧ e 11 (e 0 (3 * (w * 10 + j))) < 2) (h1 : ∀ b, b < 160 → e 1 b ≤ 3) (h7 : ∀ i, i < 16 → e 7 i < 2) (h2 : ∀ l, l < 2 → o < 4 → e 2 (lk w o l) < 1000) (h15 : e 15 (w * 5 + o) = 0) : ∀ (m n s : Nat), s + m = 10 → m + 2 ≤ n → r_X8_chooses_b16 F n (nI w) (nI o) (nI (w * 5 + o)) (nI s) (EM e) = some (0, EM (dset e 15 (w * 5 + o) (srch (rbM c r e w o) (e 4 (w * 5 + o)) m s))) := by
  have h16 := Gr16 hG.2.2
  have hx : w * 5 + o < 80 := by omega
  intro m
  induction m with
  | zero =>
    intro n s q1 q2
    obtain ⟨n, rfl⟩ : ∃ k, n = k + 1 := ⟨n - 1, by omega⟩
    obtain rfl : s = 10 := by omega
    rw [r_X8_chooses_b16_s, if_pos (by decide), srch, dset_id h15]
    rfl
  | succ m ih =>
    intro n s q1 q2
    obtain ⟨n, rfl⟩ : ∃ k, n = k + 1 := ⟨n - 1, by omega⟩
    obtain ⟨p, hpd⟩ : ∃ p, p = (e 4 (w * 5 + o) + s) % 10 := ⟨_, rfl⟩
    have hp10 : p < 10 := by omega
    have hb : w * 10 + p < 160 := by omega
    have hb1 := h1 _ hb
    have a15 : x_at (EM e) 15 (nI (w * 5 + o)) = mI 0 := by
      show EM e 15 (nI (w * 5 + o)).toNatClampNeg = mI 0
      rw [x_cl (by omega), EM_15, h15]
    have a4 : x_at (EM e) 4 (nI (w * 5 + o)) = nI (e 4 (w * 5 + o)) := by
      show EM e 4 (nI (w * 5 + o)).toNatClampNeg = _
      rw [x_cl (by omega), EM_4]
    have a1 : x_at (EM e) 1 (nI (w * 10 + p)) = nI (e 1 (w * 10 + p)) := by
      show EM e 1 (nI (w * 10 + p)).toNatClampNeg = _
      rw [x_cl (by omega), EM_1]
    have a0 : x_at (EM e) 0 (nI (3 * (w * 10 + p))) = nI (e 0 (3 * (w * 10 + p))) := by
      show EM e 0 (nI (3 * (w * 10 + p))).toNatClampNeg = _
      rw [x_cl (by omega), EM_0]
    have no : r_X8_chooses_b100 (r_X8_chooses_b16 F n) F (nI w) (nI o) (nI (w * 5 + o)) (nI s) (nI p) (EM e) = r_X8_chooses_b16 F n (nI w) (nI o) (nI (w * 5 + o)) (nI (s + 1)) (EM e) := by
      unfold r_X8_chooses_b100 r_X8_chooses_b101 r_X8_chooses_b119
      rw [if_pos rfl, x_ogT (x_inT hx (by omega))]
      show r_X8_chooses_b16 F n (nI w) (nI o) (nI (w * 5 + o)) (nI s + 1) (cset (EM e) 15 (nI (w * 5 + o)).toNatClampNeg (mI 0)) = _
      rw [x_cl (by omega), EMs_15, dset_id h15, x_l1, nI_add]
    have yes : r_X8_chooses_b101 (r_X8_chooses_b16 F n) F (nI w) (nI o) (nI (w * 5 + o)) (nI s) (nI p) (1 : Int32) (EM e) = some (0, EM (dset e 15 (w * 5 + o) (p + 1))) := by
      obtain ⟨n, rfl⟩ : ∃ k, n = k + 1 := ⟨n - 1, by omega⟩
      unfold r_X8_chooses_b101 r_X8_chooses_b119
      rw [if_neg (by decide), x_ogT (x_inT hx (by omega))]
      show r_X8_chooses_b16 F (n + 1) (nI w) (nI o) (nI (w * 5 + o)) (nI s + 1) (cset (EM e) 15 (nI (w * 5 + o)).toNatClampNeg (nI p)) = _
      rw [x_cl (by omega), EMs_15n, x_l1, nI_add, r_X8_chooses_b16_s]
      by_cases hs : s + 1 = 10
      · rw [if_pos (by rw [hs]; decide)]
        rfl
      · rw [if_neg (by rw [x_l10, x_le (by decide) (by omega)]; omega), x_ogT (x_inT hx (by omega)), if_pos]
        · rfl
        · show (0 : Int32) ≤ EM (dset e 15 (w * 5 + o) (p + 1)) 15 (nI (w * 5 + o)).toNatClampNeg
          rw [x_cl (by omega), EM_15, dset_s, mI_s, x_l0, x_le (by decide) (by omega)]
          exact Nat.zero_le _
    rw [r_X8_chooses_b16_s, if_neg (by rw [x_l10, x_le (by decide) (by omega)]; omega), x_ogT (x_inT hx (by omega)), a15, if_neg (by decide), x_ogT (x_inT hx (by omega)), a4, nI_add, x_r10 (by omega), x_oiS, ← hpd, x_l10, pk_mul, nI_add, x_oiS, x_ogT (x_inT hb (by omega)), a1]
    rw [srch, ← hpd]
    by_cases g0 : 0 < e 1 (w * 10 + p)
    · obtain ⟨b1, b2, b3⟩ := hp p hp10 g0
      rw [if_neg (by rw [x_l0, x_le (by omega) (by decide)]; omega), x_l3, pk_mul, x_ogT (x_inT (by omega) (by omega)), a0, k_wanted F hG hw b1 b2 b3, x_obS]
      by_cases g1 : wt c w (e 8 (e 0 (3 * (w * 10 + p)))) (e 11 (e 0 (3 * (w * 10 + p)))) = o
      · have hcl := cgM_le c r e w o (p % 2)
        have hcg : r_X8_canGo F (nI w) (nI o) (nI (p % 2)) (EM e) = some (nI (cgM c r e w o (p % 2)), EM e) := by
          by_cases h4 : o < 4
          · exact k_canGo F hG hw ho (by omega) h7 (h2 _ (by omega) h4) hn
          · obtain rfl : o = 4 := by omega
            unfold r_X8_canGo r_X8_canGo_b33 r_X8_canGo_b37 r_X8_canGo_b38 cgM
            rfl
        rw [g1, if_pos rfl, x_r2 (by omega), hcg, x_obS]
        by_cases g2 : cgM c r e w o (p % 2) = 1
        · have hf : rbM c r e w o p = 1 := by
            unfold rbM
            rw [if_pos ⟨g0, g1, g2⟩]
          rw [g2, if_neg (by decide), hf, if_neg (by decide)]
          exact yes
        · have hf : rbM c r e w o p = 0 := by
            unfold rbM
            rw [if_neg (fun z => g2 z.2.2)]
          rw [show cgM c r e w o (p % 2) = 0 by omega, if_pos (by rfl), hf, if_pos rfl, no]
          exact ih n (s + 1) (by omega) (by omega)
      · have hf : rbM c r e w o p = 0 := by
          unfold rbM
          rw [if_neg (fun z => g1 z.2.1)]
        have hw4 := wt_le c w (e 8 (e 0 (3 * (w * 10 + p)))) (e 11 (e 0 (3 * (w * 10 + p))))
        rw [if_neg (by rw [x_eq (by omega) (by omega)]; exact g1), hf, if_pos rfl, no]
        exact ih n (s + 1) (by omega) (by omega)
    · have hf : rbM c r e w o p = 0 := by
        unfold rbM
        rw [if_neg (fun z => g0 z.1)]
      rw [if_pos (by rw [x_l0, x_le (by omega) (by decide)]; omega), hf, if_pos rfl, no]
      exact ih n (s + 1) (by omega) (by omega)
theorem srch_c {f g : Nat → Nat} (h : ∀ j, j < 10 → f j = g j) (t : Nat) : ∀ m s, srch f t m s = srch g t m s := by
  intro m
  induction m with
  | zero => exact fun _ => rfl
  | succ m ih =>
    intro s
    rw [srch, srch, h _ (Nat.mod_lt _ (by decide)), ih]
theorem JM.row15 {c r : Nat} {d e e1 : DS} (h : JM c r d e) (hk : ∀ k, k ≠ 15 → e1 k = e k) : JM c r d e1 := by
  obtain ⟨ji, ra, rb, rp, rq, rl⟩ := h
  refine ⟨ji, ?_, ?_, ?_, ?_, ?_⟩
  · unfold RA2
    rw [hk 18 (by decide)]
    exact ra
  · unfold RB
    rw [hk 7 (by decide), hk 5 (by decide), hk 6 (by decide), hk 4 (by decide)]
    exact rb
  · unfold RP
    rw [hk 8 (by decide), hk 9 (by decide), hk 10 (by decide), hk 11 (by decide), hk 12 (by decide), hk 13 (by decide), hk 14 (by decide)]
    exact rp
  · unfold RQ
    rw [hk 0 (by decide), hk 1 (by decide)]
    exact rq
  · unfold RLm
    rw [hk 2 (by decide), hk 3 (by decide)]
    exact rl
theorem JM.grm {c r : Nat} {d e : DS} (h : JM c r d e) : GrM e c r := by
  obtain ⟨⟨⟨⟨g1, g2, g3, -⟩, -⟩, -⟩, ⟨a1, a2, -⟩, -⟩ := h
  exact ⟨a1.trans g1, a2.trans g2, g3⟩
theorem JM.rbe {c r : Nat} {d e : DS} (h : JM c r d e) {w o j : Nat} (hw : w < c * r) (ho : o < 5) (hn : o < 4 → ¬ nb c r w o = 0) (hj : j < 10) : rbM c r e w o j = rb c r d w o j ∧ (0 < e 1 (w * 10 + j) → e 0 (3 * (w * 10 + j)) < 80 ∧ e 8 (e 0 (3 * (w * 10 + j))) < c * r ∧ e 11 (e 0 (3 * (w * 10 + j))) < 2) := by
  obtain ⟨ji, ra, rb1, rp, rq, rl⟩ := h
  have hN := ji.1.1.2.2.1
  have h16 := Gr16 hN
  have hb : w * 10 + j < 160 := by omega
  obtain ⟨y1, y2⟩ := rq _ hb
  by_cases h0 : 0 < d 15 (w * 10 + j)
  · have y3 := y2 0 h0
    rw [Nat.add_zero] at y3
    have y4 : e 0 (3 * (w * 10 + j)) = hd d (w * 10 + j) := y3
    obtain ⟨q1, q2, q3, q4, q5, q6, q7, q8⟩ := ji.head hw hj h0
    obtain ⟨z1, z2, z3, z4, z5, z6, z7⟩ := rp _ q1
    have h80 := ji.1.2.2.2.2.2
    refine ⟨?_, fun _ => by rw [y4, z2, z4]; exact ⟨by omega, q5, q6⟩⟩
    unfold rbM rb
    rw [y1, y4, z2, z4, q4]
    have hc : cgM c r e w o (j % 2) = cgo c r d w o (j % 2) := by
      unfold cgM cgo
      by_cases h4 : o = 4
      · rw [if_pos h4, if_pos h4]
      · have hnb := hn (by omega)
        have hb1 := nb_lt (dir := o) hN hw
        rw [if_neg h4, if_neg h4, if_neg hnb, (rl w hw o (by omega) hnb (j % 2) (by omega)).1, (rb1.1 _ (show nb c r w o - 1 < 16 by omega)).1]
        by_cases g1 : d 0 (nb c r w o - 1) = 0
        · by_cases g2 : 0 < d 16 (bf (nb c r w o - 1) o (j % 2))
          · rw [if_pos ⟨g2, g1⟩, if_pos ⟨g1, g2⟩]
          · rw [if_neg (fun z => g2 z.1), if_neg (fun z => g2 z.2)]
        · rw [if_neg (fun z => g1 z.2), if_neg (fun z => g1 z.1)]
    rw [hc]
  · refine ⟨?_, fun g => absurd g (by rw [y1]; exact h0)⟩
    unfold rbM rb
    rw [if_neg (fun z => h0 (by rw [← y1]; exact z.1)), if_neg (fun z => h0 z.1)]
theorem k_chooses (F : Nat) {c r w o : Nat} {d e : DS} (hF : 1000 ≤ F) (h : JM c r d e) (hw : w < c * r) (ho : o < 5) (hn : o < 4 → ¬ nb c r w o = 0) : r_X8_chooses F (nI w) (nI o) (EM e) = some (0, EM (dset e 15 (w * 5 + o) (sl c r d (w * 5 + o)))) := by
  have h16 := Gr16 h.1.1.1.2.2.1
  have hx : w * 5 + o < 80 := by omega
  have h1 := h.row15 (e1 := dset e 15 (w * 5 + o) 0) (fun k hk => funext fun i => dset_n _ _ _ _ hk i)
  have hk := k_ch16 F h1.grm hw ho hn (e := dset e 15 (w * 5 + o) 0) (by
    rw [h1.2.2.1.2 _ hx]
    exact h.1.2.1.2 _ hx) (fun j hj h0 => (h1.rbe hw ho hn hj).2 h0) (fun b hb => by
    have := (h1.2.2.2.2.1 b hb).1
    have := (h.1.2.2.2.1 b hb).1
    have := h.1.1.2.2.1
    omega) (fun i hi => by
    rw [(h1.2.2.1.1 i hi).1]
    exact (h.1.2.1.1 i hi).1) (fun l hl h4 => by
    have hb1 := nb_lt (dir := o) h.1.1.1.2.2.1 hw
    have hb9 : bf (nb c r w o - 1) o l < 160 := by
      show (nb c r w o - 1) * 10 + 2 * o + l < 160
      omega
    have := (h1.2.2.2.2.2 w hw o h4 (hn h4) l hl).1
    have := h.1.2.2.2.2.2.2.1.1 _ hb9
    omega) (dset_s _ _ _ _) 10 F 0 (by omega) (by omega)
  rw [dset_2, srch_c (fun j hj => (h1.rbe hw ho hn hj).1), h1.2.2.1.2 _ hx] at hk
  have hs : srch (rb c r d w o) (d 1 (w * 5 + o)) 10 0 = sl c r d (w * 5 + o) := by
    unfold sl
    rw [show (w * 5 + o) / 5 = w by omega, show (w * 5 + o) % 5 = o by omega]
  rw [hs] at hk
  unfold r_X8_chooses
  rw [x_l5, pk_mul, nI_add, x_oiS, x_ogT (x_inT hx (by omega))]
  show r_X8_chooses_b16 F F (nI w) (nI o) (nI (w * 5 + o)) 0 (cset (EM e) 15 (nI (w * 5 + o)).toNatClampNeg (mI 0)) = _
  rw [x_cl (by omega), EMs_15, x_l0]
  exact hk
theorem sl_none {c r w o : Nat} {d : DS} (ho : o < 4) (h0 : nb c r w o = 0) : sl c r d (w * 5 + o) = 0 := by
  unfold sl
  rw [show (w * 5 + o) / 5 = w by omega, show (w * 5 + o) % 5 = o by omega]
  refine srch_0 (fun j hj => ?_) 10 0
  unfold rb
  rw [if_neg]
  intro z
  have := z.2.2
  unfold cgo at this
  rw [if_neg (by omega), if_pos h0] at this
  omega
theorem k_t20 (F : Nat) {c r a : Nat} {d e : DS} (hF : 1000 ≤ F) (h : JM c r d e) : ∀ (m n x : Nat) (e1 : DS), x + m = c * r * 5 → m + 1 ≤ n → (∀ k, k ≠ 15 → e1 k = e k) → (∀ i, i < x → e1 15 i = sl c r d i) → ∃ e2, r_X8_ticks_b20 F n (nI a) (nI (c * r * 5)) (nI x) (EM e1) = r_X8_ticks_b70 F F (nI a) (nI (c * r * 5)) (nI 0) (EM e2) ∧ (∀ k, k ≠ 15 → e2 k = e k) ∧ ∀ i, i < c * r * 5 → e2 15 i = sl c r d i := by
  have hN := h.1.1.1.2.2.1
  have h16 := Gr16 hN
  intro m
  induction m with
  | zero =>
    intro n x e1 q1 q2 hk hs
    obtain ⟨n, rfl⟩ : ∃ k, n = k + 1 := ⟨n - 1, by omega⟩
    obtain rfl : x = c * r * 5 := by omega
    refine ⟨e1, ?_, hk, hs⟩
    rw [r_X8_ticks_b20_s, if_pos (by rw [x_le (by omega) (by omega)]; omega)]
    rfl
  | succ m ih =>
    intro n x e1 q1 q2 hk hs
    obtain ⟨n, rfl⟩ : ∃ k, n = k + 1 := ⟨n - 1, by omega⟩
    have hx : x < 80 := by omega
    obtain ⟨w, hw5⟩ : ∃ w, w = x / 5 := ⟨_, rfl⟩
    obtain ⟨o, ho5⟩ : ∃ o, o = x % 5 := ⟨_, rfl⟩
    have hw : w < c * r := by omega
    have ho : o < 5 := by omega
    have hxe : w * 5 + o = x := by omega
    have hj0 := h.row15 (e1 := dset e1 15 x 0) (fun k k1 => (funext fun i => dset_n _ _ _ _ k1 i).trans (hk k k1))
    have nxt : ∀ e3 : DS, (∀ k, k ≠ 15 → e3 k = e1 k) → (∀ i, i < x → e3 15 i = e1 15 i) → e3 15 x = sl c r d x → ∃ e2, r_X8_ticks_b20 F n (nI a) (nI (c * r * 5)) (nI (x + 1)) (EM e3) = r_X8_ticks_b70 F F (nI a) (nI (c * r * 5)) (nI 0) (EM e2) ∧ (∀ k, k ≠ 15 → e2 k = e k) ∧ ∀ i, i < c * r * 5 → e2 15 i = sl c r d i := fun e3 g1 g2 g3 =>
      ih n (x + 1) e3 (by omega) (by omega) (fun k k1 => (g1 k k1).trans (hk k k1)) (fun i hi => by
        by_cases hix : i = x
        · rw [hix, g3]
        · rw [g2 i (by omega), hs i (by omega)])
    have go : (o < 4 → ¬ nb c r w o = 0) → ∃ e2, r_X8_ticks_b52 (r_X8_ticks_b20 F n) F (nI a) (nI (c * r * 5)) (nI x) (EM (dset e1 15 x 0)) = r_X8_ticks_b70 F F (nI a) (nI (c * r * 5)) (nI 0) (EM e2) ∧ (∀ k, k ≠ 15 → e2 k = e k) ∧ ∀ i, i < c * r * 5 → e2 15 i = sl c r d i := fun hn => by
      have hc := k_chooses F hF hj0 hw ho hn
      rw [hxe, dset_2] at hc
      obtain ⟨e2, f1, f2⟩ := nxt (dset e1 15 x (sl c r d x)) (fun k k1 => funext fun i => dset_n _ _ _ _ k1 i) (fun i hi => dset_o _ _ _ _ (by omega)) (dset_s _ _ _ _)
      refine ⟨e2, ?_, f2⟩
      unfold r_X8_ticks_b52 r_X8_ticks_b62
      rw [x_d5 (by omega), x_r5 (by omega), ← hw5, ← ho5, hc, x_obS, x_l1, nI_add]
      exact f1
    rw [r_X8_ticks_b20_s, if_neg (by rw [x_le (by omega) (by omega)]; omega), x_ogT (x_inT hx (by omega))]
    have hst : x_st (EM e1) 15 (nI x) (-1 : Int32) = EM (dset e1 15 x 0) := by
      show cset (EM e1) 15 (nI x).toNatClampNeg (mI 0) = _
      rw [x_cl (by omega), EMs_15]
    rw [hst, x_osS, x_r5 (by omega), ← ho5]
    by_cases h4 : o = 4
    · rw [if_pos (by rw [h4]; rfl)]
      exact go (fun g => by omega)
    · rw [if_neg (by rw [x_l4, x_eq (by omega) (by decide)]; exact h4), x_d5 (by omega), ← hw5, k_neighbour F o hj0.grm hw (by omega), x_obS]
      have hb1 := nb_lt (dir := o) hN hw
      by_cases h0 : nb c r w o = 0
      · rw [h0, if_pos (by decide)]
        unfold r_X8_ticks_b62
        rw [x_l1, nI_add]
        have hsl := sl_none (d := d) (show o < 4 by omega) h0
        rw [hxe] at hsl
        exact nxt (dset e1 15 x 0) (fun k k1 => funext fun i => dset_n _ _ _ _ k1 i) (fun i hi => dset_o _ _ _ _ (by omega)) ((dset_s _ _ _ _).trans hsl.symm)
      · rw [if_neg (by rw [x_l0, x_m0 (by omega)]; exact h0)]
        exact go (fun _ => h0)
