/-! all go: the system's side -/
def src (c r : Nat) (d : DS) (x : Nat) : Nat := x / 5 * 10 + (sl c r d x - 1)
def mst (c r : Nat) (d d1 : DS) : Nat → DS
  | 0 => d1
  | x + 1 => if sl c r d x = 0 then mst c r d d1 x else mvC c r (mst c r d d1 x) (x / 5) (x % 5) (src c r d x) (pk c r d x)
def ALLP (c r : Nat) (d m : DS) (x : Nat) : Prop := ∀ y, x ≤ y → y < c * r * 5 → sl c r d y ≠ 0 → PRE c r m (y / 5) (y % 5) (src c r d y) (pk c r d y)
theorem ALLP.start {c r : Nat} {d d1 : DS} (hJ : JI c r d) (hC : CE d d1) : ALLP c r d d1 0 := by
  intro y _ hy hs
  have hN := hJ.1.1.2.2.1
  have h16 := Gr16 hN
  obtain ⟨kd, c5, h1⟩ := hC
  have hok := srch_ok (f := rb c r d (y / 5) (y % 5)) (t := d 1 y) (m := 10) (s := 0) hs
  change sl c r d y ≤ 10 ∧ rb c r d (y / 5) (y % 5) (sl c r d y - 1) ≠ 0 at hok
  obtain ⟨s10, hrb⟩ := hok
  unfold rb at hrb
  have hq : 0 < d 15 (y / 5 * 10 + (sl c r d y - 1)) ∧ wt c (y / 5) (d 7 (hd d (y / 5 * 10 + (sl c r d y - 1)))) (d 9 (hd d (y / 5 * 10 + (sl c r d y - 1)))) = y % 5 ∧ cgo c r d (y / 5) (y % 5) (d 8 (hd d (y / 5 * 10 + (sl c r d y - 1)))) = 1 := by
    by_cases z : 0 < d 15 (y / 5 * 10 + (sl c r d y - 1)) ∧ wt c (y / 5) (d 7 (hd d (y / 5 * 10 + (sl c r d y - 1)))) (d 9 (hd d (y / 5 * 10 + (sl c r d y - 1)))) = y % 5 ∧ cgo c r d (y / 5) (y % 5) (d 8 (hd d (y / 5 * 10 + (sl c r d y - 1)))) = 1
    · exact z
    · rw [if_neg z] at hrb
      exact absurd rfl hrb
  obtain ⟨g0, g1, g2⟩ := hq
  have hj : sl c r d y - 1 < 10 := by omega
  obtain ⟨q1, q2, q3, q4, q5, q6, q7, q8⟩ := hJ.head (show y / 5 < c * r by omega) hj g0
  refine ⟨by omega, by omega, ?_, ?_, ?_, ?_, fun h4 => ?_⟩
  · unfold src
    omega
  · rw [kd 15 (by decide) (by decide) (by decide) (by decide)]
    exact g0
  · unfold hd
    rw [kd 14 (by decide) (by decide) (by decide) (by decide)]
    rfl
  · rw [kd 7 (by decide) (by decide) (by decide) (by decide), kd 9 (by decide) (by decide) (by decide) (by decide)]
    exact g1
  · rw [q4] at g2
    unfold cgo at g2
    rw [if_neg (by omega)] at g2
    by_cases h0 : nb c r (y / 5) (y % 5) = 0
    · rw [if_pos h0] at g2
      omega
    · rw [if_neg h0] at g2
      refine ⟨h0, ?_⟩
      have e2 : src c r d y % 2 = (sl c r d y - 1) % 2 := by
        unfold src
        omega
      rw [kd 16 (by decide) (by decide) (by decide) (by decide), e2]
      by_cases z : d 0 (nb c r (y / 5) (y % 5) - 1) = 0 ∧ 0 < d 16 (bf (nb c r (y / 5) (y % 5) - 1) (y % 5) ((sl c r d y - 1) % 2))
      · exact z.2
      · rw [if_neg z] at g2
        omega
theorem ALLP.next {c r : Nat} {d m m' : DS} {x : Nat} (hJ : JI c r m) (h : ALLP c r d m x) (hx : x < c * r * 5) (hs : sl c r d x ≠ 0) (hM : MV c r m m' (x / 5) (x % 5) (src c r d x) (pk c r d x)) : ALLP c r d m' (x + 1) := by
  intro y hxy hy hsy
  have hN := hJ.1.1.2.2.1
  have h16 := Gr16 hN
  have hP := h x (Nat.le_refl _) hx hs
  have hPy := h y (by omega) hy hsy
  have hne := hP.ne hN
  obtain ⟨kk, f10, f11, f12, f14, f15, f16, f17, f18, f5, f8, f22⟩ := hM
  obtain ⟨hw, ho, hbw, h0, hhd, hwt, hcr⟩ := hP
  obtain ⟨yw, yo, ybw, y0, yhd, ywt, ycr⟩ := hPy
  have hsrc : src c r d y ≠ src c r d x := fun z => by
    rw [z] at ybw yhd
    have hpp : pk c r d y = pk c r d x := yhd.symm.trans hhd
    rw [hpp, ← ybw, hbw, hwt] at ywt
    omega
  have sz3 : ∀ b, b < 160 → m 15 b ≤ 3 := fun b hb => by
    have := (hJ.2.2.2.1 b hb).1
    have := hJ.1.2.2.1
    omega
  generalize src c r d y = by' at *
  generalize src c r d x = bx at *
  generalize pk c r d y = py at *
  generalize pk c r d x = px at *
  have hb1 := nb_lt (dir := x % 5) hN hw
  have hsz2 : x % 5 ≠ 4 → m 15 (bf (nb c r (x / 5) (x % 5) - 1) (x % 5) (bx % 2)) ≤ 2 := fun h4 => by
    have hc := hcr (by omega)
    have hv : bf (nb c r (x / 5) (x % 5) - 1) (x % 5) (bx % 2) = (nb c r (x / 5) (x % 5) - 1) * 10 + 2 * (x % 5) + bx % 2 := rfl
    have := hJ.2.2.2.2.2.2.1.2 (bf (nb c r (x / 5) (x % 5) - 1) (x % 5) (bx % 2)) (by omega) (by omega)
    have := hJ.1.2.2.1
    omega
  refine ⟨yw, yo, ybw, ?_, ?_, ?_, fun h4 => ?_⟩
  · rw [f15]
    split
    · omega
    · exact y0
  · unfold hd at yhd ⊢
    rw [f14, if_neg, mvA_14, if_neg]
    · exact yhd
    · have := sz3 bx (by omega)
      omega
    · intro z
      have h2 := hsz2 z.1
      by_cases hq : by' = bf (nb c r (x / 5) (x % 5) - 1) (x % 5) (bx % 2)
      · rw [← hq] at z
        omega
      · omega
  · rw [kk 7 (by decide) (by decide) (by decide) (by decide) (by decide) (by decide) (by decide) (by decide) (by decide), kk 9 (by decide) (by decide) (by decide) (by decide) (by decide) (by decide) (by decide) (by decide) (by decide)]
    exact ywt
  · obtain ⟨g1, g2⟩ := ycr h4
    refine ⟨g1, ?_⟩
    rw [f16, if_neg]
    · exact g2
    · intro z
      obtain ⟨z1, z2, z3⟩ := bf_inj (by omega) (by omega) (by omega) (by omega) z.2
      have hnx := (hcr (by omega)).1
      have := nb_inj (c := c) (r := r) (w := y / 5) (w' := x / 5) (o := x % 5) (by rw [← z2]; exact g1) (by rw [← z2] at hnx ⊢; rw [← z2] at z1; omega)
      omega
theorem mst_0 {c r : Nat} {d d1 : DS} {x : Nat} (h : sl c r d x = 0) : mst c r d d1 (x + 1) = mst c r d d1 x := by
  rw [mst, if_pos h]
theorem mst_1 {c r : Nat} {d d1 : DS} {x : Nat} (h : sl c r d x ≠ 0) : mst c r d d1 (x + 1) = mvC c r (mst c r d d1 x) (x / 5) (x % 5) (src c r d x) (pk c r d x) := by
  rw [mst, if_neg h]
def MI (c r : Nat) (d d1 : DS) (x : Nat) : Prop := JI c r (mst c r d d1 x) ∧ ALLP c r d (mst c r d d1 x) x ∧ (∀ k, k ≠ 10 → k ≠ 11 → k ≠ 12 → k ≠ 14 → k ≠ 15 → k ≠ 16 → k ≠ 17 → k ≠ 18 → k ≠ 22 → mst c r d d1 x k = d1 k) ∧ ∀ i, i ≠ 5 → i ≠ 8 → mst c r d d1 x 22 i = d1 22 i
theorem MI.mv {c r : Nat} {d d1 : DS} {x : Nat} (h : MI c r d d1 x) (hx : x < c * r * 5) (hs : sl c r d x ≠ 0) : MV c r (mst c r d d1 x) (mst c r d d1 (x + 1)) (x / 5) (x % 5) (src c r d x) (pk c r d x) := by
  rw [mst_1 hs]
  exact mvC_MV h.1.1.1.2.2.1 (h.2.1 x (Nat.le_refl _) hx hs)
theorem MI.all {c r : Nat} {d d1 : DS} (hJ : JI c r d) (hC : CE d d1) : ∀ x, x ≤ c * r * 5 → MI c r d d1 x := by
  intro x
  induction x with
  | zero => exact fun _ => ⟨hJ.ce hC, ALLP.start hJ hC, fun _ _ _ _ _ _ _ _ _ _ => rfl, fun _ _ _ => rfl⟩
  | succ x ih =>
    intro hx
    have h := ih (by omega)
    by_cases hs : sl c r d x = 0
    · have e := mst_0 (d1 := d1) hs
      unfold MI
      rw [e]
      exact ⟨h.1, fun y hy => h.2.1 y (by omega), h.2.2⟩
    · have hM := h.mv (by omega) hs
      refine ⟨h.1.move (h.2.1 x (Nat.le_refl _) (by omega) hs) hM, ALLP.next h.1 h.2.1 (by omega) hs hM, fun k k1 k2 k3 k4 k5 k6 k7 k8 k9 => (hM.1 k k1 k2 k3 k4 k5 k6 k7 k8 k9).trans (h.2.2.1 k k1 k2 k3 k4 k5 k6 k7 k8 k9), fun i i1 i2 => (hM.2.2.2.2.2.2.2.2.2.2.2 i i1 i2).trans (h.2.2.2 i i1 i2)⟩
theorem n_ro42 (F : Nat) {c r : Nat} {d d1 : DS} (hF : 1000 ≤ F) (hJ : JI c r d) (hC : CH c r d d1 (c * r * 5)) : ∀ (k n x : Nat), x + k = c * r * 5 → k + 1 ≤ n → r_X7_runOne_b42 F n (nI (cnt c r d x)) (E (mst c r d d1 x)) = r_X7_runOne_b70 F F (nI 0) (E (mst c r d d1 (c * r * 5))) := by
  have h16 := Gr16 hJ.1.1.2.2.1
  have hc5 := cnt_le c r d (c * r * 5)
  intro k
  induction k with
  | zero =>
    intro n x q1 q2
    obtain ⟨n, rfl⟩ : ∃ k, n = k + 1 := ⟨n - 1, by omega⟩
    obtain rfl : x = c * r * 5 := by omega
    have hM := MI.all hJ hC.1 (c * r * 5) (Nat.le_refl _)
    rw [r_X7_runOne_b42_s, E_22, hM.2.2.2 0 (by decide) (by decide), hC.2.1, if_pos (by rw [x_le (by omega) (by omega)]; omega)]
    rfl
  | succ k ih =>
    intro n x q1 q2
    by_cases hs : sl c r d x = 0
    · have e1 : cnt c r d (x + 1) = cnt c r d x := by rw [cnt, if_pos hs]
      have := ih n (x + 1) (by omega) (by omega)
      rw [e1, mst_0 hs] at this
      exact this
    · obtain ⟨n, rfl⟩ : ∃ k, n = k + 1 := ⟨n - 1, by omega⟩
      have hM := MI.all hJ hC.1 x (by omega)
      have e1 : cnt c r d (x + 1) = cnt c r d x + 1 := by rw [cnt, if_neg hs]
      have hlt := cnt_lt (show x < c * r * 5 by omega) hs
      have hP := hM.2.1 x (Nat.le_refl _) (by omega) hs
      have := ih n (x + 1) (by omega) (by omega)
      rw [e1, mst_1 hs] at this
      rw [r_X7_runOne_b42_s, E_22, hM.2.2.2 0 (by decide) (by decide), hC.2.1, if_neg (by rw [x_le (by omega) (by omega)]; omega), n_at_3 F _ (by omega), x_obS, hM.2.2.1 3 (by decide) (by decide) (by decide) (by decide) (by decide) (by decide) (by decide) (by decide) (by decide), hC.2.2.2 x (by omega) hs, n_move F hF hM.1 hP, x_obS, x_l1, nI_add]
      exact this
