/-! who goes: the system's side -/
theorem x_or {m j : Nat} (hm : m < 2 ^ j) (hj : j < 20) : nI m ||| nI (2 ^ j) = nI (m + 2 ^ j) := by
  have h20 : 2 ^ j ≤ 2 ^ 20 := Nat.pow_le_pow_right (by decide) (by omega)
  have h20' : (2 : Nat) ^ 20 = 1048576 := by decide
  apply Int32.toBitVec_inj.mp
  apply BitVec.eq_of_toNat_eq
  rw [Int32.toBitVec_or, BitVec.toNat_or]
  have hn : ∀ n : Nat, n < 2 ^ 32 → (nI n).toBitVec.toNat = n := fun n h => by
    show n % 2 ^ 32 = n
    exact Nat.mod_eq_of_lt h
  rw [hn _ (by omega), hn _ (by omega), hn _ (by omega)]
  have := Nat.two_pow_add_eq_or_of_lt hm 1
  rw [Nat.mul_one] at this
  rw [Nat.or_comm, Nat.add_comm m]
  exact this.symm
theorem x_and31 {j : Nat} (hj : j < 10) : nI j &&& (31 : Int32) = nI j := by
  rcases (show j = 0 ∨ j = 1 ∨ j = 2 ∨ j = 3 ∨ j = 4 ∨ j = 5 ∨ j = 6 ∨ j = 7 ∨ j = 8 ∨ j = 9 by omega) with rfl | rfl | rfl | rfl | rfl | rfl | rfl | rfl | rfl | rfl <;> decide
theorem x_smod {j : Nat} (hj : j < 10) : ((nI j).toBitVec.smod 32).toNat = j := by
  rcases (show j = 0 ∨ j = 1 ∨ j = 2 ∨ j = 3 ∨ j = 4 ∨ j = 5 ∨ j = 6 ∨ j = 7 ∨ j = 8 ∨ j = 9 by omega) with rfl | rfl | rfl | rfl | rfl | rfl | rfl | rfl | rfl | rfl <;> decide
theorem x_shl {j : Nat} (hj : j < 10) : (1 : Int32) <<< (nI j &&& (31 : Int32)) = nI (2 ^ j) := by
  have h : 2 ^ j ≤ 2 ^ 10 := Nat.pow_le_pow_right (by decide) (by omega)
  have h10 : (2 : Nat) ^ 10 = 1024 := by decide
  rw [x_and31 hj, x_l1, pk_shlN (nI j) j (x_smod hj) (by omega), Nat.one_mul]
theorem x_bit {m j : Nat} (hm : m < 2048) (hj : j < 10) : nI m >>> (nI j &&& (31 : Int32)) &&& (1 : Int32) = nI (m / 2 ^ j % 2) := by
  rw [x_and31 hj, pk_shrN (by omega) (nI j) j (x_smod hj)]
  have h := Nat.div_le_self m (2 ^ j)
  exact pk_andN (by omega) 1 (by decide)
def mk (f : Nat → Nat) (n : Nat) : Nat := sumN (fun j => f j * 2 ^ j) n
theorem mk_lt {f : Nat → Nat} (hf : ∀ j, f j ≤ 1) : ∀ n, mk f n < 2 ^ n := by
  intro n
  induction n with
  | zero => exact Nat.one_pos
  | succ n ih =>
    show mk f n + f n * 2 ^ n < 2 ^ (n + 1)
    have h := Nat.mul_le_mul_right (2 ^ n) (hf n)
    rw [Nat.pow_succ]
    omega
theorem mk_bit {f : Nat → Nat} (hf : ∀ j, f j ≤ 1) {j : Nat} (hj : j < 10) : mk f 10 / 2 ^ j % 2 = f j := by
  have h0 := hf 0
  have h1 := hf 1
  have h2 := hf 2
  have h3 := hf 3
  have h4 := hf 4
  have h5 := hf 5
  have h6 := hf 6
  have h7 := hf 7
  have h8 := hf 8
  have h9 := hf 9
  have e : mk f 10 = 0 + f 0 * 1 + f 1 * 2 + f 2 * 4 + f 3 * 8 + f 4 * 16 + f 5 * 32 + f 6 * 64 + f 7 * 128 + f 8 * 256 + f 9 * 512 := rfl
  rw [e]
  rcases (show j = 0 ∨ j = 1 ∨ j = 2 ∨ j = 3 ∨ j = 4 ∨ j = 5 ∨ j = 6 ∨ j = 7 ∨ j = 8 ∨ j = 9 by omega) with rfl | rfl | rfl | rfl | rfl | rfl | rfl | rfl | rfl | rfl <;> simp only [Nat.reducePow] <;> omega
/-- the head of a buffer; whether a place of the ring is ready for an output; the first ready place from the output's next one on, and one -/
def hd (d : DS) (b : Nat) : Nat := d 14 (3 * b)
def rb (c r : Nat) (d : DS) (w o j : Nat) : Nat := if 0 < d 15 (w * 10 + j) ∧ wt c w (d 7 (hd d (w * 10 + j))) (d 9 (hd d (w * 10 + j))) = o ∧ cgo c r d w o (d 8 (hd d (w * 10 + j))) = 1 then 1 else 0
theorem rb_le (c r : Nat) (d : DS) (w o j : Nat) : rb c r d w o j ≤ 1 := by
  unfold rb
  split <;> omega
def srch (f : Nat → Nat) (t : Nat) : Nat → Nat → Nat
  | 0, _ => 0
  | m + 1, s => if f ((t + s) % 10) = 0 then srch f t m (s + 1) else (t + s) % 10 + 1
def sl (c r : Nat) (d : DS) (x : Nat) : Nat := srch (rb c r d (x / 5) (x % 5)) (d 1 x) 10 0
theorem srch_ok {f : Nat → Nat} {t : Nat} : ∀ {m s : Nat}, srch f t m s ≠ 0 → srch f t m s ≤ 10 ∧ f (srch f t m s - 1) ≠ 0 := by
  intro m
  induction m with
  | zero => exact fun h => absurd rfl h
  | succ m ih =>
    intro s h
    rw [srch] at h ⊢
    by_cases q : f ((t + s) % 10) = 0
    · rw [if_pos q] at h ⊢
      exact ih h
    · rw [if_neg q]
      exact ⟨by omega, q⟩
theorem srch_0 {f : Nat → Nat} (hf : ∀ j, j < 10 → f j = 0) {t : Nat} : ∀ (m s : Nat), srch f t m s = 0 := by
  intro m
  induction m with
  | zero => exact fun _ => rfl
  | succ m ih =>
    intro s
    rw [srch, if_pos (hf _ (Nat.mod_lt _ (by decide)))]
    exact ih _
def CE (d d1 : DS) : Prop := (∀ k, k ≠ 1 → k ≠ 2 → k ≠ 3 → k ≠ 22 → d1 k = d k) ∧ (∀ i, i ≠ 0 → d1 22 i = d 22 i) ∧ ∀ i, i < 80 → d1 1 i < 10
theorem JI.ce {c r : Nat} {d d1 : DS} (hJ : JI c r d) (h : CE d d1) : JI c r d1 := by
  obtain ⟨i1, ⟨i2, i2'⟩, i3, i4, i5, i6, i7, i8⟩ := hJ
  obtain ⟨kd, c5, h1⟩ := h
  have s1 := c5 1 (by decide)
  have s2 := c5 2 (by decide)
  have s3 := c5 3 (by decide)
  have s4 := c5 4 (by decide)
  have s6 := c5 6 (by decide)
  have s7 := c5 7 (by decide)
  have s8 := c5 8 (by decide)
  have r0 := kd 0 (by decide) (by decide) (by decide) (by decide)
  have r4 := kd 4 (by decide) (by decide) (by decide) (by decide)
  have r5 := kd 5 (by decide) (by decide) (by decide) (by decide)
  have r6 := kd 6 (by decide) (by decide) (by decide) (by decide)
  have r7 := kd 7 (by decide) (by decide) (by decide) (by decide)
  have r8 := kd 8 (by decide) (by decide) (by decide) (by decide)
  have r9 := kd 9 (by decide) (by decide) (by decide) (by decide)
  have r10 := kd 10 (by decide) (by decide) (by decide) (by decide)
  have r11 := kd 11 (by decide) (by decide) (by decide) (by decide)
  have r13 := kd 13 (by decide) (by decide) (by decide) (by decide)
  have r14 := kd 14 (by decide) (by decide) (by decide) (by decide)
  have r15 := kd 15 (by decide) (by decide) (by decide) (by decide)
  have r16 := kd 16 (by decide) (by decide) (by decide) (by decide)
  have r17 := kd 17 (by decide) (by decide) (by decide) (by decide)
  have r18 := kd 18 (by decide) (by decide) (by decide) (by decide)
  have r19 := kd 19 (by decide) (by decide) (by decide) (by decide)
  unfold JI I1 Gr I2 I3 I4 I5 I6 I7 I8 pb cs
  rw [s1, s2, s3, s4, s6, s7, s8, r0, r4, r5, r6, r7, r8, r9, r10, r11, r13, r14, r15, r16, r17, r18, r19]
  exact ⟨i1, ⟨i2, h1⟩, i3, i4, i5, i6, i7, i8⟩
theorem rb_ce {c r : Nat} {d d1 : DS} (h : CE d d1) : rb c r d1 = rb c r d := by
  obtain ⟨kd, c5, h1⟩ := h
  funext w o j
  unfold rb hd cgo
  rw [kd 0 (by decide) (by decide) (by decide) (by decide), kd 7 (by decide) (by decide) (by decide) (by decide), kd 8 (by decide) (by decide) (by decide) (by decide), kd 9 (by decide) (by decide) (by decide) (by decide), kd 14 (by decide) (by decide) (by decide) (by decide), kd 15 (by decide) (by decide) (by decide) (by decide), kd 16 (by decide) (by decide) (by decide) (by decide)]
/-- what is known of a buffer's head -/
theorem JI.head {c r : Nat} {d : DS} (hJ : JI c r d) {w j : Nat} (hw : w < c * r) (hj : j < 10) (h0 : 0 < d 15 (w * 10 + j)) : hd d (w * 10 + j) < d 22 4 ∧ d 10 (hd d (w * 10 + j)) = w + 1 ∧ d 11 (hd d (w * 10 + j)) = j / 2 ∧ d 8 (hd d (w * 10 + j)) = j % 2 ∧ d 7 (hd d (w * 10 + j)) < c * r ∧ d 9 (hd d (w * 10 + j)) < 2 ∧ d 6 (hd d (w * 10 + j)) < c * r ∧ d 13 (hd d (w * 10 + j)) < 2 := by
  obtain ⟨i1, i2, i3, i4, i5, i6, i7, i8⟩ := hJ
  have h16 := Gr16 i1.1.2.2.1
  obtain ⟨h1, h2⟩ := i4 (w * 10 + j) (by omega)
  obtain ⟨a1, a2, a3, a4⟩ := h2 0 h0
  unfold hd
  rw [Nat.add_zero] at a1 a2 a3
  obtain ⟨b1, b2, b3, b4, b5, b6, b7⟩ := i3 _ a1
  have a3' : (w * 10 + j) / 10 * 10 + 2 * d 11 (d 14 (3 * (w * 10 + j))) + d 8 (d 14 (3 * (w * 10 + j))) = w * 10 + j := a3
  refine ⟨a1, by omega, by omega, by omega, b2, b4, b1, b7⟩
theorem wt_le (c w g m : Nat) : wt c w g m ≤ 4 := by
  unfold wt
  split <;> split <;> (try split) <;> (try split) <;> omega
theorem cgo_le (c r : Nat) (d : DS) (w o l : Nat) : cgo c r d w o l ≤ 1 := by
  unfold cgo
  split
  · omega
  · split
    · omega
    · split <;> omega
theorem n_ch10 (F : Nat) {c r w : Nat} {d : DS} (hw : w < c * r) : ∀ (m n j : Nat) (d1 : DS), j + m = 10 → m + 1 ≤ n → CE d d1 → JI c r d1 → (∀ o, o < 5 → d1 2 o = mk (rb c r d w o) j) → ∃ d2, r_X7_chooseAt_b10 F n (nI w) (nI j) (E d1) = r_X7_chooseAt_b96 F F (nI w) (nI 0) (E d2) ∧ (∀ k, k ≠ 2 → d2 k = d1 k) ∧ ∀ o, o < 5 → d2 2 o = mk (rb c r d w o) 10 := by
  intro m
  induction m with
  | zero =>
    intro n j d1 h1 h2 hC hJ hm
    obtain ⟨n, rfl⟩ : ∃ k, n = k + 1 := ⟨n - 1, by omega⟩
    obtain rfl : j = 10 := by omega
    refine ⟨d1, ?_, fun _ _ => rfl, hm⟩
    rw [r_X7_chooseAt_b10_s, if_pos (by decide)]
    rfl
  | succ m ih =>
    intro n j d1 h1 h2 hC hJ hm
    obtain ⟨n, rfl⟩ : ∃ k, n = k + 1 := ⟨n - 1, by omega⟩
    have hG := hJ.1.1
    have h16 := Gr16 hG.2.2.1
    have hb : w * 10 + j < 160 := by omega
    have hs := (hJ.2.2.2.1 (w * 10 + j) hb).1
    have h6 := hJ.1.2.2.1
    have hrb := rb_ce (c := c) (r := r) hC
    have skip : (∀ o, o < 5 → rb c r d w o j = 0) → ∃ d2, r_X7_chooseAt_b10 F n (nI w) (nI (j + 1)) (E d1) = r_X7_chooseAt_b96 F F (nI w) (nI 0) (E d2) ∧ (∀ k, k ≠ 2 → d2 k = d1 k) ∧ ∀ o, o < 5 → d2 2 o = mk (rb c r d w o) 10 := fun h0 =>
      ih n (j + 1) d1 (by omega) (by omega) hC hJ (fun o ho => by
        show d1 2 o = mk (rb c r d w o) j + rb c r d w o j * 2 ^ j
        rw [h0 o ho, Nat.zero_mul]
        exact hm o ho)
    rw [r_X7_chooseAt_b10_s, if_neg (by rw [x_l10, x_le (by decide) (by omega)]; omega)]
    rw [x_l10, pk_mul, nI_add, n_first F hb (by omega), x_obS]
    unfold r_X7_chooseAt_b88
    by_cases h0 : 0 < d1 15 (w * 10 + j)
    · obtain ⟨p, hp⟩ : ∃ p, p = hd d1 (w * 10 + j) := ⟨_, rfl⟩
      obtain ⟨q1, q2, q3, q4, q5, q6, q7, q8⟩ := hJ.head hw (show j < 10 by omega) h0
      rw [← hp] at q1 q2 q3 q4 q5 q6 q7 q8
      have hp80 : p < 80 := by
        have := hJ.1.2.2.2.2.2
        omega
      rw [if_pos h0, show d1 14 (3 * (w * 10 + j)) = p from hp.symm, mI_s, if_neg (by rw [show (-1 : Int32) = mI 0 from rfl, x_nm (by omega)]; exact id), n_outputOf F hG hp80 q2 hw q5 q6, x_obS, n_at_8 F _ hp80, x_obS]
      obtain ⟨o, ho⟩ : ∃ o, o = wt c w (d1 7 p) (d1 9 p) := ⟨_, rfl⟩
      have ho4 := wt_le c w (d1 7 p) (d1 9 p)
      rw [← ho] at ho4
      rw [← ho, n_canGo F hG hw (by omega) (by omega) (fun i hi => (hJ.2.1.1 i hi).1) (fun b hb => by have := hJ.2.2.2.2.2.2.1.1 b hb; omega), x_obS]
      have rbo : ∀ o', rb c r d w o' j = if o = o' ∧ cgo c r d1 w o (d1 8 p) = 1 then 1 else 0 := fun o' => by
        rw [← hrb]
        unfold rb
        rw [← hp, ← ho]
        by_cases qo : o = o'
        · subst qo
          by_cases qc : cgo c r d1 w o (d1 8 p) = 1
          · rw [if_pos ⟨h0, rfl, qc⟩, if_pos ⟨rfl, qc⟩]
          · rw [if_neg (fun z => qc z.2.2), if_neg (fun z => qc z.2)]
        · rw [if_neg (fun z => qo z.2.1), if_neg (fun z => qo z.1)]
      have hcl := cgo_le c r d1 w o (d1 8 p)
      by_cases hc : cgo c r d1 w o (d1 8 p) = 1
      · rw [hc, if_neg (by decide), n_at_2 F _ (by omega), x_obS, hm o (by omega), x_shl (by omega), x_or (mk_lt (rb_le c r d w o) j) (by omega), n_put_2 F _ _ (by omega), x_obS, x_l1, nI_add]
        obtain ⟨d2, e1, e2, e3⟩ := ih n (j + 1) (dset d1 2 o (mk (rb c r d w o) j + 2 ^ j)) (by omega) (by omega) ⟨fun k k1 k2 k3 k4 => (funext fun i => dset_n _ _ _ _ k2 i).trans (hC.1 k k1 k2 k3 k4), hC.2⟩ hJ (fun o' ho' => by
          show dset d1 2 o (mk (rb c r d w o) j + 2 ^ j) 2 o' = mk (rb c r d w o') j + rb c r d w o' j * 2 ^ j
          rw [dset_a, rbo o']
          by_cases qo : o' = o
          · subst qo
            rw [if_pos ⟨rfl, rfl⟩, if_pos ⟨rfl, hc⟩, Nat.one_mul]
          · rw [if_neg (fun z => qo z.2), if_neg (fun z => qo z.1.symm), Nat.zero_mul]
            exact hm o' ho')
        refine ⟨d2, e1, fun k k2 => (e2 k k2).trans (funext fun i => dset_n _ _ _ _ k2 i), e3⟩
      · rw [show cgo c r d1 w o (d1 8 p) = 0 by omega, if_pos (by rfl), x_l1, nI_add]
        refine skip fun o' _ => ?_
        rw [rbo o', if_neg (fun z => hc z.2)]
    · rw [if_neg h0, if_pos (by rfl), x_l1, nI_add]
      refine skip fun o' _ => ?_
      rw [← hrb]
      unfold rb
      rw [if_neg (fun z => h0 z.1)]
