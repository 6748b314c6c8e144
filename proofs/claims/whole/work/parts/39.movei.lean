/-! one goes: what holds stays so -/
theorem nb_ne {c r w o : Nat} (hN : GrN c r) (hw : w < c * r) (ho : o < 4) : nb c r w o ≠ w + 1 := by
  obtain ⟨h1, h2, h3, h4⟩ := hN
  rcases (show o = 0 ∨ o = 1 ∨ o = 2 ∨ o = 3 by omega) with rfl | rfl | rfl | rfl
  · change (if w % c + 1 < c then w + 2 else 0) ≠ w + 1
    split <;> omega
  · change (if w / c + 1 < r then w + c + 1 else 0) ≠ w + 1
    split <;> omega
  · change (if 0 < w % c then w else 0) ≠ w + 1
    split <;> omega
  · change (if 0 < w / c then w - c + 1 else 0) ≠ w + 1
    split
    · rename_i q
      intro z
      have : c ≤ w := by
        rcases Nat.lt_or_ge w c with g | g
        · rw [Nat.div_eq_of_lt g] at q
          omega
        · exact g
      omega
    · omega
def MV (c r : Nat) (m m' : DS) (w o b p : Nat) : Prop := (∀ k, k ≠ 10 → k ≠ 11 → k ≠ 12 → k ≠ 14 → k ≠ 15 → k ≠ 16 → k ≠ 17 → k ≠ 18 → k ≠ 22 → m' k = m k) ∧ (∀ i, m' 10 i = if i = p then (if o = 4 then 0 else nb c r w o) else m 10 i) ∧ (∀ i, m' 11 i = if i = p ∧ o ≠ 4 then o else m 11 i) ∧ (∀ i, m' 12 i = if i = p ∧ o ≠ 4 then m 12 p + 1 else m 12 i) ∧ (∀ i, m' 14 i = if o ≠ 4 ∧ i = 3 * bf (nb c r w o - 1) o (b % 2) + m 15 (bf (nb c r w o - 1) o (b % 2)) then p else mvA m b 14 i) ∧ (∀ i, m' 15 i = if o ≠ 4 ∧ i = bf (nb c r w o - 1) o (b % 2) then m 15 i + 1 else if i = b then m 15 b - 1 else m 15 i) ∧ (∀ i, m' 16 i = if o ≠ 4 ∧ i = bf (nb c r w o - 1) o (b % 2) then m 16 i - 1 else m 16 i) ∧ (∀ i, m' 17 i = if b % 10 < 8 ∧ i = b * 4 + (m 22 1 + 1 + m 22 7) % 4 then m 17 i + 1 else m 17 i) ∧ (∀ i, m' 18 i = if o = 4 ∧ i = m 6 p then gp (m 18 (m 6 p)) (m 13 p) else m 18 i) ∧ (m' 22 5 = if o = 4 then m 22 5 + 1 else m 22 5) ∧ (m' 22 8 = if b % 10 < 8 then m 22 8 + 1 else m 22 8) ∧ ∀ i, i ≠ 5 → i ≠ 8 → m' 22 i = m 22 i
theorem PRE.ne {c r : Nat} {m : DS} {w o b p : Nat} (hN : GrN c r) (hP : PRE c r m w o b p) (ho : o ≠ 4) : b ≠ bf (nb c r w o - 1) o (b % 2) := by
  obtain ⟨hw, ho5, hbw, h0, hhd, hwt, hcr⟩ := hP
  have h1 := nb_ne (o := o) hN hw (by omega)
  have h2 := (hcr (by omega)).1
  intro z
  have z' : b = (nb c r w o - 1) * 10 + 2 * o + b % 2 := z
  omega
theorem mvC_MV {c r : Nat} {m : DS} {w o b p : Nat} (hN : GrN c r) (hP : PRE c r m w o b p) : MV c r m (mvC c r m w o b p) w o b p := by
  have hne := hP.ne hN
  have h22 := mvA_22 m b
  have h17 := mvA_17 m b
  have h15 := mvA_15 m b
  have hA := fun k h1 h2 h3 h4 => mvA_k m b (k := k) h1 h2 h3 h4
  unfold mvC
  by_cases h4 : o = 4
  · rw [if_pos h4]
    refine ⟨fun k k1 k2 k3 k4 k5 k6 k7 k8 k9 => ?_, fun i => ?_, fun i => ?_, fun i => ?_, fun i => ?_, fun i => ?_, fun i => ?_, fun i => ?_, fun i => ?_, ?_, ?_, fun i i1 i2 => ?_⟩
    · rw [← hA k k4 k5 k7 k9]
      funext i
      rw [dset_n _ _ _ _ k8, dset_n _ _ _ _ k9, dset_n _ _ _ _ k1]
    · show dset (mvA m b) 10 p 0 10 i = _
      rw [dset_a, hA 10 (by decide) (by decide) (by decide) (by decide), if_pos h4]
      by_cases q : i = p
      · rw [if_pos ⟨rfl, q⟩, if_pos q]
      · rw [if_neg (fun z => q z.2), if_neg q]
    · rw [if_neg (fun z => z.2 h4)]
      show mvA m b 11 i = _
      rw [hA 11 (by decide) (by decide) (by decide) (by decide)]
    · rw [if_neg (fun z => z.2 h4)]
      show mvA m b 12 i = _
      rw [hA 12 (by decide) (by decide) (by decide) (by decide)]
    · rw [if_neg (fun z => z.1 h4)]
      rfl
    · rw [if_neg (fun z => z.1 h4)]
      exact h15 i
    · rw [if_neg (fun z => z.1 h4)]
      show mvA m b 16 i = _
      rw [hA 16 (by decide) (by decide) (by decide) (by decide)]
    · exact h17 i
    · show dset (mvA m b) 18 (m 6 p) (gp (m 18 (m 6 p)) (m 13 p)) 18 i = _
      rw [dset_a, hA 18 (by decide) (by decide) (by decide) (by decide)]
      by_cases q : i = m 6 p
      · rw [if_pos ⟨rfl, q⟩, if_pos ⟨h4, q⟩]
      · rw [if_neg (fun z => q z.2), if_neg (fun z => q z.2)]
    · rw [if_pos h4]
      rfl
    · show mvA m b 22 8 = _
      rw [h22]
      by_cases q : b % 10 < 8
      · rw [if_pos ⟨q, rfl⟩, if_pos q]
      · rw [if_neg (fun z => q z.1), if_neg q]
    · show dset (mvA m b) 22 5 (m 22 5 + 1) 22 i = _
      rw [dset_o _ _ _ _ i1, h22, if_neg (fun z => i2 z.2)]
  · rw [if_neg h4]
    have hb := hne h4
    obtain ⟨b', hb'⟩ : ∃ b', b' = bf (nb c r w o - 1) o (b % 2) := ⟨_, rfl⟩
    rw [← hb'] at hb ⊢
    have hsz : mvA m b 15 b' = m 15 b' := by rw [h15, if_neg (fun z => hb z.symm)]
    refine ⟨fun k k1 k2 k3 k4 k5 k6 k7 k8 k9 => ?_, fun i => ?_, fun i => ?_, fun i => ?_, fun i => ?_, fun i => ?_, fun i => ?_, fun i => ?_, fun i => ?_, ?_, ?_, fun i i1 i2 => ?_⟩
    · rw [← hA k k4 k5 k7 k9]
      funext i
      unfold apd
      rw [dset_n _ _ _ _ k3, dset_n _ _ _ _ k2, dset_n _ _ _ _ k1, dset_n _ _ _ _ k5, dset_n _ _ _ _ k4, dset_n _ _ _ _ k6]
    · show dset (mvA m b) 10 p (nb c r w o) 10 i = _
      rw [dset_a, hA 10 (by decide) (by decide) (by decide) (by decide), if_neg h4]
      by_cases q : i = p
      · rw [if_pos ⟨rfl, q⟩, if_pos q]
      · rw [if_neg (fun z => q z.2), if_neg q]
    · show dset (mvA m b) 11 p o 11 i = _
      rw [dset_a, hA 11 (by decide) (by decide) (by decide) (by decide)]
      by_cases q : i = p
      · rw [if_pos ⟨rfl, q⟩, if_pos ⟨q, h4⟩]
      · rw [if_neg (fun z => q z.2), if_neg (fun z => q z.1)]
    · show dset (mvA m b) 12 p (m 12 p + 1) 12 i = _
      rw [dset_a, hA 12 (by decide) (by decide) (by decide) (by decide)]
      by_cases q : i = p
      · rw [if_pos ⟨rfl, q⟩, if_pos ⟨q, h4⟩]
      · rw [if_neg (fun z => q z.2), if_neg (fun z => q z.1)]
    · show dset (mvA m b) 14 (3 * b' + mvA m b 15 b') p 14 i = _
      rw [hb', ← hb', hsz, dset_a]
      by_cases q : i = 3 * b' + m 15 b'
      · rw [if_pos ⟨rfl, q⟩, if_pos ⟨h4, q⟩]
      · rw [if_neg (fun z => q z.2), if_neg (fun z => q z.2)]
    · show dset (mvA m b) 15 b' (mvA m b 15 b' + 1) 15 i = _
      rw [hsz, dset_a, ← hb']
      by_cases q : i = b'
      · rw [if_pos ⟨rfl, q⟩, if_pos ⟨h4, q⟩, q]
      · rw [if_neg (fun z => q z.2), if_neg (fun z => q z.2), h15]
    · show dset (mvA m b) 16 b' (m 16 b' - 1) 16 i = _
      rw [dset_a, hA 16 (by decide) (by decide) (by decide) (by decide), ← hb']
      by_cases q : i = b'
      · rw [if_pos ⟨rfl, q⟩, if_pos ⟨h4, q⟩, q]
      · rw [if_neg (fun z => q z.2), if_neg (fun z => q z.2)]
    · exact h17 i
    · rw [if_neg (fun z => h4 z.1)]
      show mvA m b 18 i = _
      rw [hA 18 (by decide) (by decide) (by decide) (by decide)]
    · rw [if_neg h4]
      show mvA m b 22 5 = _
      rw [h22, if_neg (by omega)]
    · show mvA m b 22 8 = _
      rw [h22]
      by_cases q : b % 10 < 8
      · rw [if_pos ⟨q, rfl⟩, if_pos q]
      · rw [if_neg (fun z => q z.1), if_neg q]
    · show mvA m b 22 i = _
      rw [h22, if_neg (fun z => i2 z.2)]
theorem gp_ok {g mk : Nat} (h1 : 1 ≤ g) (h2 : g ≤ 16) : 1 ≤ gp g mk ∧ gp g mk ≤ 16 := by
  unfold gp
  split
  · split <;> omega
  · split <;> omega
theorem cs_MV {c r : Nat} {m m' : DS} {w o b p : Nat} (h : MV c r m m' w o b p) (x : Nat) : cs m' x = if x = b ∧ b % 10 < 8 then cs m x + 1 else cs m x := by
  obtain ⟨-, -, -, -, -, -, -, h17, -⟩ := h
  have hk : (m 22 1 + 1 + m 22 7) % 4 < 4 := Nat.mod_lt _ (by decide)
  unfold cs
  rw [h17, h17, h17, h17]
  generalize (m 22 1 + 1 + m 22 7) % 4 = k at *
  rcases (show k = 0 ∨ k = 1 ∨ k = 2 ∨ k = 3 by omega) with rfl | rfl | rfl | rfl <;> (try simp only [Nat.add_zero]) <;> (repeat' split) <;> omega
theorem JI.move {c r : Nat} {m m' : DS} {w o b p : Nat} (hJ : JI c r m) (hP : PRE c r m w o b p) (h : MV c r m m' w o b p) : JI c r m' := by
  have hcs := cs_MV h
  have hne := hP.ne hJ.1.1.2.2.1
  obtain ⟨hw, ho, hbw, h0, hhd, hwt, hcr⟩ := hP
  have hN := hJ.1.1.2.2.1
  have h16 := Gr16 hN
  have hb : b < 160 := by omega
  have hbe : b / 10 * 10 + b % 10 = b := by omega
  obtain ⟨q1, q2, q3, q4, q5, q6, q7, q8⟩ := hJ.head hw (show b % 10 < 10 by omega) (by rw [← hbw, hbe]; exact h0)
  rw [← hbw, hbe, hhd] at q1 q2 q3 q4 q5 q6 q7 q8
  rw [hbw] at q2
  obtain ⟨i1, ⟨i2, i2'⟩, i3, i4, i5, i6, ⟨i7, i7'⟩, ⟨⟨i8, i8o⟩, i8'⟩⟩ := hJ
  obtain ⟨kk, f10, f11, f12, f14, f15, f16, f17, f18, f5, f8, f22⟩ := h
  have kd : ∀ k, k ≠ 10 → k ≠ 11 → k ≠ 12 → k ≠ 14 → k ≠ 15 → k ≠ 16 → k ≠ 17 → k ≠ 18 → k ≠ 22 → m' k = m k := kk
  have r0 := kd 0 (by decide) (by decide) (by decide) (by decide) (by decide) (by decide) (by decide) (by decide) (by decide)
  have r1 := kd 1 (by decide) (by decide) (by decide) (by decide) (by decide) (by decide) (by decide) (by decide) (by decide)
  have r4 := kd 4 (by decide) (by decide) (by decide) (by decide) (by decide) (by decide) (by decide) (by decide) (by decide)
  have r5 := kd 5 (by decide) (by decide) (by decide) (by decide) (by decide) (by decide) (by decide) (by decide) (by decide)
  have r6 := kd 6 (by decide) (by decide) (by decide) (by decide) (by decide) (by decide) (by decide) (by decide) (by decide)
  have r7 := kd 7 (by decide) (by decide) (by decide) (by decide) (by decide) (by decide) (by decide) (by decide) (by decide)
  have r8 := kd 8 (by decide) (by decide) (by decide) (by decide) (by decide) (by decide) (by decide) (by decide) (by decide)
  have r9 := kd 9 (by decide) (by decide) (by decide) (by decide) (by decide) (by decide) (by decide) (by decide) (by decide)
  have r13 := kd 13 (by decide) (by decide) (by decide) (by decide) (by decide) (by decide) (by decide) (by decide) (by decide)
  have r19 := kd 19 (by decide) (by decide) (by decide) (by decide) (by decide) (by decide) (by decide) (by decide) (by decide)
  have s1 := f22 1 (by decide) (by decide)
  have s2 := f22 2 (by decide) (by decide)
  have s3 := f22 3 (by decide) (by decide)
  have s4 := f22 4 (by decide) (by decide)
  have s6 := f22 6 (by decide) (by decide)
  have s7 := f22 7 (by decide) (by decide)
  obtain ⟨b', hb'⟩ : ∃ b', b' = bf (nb c r w o - 1) o (b % 2) := ⟨_, rfl⟩
  rw [← hb'] at hne hcr f14 f15 f16
  have hbv : b' = (nb c r w o - 1) * 10 + 2 * o + b % 2 := hb'
  have hb1 := nb_lt (dir := o) hN hw
  have hb9 : o ≠ 4 → b' < 160 := fun h4 => by omega
  have hb8 : o ≠ 4 → b' % 10 < 8 ∧ b' / 10 + 1 = nb c r w o := fun h4 => by
    have := (hcr (by omega)).1
    omega
  have hroom : o ≠ 4 → m 16 b' ≥ 1 ∧ m 16 b' + cs m b' + m 15 b' ≤ m 22 6 := fun h4 => ⟨(hcr (by omega)).2, i7' b' (hb9 h4) (hb8 h4).1⟩
  have j6 := i1.2.2.1
  have sz3 : ∀ x, x < 160 → m 15 x ≤ 3 := fun x hx => by
    have := (i4 x hx).1
    omega
  -- the places of a queue afterwards
  have A : ∀ x j, x < 160 → j < 3 → j < m 15 x → m' 14 (3 * x + j) = if x = b ∧ j < m 15 b - 1 then m 14 (3 * x + (j + 1)) else m 14 (3 * x + j) := fun x j hx hj hjs => by
    rw [f14, if_neg, mvA_14]
    · by_cases q : x = b ∧ j < m 15 b - 1
      · rw [if_pos q, if_pos (by omega)]
        rfl
      · rw [if_neg q, if_neg]
        intro z
        have := sz3 b hb
        apply q
        omega
    · intro z
      have := sz3 b' (hb9 z.1)
      have hrm := hroom z.1
      by_cases hxx : x = b'
      · rw [hxx] at hjs z
        omega
      · omega
  have other : ∀ x j, x < 160 → j < m 15 x → (x = b → j ≠ 0) → m 14 (3 * x + j) ≠ p := fun x j hx hj hx0 z => by
    obtain ⟨a1, a2, a3, a4⟩ := (i4 x hx).2 j hj
    rw [z] at a2 a3
    have hxb : x = b := by
      have a3' : x / 10 * 10 + 2 * m 11 p + m 8 p = x := a3
      omega
    subst hxb
    refine a4 0 (by have := hx0 rfl; omega) ?_
    rw [z]
    exact hhd
  have keep : ∀ q, q ≠ p → m' 10 q = m 10 q ∧ m' 11 q = m 11 q := fun q hq => by
    rw [f10, f11, if_neg hq, if_neg (fun z => hq z.1)]
    exact ⟨rfl, rfl⟩
  refine ⟨⟨⟨s2.trans i1.1.1, s3.trans i1.1.2.1, hN, by rw [r4, r5]; exact i1.1.2.2.2⟩, by rw [s1, s4, s6, s7]; exact i1.2⟩, ⟨fun i hi => ?_, by rw [r1]; exact i2'⟩, fun q hq => ?_, fun x hx => ⟨?_, fun j hj => ?_⟩, fun q hq h10 => ?_, fun q hq h10 h11 => ?_, ⟨fun x hx => ?_, fun x hx h8 => ?_⟩, ⟨⟨?_, fun x hx h8 => ?_⟩, fun w' hw' i hi l hl hn => ?_⟩⟩
  · obtain ⟨u1, u2, u3, u4⟩ := i2 i hi
    rw [r0, r19, s1, f18]
    refine ⟨u1, ?_, ?_, u4⟩
    · split
      · obtain ⟨v1, v2, v3, v4⟩ := i2 (m 6 p) (by omega)
        exact (gp_ok v2 v3).1
      · exact u2
    · split
      · obtain ⟨v1, v2, v3, v4⟩ := i2 (m 6 p) (by omega)
        exact (gp_ok v2 v3).2
      · exact u3
  · rw [s4] at hq
    obtain ⟨a1, a2, a3, a4, a5, a6, a7⟩ := i3 q hq
    rw [r6, r7, r8, r9, r13, f10, f11]
    refine ⟨a1, a2, a3, a4, ?_, ?_, a7⟩
    · split
      · split <;> omega
      · exact a5
    · split <;> omega
  · rw [f15, s6]
    have := (i4 x hx).1
    split
    · rename_i z
      have := hroom z.1
      rw [z.2]
      omega
    · split
      · rename_i z
        rw [z] at this
        omega
      · exact this
  · rw [f15] at hj
    by_cases hxb' : o ≠ 4 ∧ x = b'
    · obtain ⟨h4, rfl⟩ := hxb'
      rw [if_pos ⟨h4, rfl⟩] at hj
      have hxb : x ≠ b := fun z => hne h4 z.symm
      have hrm := hroom h4
      have B : ∀ j, j < m 15 x → m' 14 (3 * x + j) = m 14 (3 * x + j) := fun j hj2 => by
        rw [A x j hx (by omega) hj2, if_neg (fun z => hxb z.1)]
      by_cases hjl : j < m 15 x
      · have hqp := other x j hx hjl (fun z => absurd z hxb)
        obtain ⟨a1, a2, a3, a4⟩ := (i4 x hx).2 j hjl
        rw [B j hjl, (keep _ hqp).1, (keep _ hqp).2, r8, s4]
        refine ⟨a1, a2, a3, fun j' hj' => ?_⟩
        rw [B j' (by omega)]
        exact a4 j' hj'
      · have hpe : m' 14 (3 * x + j) = p := by
          rw [f14, if_pos ⟨h4, by omega⟩]
        rw [hpe, f10, f11, if_pos (show p = p from rfl), if_pos (show p = p ∧ o ≠ 4 from ⟨rfl, h4⟩), if_neg h4, r8, s4]
        refine ⟨q1, by have := (hb8 h4).2; omega, ?_, fun j' hj' => ?_⟩
        · show x / 10 * 10 + 2 * o + m 8 p = x
          have := (hb8 h4).2
          omega
        · rw [B j' (by omega)]
          exact other x j' hx (by omega) (fun z => absurd z hxb)
    · rw [if_neg hxb'] at hj
      by_cases hxb : x = b
      · subst hxb
        rw [if_pos rfl] at hj
        have B : ∀ j, j < m 15 x - 1 → m' 14 (3 * x + j) = m 14 (3 * x + (j + 1)) := fun j hj2 => by
          have := sz3 x hx
          rw [A x j hx (by omega) (by omega), if_pos ⟨rfl, hj2⟩]
        have hqp := other x (j + 1) hx (by omega) (fun _ => by omega)
        obtain ⟨a1, a2, a3, a4⟩ := (i4 x hx).2 (j + 1) (by omega)
        rw [B j hj, (keep _ hqp).1, (keep _ hqp).2, r8, s4]
        refine ⟨a1, a2, a3, fun j' hj' => ?_⟩
        rw [B j' (by omega)]
        exact a4 (j' + 1) (by omega)
      · rw [if_neg hxb] at hj
        have h3 := sz3 x hx
        have B : ∀ j, j < m 15 x → m' 14 (3 * x + j) = m 14 (3 * x + j) := fun j hj2 => by
          rw [A x j hx (by omega) hj2, if_neg (fun z => hxb z.1)]
        have hqp := other x j hx hj (fun z => absurd z hxb)
        obtain ⟨a1, a2, a3, a4⟩ := (i4 x hx).2 j hj
        rw [B j hj, (keep _ hqp).1, (keep _ hqp).2, r8, s4]
        refine ⟨a1, a2, a3, fun j' hj' => ?_⟩
        rw [B j' (by omega)]
        exact a4 j' hj'
  · rw [s4] at hq
    by_cases hqp : q = p
    · subst hqp
      rw [f10, if_pos rfl] at h10
      have h4 : o ≠ 4 := fun z => h10 (if_pos z)
      have hpb : pb m' q = b' := by
        unfold pb
        rw [f10, f11, r8, if_pos (show q = q from rfl), if_pos (show q = q ∧ o ≠ 4 from ⟨rfl, h4⟩), if_neg h4, hb', show m 8 q = b % 2 by omega]
      rw [hpb, f15, if_pos ⟨h4, rfl⟩]
      refine ⟨m 15 b', by omega, ?_⟩
      rw [f14, if_pos ⟨h4, rfl⟩]
    · obtain ⟨k1, k2⟩ := keep q hqp
      rw [k1] at h10
      obtain ⟨j, hj1, hj2⟩ := i5 q hq h10
      have hpb : pb m' q = pb m q := by
        unfold pb
        rw [k1, k2, r8]
      rw [hpb]
      obtain ⟨x, hx⟩ : ∃ x, x = pb m q := ⟨_, rfl⟩
      rw [← hx] at hj1 hj2 ⊢
      have hx160 : x < 160 := by
        obtain ⟨a1, a2, a3, a4, a5, a6, a7⟩ := i3 q hq
        have : x = (m 10 q - 1) * 10 + 2 * m 11 q + m 8 q := hx
        omega
      have h3 := sz3 x hx160
      by_cases hxb : x = b
      · subst hxb
        have hj0 : j ≠ 0 := fun z => by
          subst z
          exact hqp (hj2.symm.trans hhd)
        refine ⟨j - 1, ?_, ?_⟩
        · rw [f15, if_neg (fun z => hne z.1 z.2), if_pos rfl]
          omega
        · rw [A x (j - 1) hx160 (by omega) (by omega), if_pos ⟨rfl, by omega⟩, show j - 1 + 1 = j by omega]
          exact hj2
      · refine ⟨j, ?_, ?_⟩
        · rw [f15]
          split
          · omega
          · exact hj1
        · rw [A x j hx160 (by omega) hj1, if_neg (fun z => hxb z.1)]
          exact hj2
  · rw [s4] at hq
    by_cases hqp : q = p
    · subst hqp
      rw [f10, if_pos rfl] at h10 ⊢
      have h4 : o ≠ 4 := fun z => h10 (if_pos z)
      rw [f11, if_pos (show q = q ∧ o ≠ 4 from ⟨rfl, h4⟩), if_neg h4, nb_back hN hw (by omega) (hcr (by omega)).1]
      omega
    · obtain ⟨k1, k2⟩ := keep q hqp
      rw [k1] at h10 ⊢
      rw [k2] at h11 ⊢
      exact i6 q hq h10 h11
  · have := i7 x hx
    rw [f16]
    split <;> omega
  · have := i7' x hx h8
    rw [f16, hcs, f15, s6]
    by_cases h1 : o ≠ 4 ∧ x = b'
    · have hrm := hroom h1.1
      have hxb : x ≠ b := fun z => hne h1.1 (z.symm.trans h1.2)
      rw [if_pos h1, if_pos h1, if_neg (fun z => hxb z.1), h1.2]
      omega
    · rw [if_neg h1, if_neg h1]
      by_cases hxb : x = b
      · rw [if_pos ⟨hxb, by rw [← hxb]; exact h8⟩, if_pos hxb, ← hxb]
        rw [← hxb] at h0
        omega
      · rw [if_neg (fun z => hxb z.1), if_neg hxb]
        exact this
  · rw [f8]
    by_cases h8 : b % 10 < 8
    · have hm4 : (m 22 1 + 1 + m 22 7) % 4 < 4 := Nat.mod_lt _ (by decide)
      have hu := sumN_u (f := m 17) (g := m' 17) (i := b * 4 + (m 22 1 + 1 + m 22 7) % 4) (n := 640) (by omega) (fun j hj => by rw [f17, if_neg (fun z => hj z.2)])
      rw [f17, if_pos ⟨h8, rfl⟩] at hu
      rw [if_pos h8]
      omega
    · rw [if_neg h8]
      have : sumN (m' 17) 640 = sumN (m 17) 640 := sumN_c fun i hi => by rw [f17, if_neg (fun z => h8 z.1)]
      omega
  · have := i8o x hx h8
    rw [hcs, if_neg]
    · exact this
    · intro z
      omega
  · have hx9 : bf w' i l < 160 := by
      show w' * 10 + 2 * i + l < 160
      omega
    have h8 : bf w' i l % 10 < 8 := by
      show (w' * 10 + 2 * i + l) % 10 < 8
      omega
    have := i8' w' hw' i hi l hl hn
    have hxb' : ¬ (o ≠ 4 ∧ bf w' i l = b') := fun z => by
      rw [hb'] at z
      obtain ⟨z1, z2, z3⟩ := bf_inj (by omega) hl (by omega) (by omega) z.2
      subst z2
      rw [z1, nb_back hN hw hi (hcr (by omega)).1] at hn
      omega
    rw [f16, hcs, f15, s6, if_neg hxb', if_neg hxb']
    by_cases hxb : bf w' i l = b
    · rw [if_pos ⟨hxb, by rw [← hxb]; exact h8⟩, if_pos hxb, ← hxb]
      rw [← hxb] at h0
      omega
    · rw [if_neg (fun z => hxb z.1), if_neg hxb]
      exact this
