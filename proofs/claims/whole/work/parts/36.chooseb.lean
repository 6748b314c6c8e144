/-! who goes: the system's side, the turns -/
def tt (d : DS) (x w S : Nat) : DS := if S = 0 then d else dset (dset (dset d 3 (d 22 0) (hd d (w * 10 + (S - 1)))) 22 0 (d 22 0 + 1)) 1 x (S % 10)
theorem n_tt (F : Nat) {d1 : DS} {w x t : Nat} {f : Nat → Nat} (hw : w < 16) (hx : x < 80) (ht : t < 10) (hf : ∀ j, f j ≤ 1) (h15 : ∀ j, j < 10 → f j ≠ 0 → 0 < d1 15 (w * 10 + j)) (hs : ∀ b, b < 160 → d1 15 b ≤ 3) (hc : d1 22 0 < 80) : ∀ (m n s : Nat), s + m = 10 → m + 1 ≤ n → r_X7_takeTurn_b21 F n (nI w) (nI (mk f 10)) (nI x) (nI ((t + s) % 10)) (nI s) (E d1) = some (0, E (tt d1 x w (srch f t m s))) := by
  have hmk := mk_lt hf 10
  have h10 : (2 : Nat) ^ 10 = 1024 := by decide
  intro m
  induction m with
  | zero =>
    intro n s h1 h2
    obtain ⟨n, rfl⟩ : ∃ k, n = k + 1 := ⟨n - 1, by omega⟩
    obtain rfl : s = 10 := by omega
    rw [r_X7_takeTurn_b21_s, if_pos (by decide)]
    rfl
  | succ m ih =>
    intro n s h1 h2
    obtain ⟨n, rfl⟩ : ∃ k, n = k + 1 := ⟨n - 1, by omega⟩
    obtain ⟨p, hp⟩ : ∃ p, p = (t + s) % 10 := ⟨_, rfl⟩
    have hp10 : p < 10 := by omega
    have both : r_X7_takeTurn_b45 (r_X7_takeTurn_b21 F n) F (nI w) (nI (mk f 10)) (nI x) (nI p) (nI s) (nI ((p + 1) % 10)) (E d1) = some (0, E (tt d1 x w (srch f t (m + 1) s))) := by
      unfold r_X7_takeTurn_b45
      rw [x_bit (by omega) hp10, mk_bit hf hp10, srch, ← hp]
      by_cases q : f p = 0
      · rw [q, if_pos (by rfl), if_pos rfl, x_l1, nI_add, show (p + 1) % 10 = (t + (s + 1)) % 10 by omega]
        exact ih n (s + 1) (by omega) (by omega)
      · have q1 : f p = 1 := by
          have := hf p
          omega
        have h0 := h15 p hp10 q
        have hb : w * 10 + p < 160 := by omega
        have h3 := hs _ hb
        rw [if_neg q, q1, if_neg (by decide), x_l10, pk_mul, nI_add, n_first F hb (by omega), x_obS, if_pos h0, mI_s, E_22, n_put_3 F _ _ hc, x_obS, E_22, x_l1, nI_add, Es_22, x_osS, n_put_1 F _ _ hx, x_obS]
        unfold tt
        rw [if_neg (by omega), show p + 1 - 1 = p from rfl]
        rfl
    rw [r_X7_takeTurn_b21_s, if_neg (by rw [x_l10, x_le (by decide) (by omega)]; omega), ← hp]
    by_cases q : p = 9
    · rw [if_pos (by rw [q]; decide)]
      rw [show (p + 1) % 10 = 0 by omega] at both
      exact both
    · rw [if_neg (by rw [x_l10, x_l1, nI_add, x_le (by decide) (by omega)]; omega), x_l1, nI_add]
      rw [show (p + 1) % 10 = p + 1 by omega] at both
      exact both
def pk (c r : Nat) (d : DS) (x : Nat) : Nat := hd d (x / 5 * 10 + (sl c r d x - 1))
def cnt (c r : Nat) (d : DS) : Nat → Nat
  | 0 => 0
  | x + 1 => if sl c r d x = 0 then cnt c r d x else cnt c r d x + 1
theorem cnt_le (c r : Nat) (d : DS) : ∀ x, cnt c r d x ≤ x := by
  intro x
  induction x with
  | zero => exact Nat.le_refl _
  | succ x ih =>
    rw [cnt]
    split <;> omega
theorem cnt_mono (c r : Nat) (d : DS) (x : Nat) : ∀ y, cnt c r d x ≤ cnt c r d (x + y) := by
  intro y
  induction y with
  | zero => exact Nat.le_refl _
  | succ y ih =>
    refine Nat.le_trans ih ?_
    show _ ≤ cnt c r d (x + y + 1)
    rw [cnt]
    split <;> omega
theorem cnt_lt {c r : Nat} {d : DS} {i x : Nat} (h : i < x) (h0 : sl c r d i ≠ 0) : cnt c r d i < cnt c r d x := by
  have h1 := cnt_mono c r d (i + 1) (x - (i + 1))
  rw [show i + 1 + (x - (i + 1)) = x by omega, cnt, if_neg h0] at h1
  omega
def CH (c r : Nat) (d d1 : DS) (x : Nat) : Prop := CE d d1 ∧ d1 22 0 = cnt c r d x ∧ (∀ i, i < 80 → d1 1 i = if i < x ∧ sl c r d i ≠ 0 then sl c r d i % 10 else d 1 i) ∧ ∀ i, i < x → sl c r d i ≠ 0 → d1 3 (cnt c r d i) = pk c r d i
theorem CH.s {c r : Nat} {d d1 : DS} {x : Nat} (h : CH c r d d1 x) (hx : x < 80) : CH c r d (tt d1 x (x / 5) (sl c r d x)) (x + 1) := by
  obtain ⟨⟨k1, k2, k3⟩, h0, h1, h3⟩ := h
  unfold tt
  by_cases q : sl c r d x = 0
  · rw [if_pos q]
    refine ⟨⟨k1, k2, k3⟩, ?_, fun i hi => ?_, fun i hi hn => ?_⟩
    · rw [cnt, if_pos q]
      exact h0
    · rw [h1 i hi]
      by_cases hlt : i < x ∧ sl c r d i ≠ 0
      · rw [if_pos hlt, if_pos ⟨by omega, hlt.2⟩]
      · rw [if_neg hlt, if_neg]
        intro z
        apply hlt
        refine ⟨?_, z.2⟩
        rcases Nat.lt_or_ge i x with g | g
        · exact g
        · exact absurd (by rw [show i = x by omega]; exact q) z.2
    · by_cases hix : i = x
      · exact absurd (by rw [hix]; exact q) hn
      · exact h3 i (by omega) hn
  · rw [if_neg q]
    have hr1 : ∀ i, dset (dset (dset d1 3 (d1 22 0) (hd d1 (x / 5 * 10 + (sl c r d x - 1)))) 22 0 (d1 22 0 + 1)) 1 x (sl c r d x % 10) 1 i = if i = x then sl c r d x % 10 else d1 1 i := fun i => rfl
    refine ⟨⟨fun k a1 a2 a3 a4 => ?_, fun i hi => ?_, fun i hi => ?_⟩, ?_, fun i hi => ?_, fun i hi hn => ?_⟩
    · refine Eq.trans (funext fun i => ?_) (k1 k a1 a2 a3 a4)
      rw [dset_n _ _ _ _ a1, dset_n _ _ _ _ a4, dset_n _ _ _ _ a3]
    · rw [← k2 i hi]
      show dset (dset d1 3 (d1 22 0) _) 22 0 (d1 22 0 + 1) 22 i = d1 22 i
      rw [dset_o _ _ _ _ hi]
      rfl
    · rw [hr1 i]
      split
      · exact Nat.mod_lt _ (by decide)
      · exact k3 i hi
    · show d1 22 0 + 1 = _
      rw [cnt, if_neg q, h0]
    · rw [hr1 i, h1 i hi]
      by_cases hix : i = x
      · subst hix
        rw [if_pos rfl, if_pos ⟨by omega, q⟩]
      · rw [if_neg hix]
        by_cases hlt : i < x ∧ sl c r d i ≠ 0
        · rw [if_pos hlt, if_pos ⟨by omega, hlt.2⟩]
        · rw [if_neg hlt, if_neg]
          intro z
          exact hlt ⟨by omega, z.2⟩
    · show dset d1 3 (d1 22 0) (hd d1 (x / 5 * 10 + (sl c r d x - 1))) 3 (cnt c r d i) = _
      by_cases hix : i = x
      · subst hix
        rw [h0, dset_s]
        unfold pk hd
        rw [k1 14 (by decide) (by decide) (by decide) (by decide)]
      · have hlt := cnt_lt (show i < x by omega) hn
        rw [h0, dset_o _ _ _ _ (by omega)]
        exact h3 i (by omega) hn
theorem n_ch96 (F : Nat) {c r w : Nat} {d : DS} (hF : 1000 ≤ F) (hw : w < c * r) (hJ : JI c r d) : ∀ (m n o : Nat) (d1 : DS), o + m = 5 → m + 1 ≤ n → CH c r d d1 (w * 5 + o) → (∀ o, o < 5 → d1 2 o = mk (rb c r d w o) 10) → ∃ d2, r_X7_chooseAt_b96 F n (nI w) (nI o) (E d1) = some (0, E d2) ∧ CH c r d d2 (w * 5 + 5) := by
  have h16 := Gr16 hJ.1.1.2.2.1
  intro m
  induction m with
  | zero =>
    intro n o d1 h1 h2 hC hm
    obtain ⟨n, rfl⟩ : ∃ k, n = k + 1 := ⟨n - 1, by omega⟩
    obtain rfl : o = 5 := by omega
    refine ⟨d1, ?_, hC⟩
    rw [r_X7_chooseAt_b96_s, if_pos (by decide)]
  | succ m ih =>
    intro n o d1 h1 h2 hC hm
    obtain ⟨n, rfl⟩ : ∃ k, n = k + 1 := ⟨n - 1, by omega⟩
    have hx5 : (w * 5 + o) / 5 = w := by omega
    have hxo : (w * 5 + o) % 5 = o := by omega
    have hx : w * 5 + o < 80 := by omega
    have hf := rb_le c r d w o
    have hsl : sl c r d (w * 5 + o) = srch (rb c r d w o) (d 1 (w * 5 + o)) 10 0 := by
      unfold sl
      rw [hx5, hxo]
    have hC2 := hC.s hx
    rw [hx5] at hC2
    have hmk := mk_lt hf 10
    have h10 : (2 : Nat) ^ 10 = 1024 := by decide
    rw [r_X7_chooseAt_b96_s, if_neg (by rw [x_l5, x_le (by decide) (by omega)]; omega), n_at_2 F _ (by omega), x_obS, hm o (by omega)]
    unfold r_X7_chooseAt_b126
    by_cases q : mk (rb c r d w o) 10 = 0
    · have h0 : sl c r d (w * 5 + o) = 0 := by
        rw [hsl]
        refine srch_0 (fun j hj => ?_) 10 0
        rw [← mk_bit hf hj, q, Nat.zero_div]
      have e0 : tt d1 (w * 5 + o) w 0 = d1 := rfl
      rw [h0, e0] at hC2
      rw [if_pos (by rw [q]; rfl), x_l1, nI_add]
      exact ih n (o + 1) d1 (by omega) (by omega) hC2 hm
    · have hJ1 := hJ.ce hC.1
      have h22 : d1 22 0 < 80 := by
        have := cnt_le c r d (w * 5 + o)
        rw [hC.2.1]
        omega
      have h1t : d1 1 (w * 5 + o) = d 1 (w * 5 + o) := by
        rw [hC.2.2.1 _ hx, if_neg (by omega)]
      have htt := n_tt F (d1 := d1) (w := w) (x := w * 5 + o) (t := d 1 (w * 5 + o)) (f := rb c r d w o) (by omega) hx (hJ.2.1.2 _ hx) hf (fun j hj hn => by
        rw [← rb_ce hC.1] at hn
        unfold rb at hn
        by_cases g : 0 < d1 15 (w * 10 + j)
        · exact g
        · rw [if_neg (fun z => g z.1)] at hn
          exact absurd rfl hn) (fun b hb => by
        have := (hJ1.2.2.2.1 b hb).1
        have := hJ1.1.2.2.1
        omega) h22 10 F 0 (by omega) (by omega)
      rw [Nat.add_zero, Nat.mod_eq_of_lt (hJ.2.1.2 _ hx), ← hsl] at htt
      rw [if_neg (by rw [x_l0, x_eq (by omega) (by decide)]; exact q), n_at_2 F _ (by omega), x_obS, hm o (by omega)]
      unfold r_X7_takeTurn
      rw [x_l5, pk_mul, nI_add, x_oiS, n_at_1 F _ hx, x_obS, h1t, x_l0, htt, x_obS, x_l1, nI_add]
      refine ih n (o + 1) _ (by omega) (by omega) hC2 (fun o' ho' => ?_)
      rw [← hm o' ho']
      unfold tt
      split <;> rfl
theorem n_chooseAt (F : Nat) {c r w : Nat} {d d1 : DS} (hF : 1000 ≤ F) (hw : w < c * r) (hJ : JI c r d) (hC : CH c r d d1 (w * 5)) : ∃ d2, r_X7_chooseAt F (nI w) (E d1) = some (0, E d2) ∧ CH c r d d2 ((w + 1) * 5) := by
  obtain ⟨⟨k1, k2, k3⟩, h0, h1, h3⟩ := hC
  have hd : ∀ k, k ≠ 2 → dfill d1 2 5 0 k = d1 k := fun k hk => funext fun i => if_neg (fun z => hk z.1)
  have hC0 : CH c r d (dfill d1 2 5 0) (w * 5) := by
    refine ⟨⟨fun k a1 a2 a3 a4 => (hd k a2).trans (k1 k a1 a2 a3 a4), fun i hi => ?_, ?_⟩, ?_, ?_, ?_⟩
    · rw [hd 22 (by decide)]
      exact k2 i hi
    · rw [hd 1 (by decide)]
      exact k3
    · rw [hd 22 (by decide)]
      exact h0
    · rw [hd 1 (by decide)]
      exact h1
    · rw [hd 3 (by decide)]
      exact h3
  obtain ⟨d2, e1, e2, e3⟩ := n_ch10 F hw 10 F 0 (dfill d1 2 5 0) (by omega) (by omega) hC0.1 (hJ.ce hC0.1) (fun o ho => if_pos ⟨rfl, ho⟩)
  have hC2 : CH c r d d2 (w * 5) := by
    obtain ⟨⟨k1, k2, k3⟩, h0, h1, h3⟩ := hC0
    refine ⟨⟨fun k a1 a2 a3 a4 => (e2 k a2).trans (k1 k a1 a2 a3 a4), fun i hi => ?_, ?_⟩, ?_, ?_, ?_⟩
    · rw [e2 22 (by decide)]
      exact k2 i hi
    · rw [e2 1 (by decide)]
      exact k3
    · rw [e2 22 (by decide)]
      exact h0
    · rw [e2 1 (by decide)]
      exact h1
    · rw [e2 3 (by decide)]
      exact h3
  obtain ⟨d3, f1, f2⟩ := n_ch96 F hF hw hJ 5 F 0 d2 (by omega) (by omega) hC2 e3
  refine ⟨d3, ?_, by rw [Nat.add_mul]; exact f2⟩
  unfold r_X7_chooseAt
  rw [x_l0, n_fill_2 F _ _ hF, x_obS, e1, f1]
  rfl
theorem n_ro18 (F : Nat) {c r : Nat} {d : DS} (hF : 1000 ≤ F) (hJ : JI c r d) : ∀ (m n w : Nat) (d1 : DS), w + m = c * r → m + 1 ≤ n → CH c r d d1 (w * 5) → ∃ d2, r_X7_runOne_b18 F n (nI w) (E d1) = r_X7_runOne_b42 F F (nI 0) (E d2) ∧ CH c r d d2 (c * r * 5) := by
  have h16 := Gr16 hJ.1.1.2.2.1
  intro m
  induction m with
  | zero =>
    intro n w d1 h1 h2 hC
    obtain ⟨n, rfl⟩ : ∃ k, n = k + 1 := ⟨n - 1, by omega⟩
    obtain rfl : w = c * r := by omega
    refine ⟨d1, ?_, hC⟩
    rw [r_X7_runOne_b18_s, n_size F (hJ.ce hC.1).1.1, x_obS, if_pos (by rw [x_le (by omega) (by omega)]; omega)]
    rfl
  | succ m ih =>
    intro n w d1 h1 h2 hC
    obtain ⟨n, rfl⟩ : ∃ k, n = k + 1 := ⟨n - 1, by omega⟩
    obtain ⟨d2, e1, e2⟩ := n_chooseAt F hF (show w < c * r by omega) hJ hC
    obtain ⟨d3, f1, f2⟩ := ih n (w + 1) d2 (by omega) (by omega) e2
    refine ⟨d3, ?_, f2⟩
    rw [r_X7_runOne_b18_s, n_size F (hJ.ce hC.1).1.1, x_obS, if_neg (by rw [x_le (by omega) (by omega)]; omega), e1, x_obS, x_l1, nI_add]
    exact f1
