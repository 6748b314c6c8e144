/-! they leave: what it comes to -/
def qv (A S : Nat → Nat) (b : Nat) : List Nat := (List.range (S b)).map (fun j => A (3 * b + j))
theorem qv_same {A S A' S' : Nat → Nat} {b : Nat} (h : S' b = S b) (h2 : ∀ j, j < S b → A' (3 * b + j) = A (3 * b + j)) : qv A' S' b = qv A S b := by
  unfold qv
  rw [h]
  refine List.map_congr_left fun j hj => h2 j (List.mem_range.mp hj)
theorem qv_tail {A S A' S' : Nat → Nat} {b : Nat} (h0 : 1 ≤ S b) (h : S' b = S b - 1) (h2 : ∀ j, j < S b - 1 → A' (3 * b + j) = A (3 * b + (j + 1))) : qv A' S' b = (qv A S b).tail := by
  obtain ⟨n, hn⟩ : ∃ n, S b = n + 1 := ⟨S b - 1, by omega⟩
  unfold qv
  rw [h, hn, Nat.add_sub_cancel, List.range_succ_eq_map, List.map_cons, List.tail_cons, List.map_map]
  refine List.map_congr_left fun j hj => ?_
  have := List.mem_range.mp hj
  exact h2 j (by omega)
theorem qv_app {A S A' S' : Nat → Nat} {b p : Nat} (h : S' b = S b + 1) (h2 : ∀ j, j < S b → A' (3 * b + j) = A (3 * b + j)) (h3 : A' (3 * b + S b) = p) : qv A' S' b = qv A S b ++ [p] := by
  unfold qv
  rw [h, List.range_succ, List.map_append, List.map_cons, List.map_nil, h3]
  congr 1
  exact List.map_congr_left fun j hj => h2 j (List.mem_range.mp hj)
theorem qv_len (A S : Nat → Nat) (b : Nat) : (qv A S b).length = S b := by
  unfold qv
  rw [List.length_map, List.length_range]
theorem qv_get {A S A' S' : Nat → Nat} {b : Nat} (h : qv A S b = qv A' S' b) : S b = S' b ∧ ∀ j, j < S b → A (3 * b + j) = A' (3 * b + j) := by
  have hl : S b = S' b := by rw [← qv_len A S b, h, qv_len]
  refine ⟨hl, fun j hj => ?_⟩
  have h1 : (qv A S b)[j]? = (qv A' S' b)[j]? := by rw [h]
  unfold qv at h1
  rw [List.getElem?_map, List.getElem?_map, List.getElem?_range hj, List.getElem?_range (by omega)] at h1
  exact Option.some.inj h1
def qr (c r : Nat) (d : DS) : Nat → Nat → List Nat
  | 0, b => qv (d 14) (d 15) b
  | x + 1, b => if sl c r d x ≠ 0 ∧ src c r d x = b then (qr c r d x b).tail else qr c r d x b
theorem src_inj {c r : Nat} {d : DS} (hJ : JI c r d) {x y : Nat} (hx : x < c * r * 5) (hy : y < c * r * 5) (sx : sl c r d x ≠ 0) (sy : sl c r d y ≠ 0) (h : src c r d x = src c r d y) : x = y := by
  have hA := ALLP.start hJ (d1 := d) ⟨fun _ _ _ _ _ => rfl, fun _ _ => rfl, hJ.2.1.2⟩
  obtain ⟨-, -, w1, -, p1, t1, -⟩ := hA x (Nat.zero_le _) hx sx
  obtain ⟨-, -, w2, -, p2, t2, -⟩ := hA y (Nat.zero_le _) hy sy
  rw [h, p2] at p1
  rw [h, w2] at w1
  rw [← p1, ← w1, t2] at t1
  omega
theorem qr_full {c r : Nat} {d : DS} (hJ : JI c r d) {y : Nat} (hy : y < c * r * 5) (sy : sl c r d y ≠ 0) : ∀ x, x ≤ y → qr c r d x (src c r d y) = qv (d 14) (d 15) (src c r d y) := by
  intro x
  induction x with
  | zero => exact fun _ => rfl
  | succ x ih =>
    intro hx
    rw [qr, if_neg, ih (by omega)]
    intro z
    have := src_inj hJ (by omega) hy z.1 sy z.2
    omega
theorem lvM_f {c r : Nat} {e : DS} {w o S p T x b : Nat} (hx : w * 5 + o = x) (hb : w * 10 + (S - 1) = b) : (∀ k, k ≠ 0 → k ≠ 1 → k ≠ 2 → k ≠ 3 → k ≠ 4 → k ≠ 15 → lvM c r e w o S p T k = e k) ∧ (∀ i, lvM c r e w o S p T 4 i = if i = x then S % 10 else e 4 i) ∧ (∀ i, lvM c r e w o S p T 15 i = if i = x then p + 1 else e 15 i) ∧ (∀ i, lvM c r e w o S p T 2 i = if o ≠ 4 ∧ i = lk w o (b % 2) then e 2 i - 1 else e 2 i) ∧ (∀ i, lvM c r e w o S p T 3 i = if b % 10 < 8 ∧ i = 5 * lk (nb c r w ((b % 10 / 2 + 2) % 4) - 1) (b % 10 / 2) (b % 2) + T % 5 then e 3 i + 1 else e 3 i) ∧ (∀ i, lvM c r e w o S p T 1 i = if i = b then e 1 b - 1 else e 1 i) ∧ ∀ i, lvM c r e w o S p T 0 i = if 3 * b ≤ i ∧ i < 3 * b + (e 1 b - 1) then e 0 (i + 1) else e 0 i := by
  unfold lvM
  rw [hb, hx]
  obtain ⟨e3, he3⟩ : ∃ e3, e3 = dset (tkM (dset e 4 x (S % 10)) b) 15 x (p + 1) := ⟨_, rfl⟩
  have t0 : ∀ i, e3 0 i = if 3 * b ≤ i ∧ i < 3 * b + (e 1 b - 1) then e 0 (i + 1) else e 0 i := fun i => by
    rw [he3]
    by_cases q : 3 * b ≤ i ∧ i < 3 * b + (e 1 b - 1)
    · rw [if_pos q]
      exact if_pos (show 0 = 0 ∧ 3 * b ≤ i ∧ i < 3 * b + (dset e 4 x (S % 10) 1 b - 1) from ⟨rfl, q⟩)
    · rw [if_neg q]
      exact if_neg (show ¬ (0 = 0 ∧ 3 * b ≤ i ∧ i < 3 * b + (dset e 4 x (S % 10) 1 b - 1)) from fun z => q z.2)
  have t1 : ∀ i, e3 1 i = if i = b then e 1 b - 1 else e 1 i := fun i => by
    rw [he3]
    rfl
  have t2 : e3 2 = e 2 := by rw [he3]; rfl
  have t3 : e3 3 = e 3 := by rw [he3]; rfl
  have t4 : ∀ i, e3 4 i = if i = x then S % 10 else e 4 i := fun i => by
    rw [he3]
    rfl
  have t15 : ∀ i, e3 15 i = if i = x then p + 1 else e 15 i := fun i => by
    rw [he3]
    rfl
  have tk : ∀ k, k ≠ 0 → k ≠ 1 → k ≠ 2 → k ≠ 3 → k ≠ 4 → k ≠ 15 → e3 k = e k := fun k k0 k1 k2 k3 k4 k5 => by
    rw [he3]
    funext i
    unfold tkM
    rw [dset_n _ _ _ _ k5, shR_k _ k0, dset_n _ _ _ _ k1, dset_n _ _ _ _ k4]
  rw [← he3]
  obtain ⟨s, hs⟩ : ∃ s, s = 5 * lk (nb c r w ((b % 10 / 2 + 2) % 4) - 1) (b % 10 / 2) (b % 2) + T % 5 := ⟨_, rfl⟩
  simp only [← hs]
  obtain ⟨e4, he4⟩ : ∃ e4, e4 = if b % 10 < 8 then dset e3 3 s (e 3 s + 1) else e3 := ⟨_, rfl⟩
  rw [← he4]
  have u3 : ∀ i, e4 3 i = if b % 10 < 8 ∧ i = s then e 3 i + 1 else e 3 i := fun i => by
    rw [he4]
    by_cases h8 : b % 10 < 8
    · rw [if_pos h8, dset_a]
      by_cases q : i = s
      · rw [if_pos ⟨rfl, q⟩, if_pos ⟨h8, q⟩, q]
      · rw [if_neg (fun z => q z.2), if_neg (fun z => q z.2), t3]
    · rw [if_neg h8, if_neg (fun z => h8 z.1), t3]
  have uk : ∀ k, k ≠ 3 → e4 k = e3 k := fun k k3 => by
    rw [he4]
    split
    · funext i
      rw [dset_n _ _ _ _ k3]
    · rfl
  by_cases h4 : o = 4
  · rw [if_pos h4]
    refine ⟨fun k k0 k1 k2 k3 k4 k5 => (uk k k3).trans (tk k k0 k1 k2 k3 k4 k5), ?_, ?_, fun i => ?_, u3, ?_, ?_⟩
    · rw [uk 4 (by decide)]
      exact t4
    · rw [uk 15 (by decide)]
      exact t15
    · rw [if_neg (fun z => z.1 h4), uk 2 (by decide), t2]
    · rw [uk 1 (by decide)]
      exact t1
    · rw [uk 0 (by decide)]
      exact t0
  · rw [if_neg h4]
    refine ⟨fun k k0 k1 k2 k3 k4 k5 => ?_, fun i => ?_, fun i => ?_, fun i => ?_, fun i => ?_, fun i => ?_, fun i => ?_⟩
    · rw [← tk k k0 k1 k2 k3 k4 k5, ← uk k k3]
      funext i
      rw [dset_n _ _ _ _ k2]
    · rw [dset_n _ _ _ _ (by decide), uk 4 (by decide)]
      exact t4 i
    · rw [dset_n _ _ _ _ (by decide), uk 15 (by decide)]
      exact t15 i
    · rw [dset_a, uk 2 (by decide), t2]
      by_cases q : i = lk w o (b % 2)
      · rw [if_pos ⟨rfl, q⟩, if_pos ⟨h4, q⟩, q]
      · rw [if_neg (fun z => q z.2), if_neg (fun z => q z.2)]
    · rw [dset_n _ _ _ _ (by decide)]
      exact u3 i
    · rw [dset_n _ _ _ _ (by decide), uk 1 (by decide)]
      exact t1 i
    · rw [dset_n _ _ _ _ (by decide), uk 0 (by decide)]
      exact t0 i
theorem RLm.leave {c r : Nat} {m m' e e' : DS} {w o b p : Nat} (hN : GrN c r) (hw : w < c * r) (ho : o < 5) (hbw : b / 10 = w) (hd : m 22 7 ≤ 3) (h : RLm c r m e) (hM : MV c r m m' w o b p) (hno : o < 4 → nb c r w o ≠ 0) (hni : b % 10 < 8 → nb c r w ((b % 10 / 2 + 2) % 4) ≠ 0) (e2 : ∀ i, e' 2 i = if o ≠ 4 ∧ i = lk w o (b % 2) then e 2 i - 1 else e 2 i) (e3 : ∀ i, e' 3 i = if b % 10 < 8 ∧ i = 5 * lk (nb c r w ((b % 10 / 2 + 2) % 4) - 1) (b % 10 / 2) (b % 2) + (m 22 1 + 1 + m 22 7) % 5 then e 3 i + 1 else e 3 i) : RLm c r m' e' := by
  obtain ⟨kk, f10, f11, f12, f14, f15, f16, f17, f18, f5, f8, f22⟩ := hM
  intro w' hw' o' ho' hn' l' hl'
  obtain ⟨g1, g2, g3⟩ := h w' hw' o' ho' hn' l' hl'
  have b1 := nb_lt (dir := o') hN hw'
  have s1 := f22 1 (by decide) (by decide)
  have h16 := Gr16 hN
  have hT5 : (m 22 1 + 1 + m 22 7) % 5 < 5 := Nat.mod_lt _ (by decide)
  rw [s1]
  refine ⟨?_, ?_, fun t t1 t2 => ?_⟩
  · rw [e2, f16]
    by_cases q : o ≠ 4 ∧ lk w' o' l' = lk w o (b % 2)
    · obtain ⟨q1, q2, q3⟩ := lk_inj ho' hl' (by omega) (by omega) q.2
      subst q1 q2
      rw [if_pos q, if_pos ⟨q.1, by rw [q3]⟩, g1]
    · rw [if_neg q, if_neg, g1]
      intro z
      obtain ⟨q1, q2, q3⟩ := bf_inj (by omega) hl' (by omega) (by omega) z.2
      apply q
      subst q2
      have hh := hno ho'
      have b2 := nb_lt (dir := o') hN hw
      have := nb_inj hn' (show nb c r w' o' = nb c r w o' by omega)
      exact ⟨z.1, by rw [this, q3]⟩
  · rw [e3, if_neg, g2]
    intro z
    have b2 := nb_lt (dir := (b % 10 / 2 + 2) % 4) hN hw
    have hz := z.2
    have hm5 : m 22 1 % 5 < 5 := Nat.mod_lt _ (by decide)
    generalize lk w' o' l' = x at *
    generalize lk (nb c r w ((b % 10 / 2 + 2) % 4) - 1) (b % 10 / 2) (b % 2) = y at *
    omega
  · rw [e3, f17, ← g3 t t1 t2]
    by_cases h8 : b % 10 < 8
    · have hv := hni h8
      have b2 := nb_lt (dir := (b % 10 / 2 + 2) % 4) hN hw
      have hbk := nb_back hN hw (show (b % 10 / 2 + 2) % 4 < 4 from Nat.mod_lt _ (by decide)) hv
      rw [show ((b % 10 / 2 + 2) % 4 + 2) % 4 = b % 10 / 2 by omega] at hbk
      have ht5 : t % 5 < 5 := Nat.mod_lt _ (by decide)
      have ht4 : t % 4 < 4 := Nat.mod_lt _ (by decide)
      have hT4 : (m 22 1 + 1 + m 22 7) % 4 < 4 := Nat.mod_lt _ (by decide)
      by_cases q : 5 * lk w' o' l' + t % 5 = 5 * lk (nb c r w ((b % 10 / 2 + 2) % 4) - 1) (b % 10 / 2) (b % 2) + (m 22 1 + 1 + m 22 7) % 5
      · have qa : lk w' o' l' = lk (nb c r w ((b % 10 / 2 + 2) % 4) - 1) (b % 10 / 2) (b % 2) := by
          generalize lk w' o' l' = x at *
          generalize lk (nb c r w ((b % 10 / 2 + 2) % 4) - 1) (b % 10 / 2) (b % 2) = y at *
          omega
        have qt : t = m 22 1 + 1 + m 22 7 := by omega
        obtain ⟨q1, q2, q3⟩ := lk_inj ho' hl' (by omega) (by omega) qa
        have hz : bf (nb c r w' o' - 1) o' l' * 4 + t % 4 = b * 4 + (m 22 1 + 1 + m 22 7) % 4 := by
          rw [q1, q2, q3, hbk, qt]
          show ((w + 1 - 1) * 10 + 2 * (b % 10 / 2) + b % 2) * 4 + _ = _
          omega
        rw [if_pos ⟨h8, q⟩, if_pos ⟨h8, hz⟩]
      · rw [if_neg (fun z => q z.2), if_neg]
        intro z
        apply q
        have hz : ((nb c r w' o' - 1) * 10 + 2 * o' + l') * 4 + t % 4 = b * 4 + (m 22 1 + 1 + m 22 7) % 4 := z.2
        have hB : (nb c r w' o' - 1) * 10 + 2 * o' + l' = b := by omega
        have qt : t = m 22 1 + 1 + m 22 7 := by omega
        have ho2 : o' = b % 10 / 2 := by omega
        have hl2 : l' = b % 2 := by omega
        have hw2 : nb c r w' o' = w + 1 := by omega
        rw [ho2] at hw2
        have hnx : nb c r (nb c r w ((b % 10 / 2 + 2) % 4) - 1) (b % 10 / 2) ≠ 0 := by omega
        have := nb_inj hnx (show nb c r (nb c r w ((b % 10 / 2 + 2) % 4) - 1) (b % 10 / 2) = nb c r w' (b % 10 / 2) by omega)
        rw [this, ho2, hl2, qt]
    · rw [if_neg (fun z => h8 z.1), if_neg (fun z => h8 z.1)]
