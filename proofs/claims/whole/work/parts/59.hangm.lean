/-! what hangs on what: the reference's side -/
def a16 (e : DS) (g : Nat → Nat) : DS := fun k i => if k = 16 ∧ i < 25600 then g i else e k i
def edg (c r : Nat) (q : Nat × Nat) : Nat := 160 * q.1 + (nxt c r (q.1 / 10) q.2 (q.1 % 2) - 1)
def ine (c r : Nat) (g : Nat → Nat) (q : Nat × Nat) : Nat → Nat := fun i => if i = edg c r q then 1 else g i
def ineL (c r : Nat) (g : Nat → Nat) : List (Nat × Nat) → Nat → Nat
  | [] => g
  | q :: L => ineL c r (ine c r g q) L
theorem ine_le {c r : Nat} {g : Nat → Nat} (hg : ∀ i, g i ≤ 1) (q : Nat × Nat) : ∀ i, ine c r g q i ≤ 1 := fun i => by
  unfold ine
  split
  · exact Nat.le_refl _
  · exact hg i
theorem ineL_le (c r : Nat) : ∀ (L : List (Nat × Nat)) (g : Nat → Nat), (∀ i, g i ≤ 1) → ∀ i, ineL c r g L i ≤ 1 := by
  intro L
  induction L with
  | nil => exact fun g hg => hg
  | cons q L ih => exact fun g hg => ih _ (ine_le hg q)
theorem ineL_iff (c r i : Nat) : ∀ (L : List (Nat × Nat)) (g : Nat → Nat), ineL c r g L i = 1 ↔ g i = 1 ∨ ∃ q, q ∈ L ∧ i = edg c r q := by
  intro L
  induction L with
  | nil =>
    intro g
    constructor
    · intro h
      exact Or.inl h
    · rintro (h | ⟨q, hq, -⟩)
      · exact h
      · exact absurd hq (by simp)
  | cons q L ih =>
    intro g
    rw [ineL, ih]
    unfold ine
    by_cases hq : i = edg c r q
    · rw [if_pos hq]
      exact ⟨fun _ => Or.inr ⟨q, List.mem_cons_self, hq⟩, fun _ => Or.inl rfl⟩
    · rw [if_neg hq]
      constructor
      · rintro (h | ⟨q', h1, h2⟩)
        · exact Or.inl h
        · exact Or.inr ⟨q', List.mem_cons_of_mem _ h1, h2⟩
      · rintro (h | ⟨q', h1, h2⟩)
        · exact Or.inl h
        · rcases List.mem_cons.mp h1 with z | z
          · exact absurd (by rw [← z]; exact h2) hq
          · exact Or.inr ⟨q', z, h2⟩
theorem a16_s (e : DS) (g : Nat → Nat) {i : Nat} (v : Nat) (hi : i < 25600) : dset (a16 e g) 16 i v = a16 e (fun j => if j = i then v else g j) := by
  funext k j
  rw [dset_a]
  unfold a16
  by_cases h : k = 16 ∧ j = i
  · rw [if_pos h, if_pos ⟨h.1, by omega⟩]
    exact (if_pos h.2).symm
  · rw [if_neg h]
    by_cases h2 : k = 16 ∧ j < 25600
    · rw [if_pos h2, if_pos h2]
      exact (if_neg (fun z => h ⟨h2.1, z⟩)).symm
    · rw [if_neg h2, if_neg h2]
theorem k_l77 (K : Int32 → Int32 → CS → Option (Int32 × CS)) (F : Nat) {c r p a j : Nat} {e : DS} (hG : GrM e c r) (hp : p < 80) (hg : e 8 p < c * r) (hm : e 11 p < 2) (hl : e 10 p < 2) : ∀ (k n b : Nat) (g : Nat → Nat), ds c (b / 10) (e 8 p) ≤ k → k + 1 ≤ n → b < c * r * 10 → b % 2 = e 10 p → r_X8_lays_b77 K F n (nI a) (nI j) (nI p) (nI b) (nI (wt c (b / 10) (e 8 p) (e 11 p))) (EM (a16 e g)) = K (nI a) (nI (j + 1)) (EM (a16 e (ineL c r g (wk c r (e 8 p) (e 11 p) (e 10 p) k (b / 10) b)))) := by
  have hN := hG.2.2
  have h16 := Gr16 hN
  intro k
  induction k with
  | zero =>
    intro n b g h1 h2 hb hbl
    obtain ⟨n, rfl⟩ : ∃ k, n = k + 1 := ⟨n - 1, by omega⟩
    have hd := ds_all hN (show b / 10 < c * r by omega) hg hm
    have h4 : wt c (b / 10) (e 8 p) (e 11 p) = 4 := by
      apply Classical.byContradiction
      intro z
      have := (hd.2 z).2
      omega
    rw [h4, r_X8_lays_b77_s, if_pos (by decide), x_l1, nI_add]
    rfl
  | succ k ih =>
    intro n b g h1 h2 hb hbl
    obtain ⟨n, rfl⟩ : ∃ k, n = k + 1 := ⟨n - 1, by omega⟩
    have hw : b / 10 < c * r := by omega
    have hd := (ds_all hN hw hg hm).2
    have ho4 := wt_le c (b / 10) (e 8 p) (e 11 p)
    rw [wk]
    obtain ⟨o, ho⟩ : ∃ o, o = wt c (b / 10) (e 8 p) (e 11 p) := ⟨_, rfl⟩
    rw [← ho] at ho4 hd ⊢
    rw [r_X8_lays_b77_s]
    by_cases h4 : o = 4
    · rw [if_pos (by rw [h4]; decide), (nxt_le hN hw hl).2 h4, if_pos rfl, x_l1, nI_add]
      rfl
    · obtain ⟨hn, hds⟩ := hd h4
      have hb1 := nb_lt (dir := o) hN hw
      have hnx : nxt c r (b / 10) o (e 10 p) = bf (nb c r (b / 10) o - 1) o (e 10 p) + 1 := by
        unfold nxt
        rw [if_neg hn]
      have hz10 : nI b / (10 : Int32) = nI (b / 10) := x_dv 10 (by omega) (by decide) (by decide) 10 rfl
      have hG2 : GrM (a16 e g) c r := hG
      have a10 : x_at (EM (a16 e g)) 10 (nI p) = nI (e 10 p) := by
        show EM (a16 e g) 10 (nI p).toNatClampNeg = _
        rw [x_cl (by omega)]
        rfl
      have hedg : edg c r (b, o) = 160 * b + bf (nb c r (b / 10) o - 1) o (e 10 p) := by
        show 160 * b + (nxt c r (b / 10) o (b % 2) - 1) = _
        rw [hbl, hnx, Nat.add_sub_cancel]
      rw [hnx, if_neg (Nat.succ_ne_zero _), Nat.add_sub_cancel, ineL, if_neg (by rw [x_l4, x_le (by decide) (by omega)]; omega), hz10, k_neighbour F o hG2 hw (by omega), x_obS, mI_p hn, x_ogT (x_inT hp (by omega)), a10, k_bufferOf, x_obS]
      have hz9 : bf (nb c r (b / 10) o - 1) o (e 10 p) < c * r * 10 := by
        show (nb c r (b / 10) o - 1) * 10 + 2 * o + e 10 p < c * r * 10
        omega
      have hzw : bf (nb c r (b / 10) o - 1) o (e 10 p) / 10 = nb c r (b / 10) o - 1 := by
        show ((nb c r (b / 10) o - 1) * 10 + 2 * o + e 10 p) / 10 = nb c r (b / 10) o - 1
        omega
      have hzl : bf (nb c r (b / 10) o - 1) o (e 10 p) % 2 = e 10 p := by
        show ((nb c r (b / 10) o - 1) * 10 + 2 * o + e 10 p) % 2 = e 10 p
        omega
      have hst : x_st (EM (a16 e g)) 16 (nI (160 * b + bf (nb c r (b / 10) o - 1) o (e 10 p))) (vp_nar .boolean (1 : Int32)) = EM (a16 e (ine c r g (b, o))) := by
        show cset (EM (a16 e g)) 16 (nI (160 * b + bf (nb c r (b / 10) o - 1) o (e 10 p))).toNatClampNeg (vp_nar .boolean (nI 1)) = _
        rw [x_cl (by omega), x_zn (by decide), EMs_16, a16_s _ _ _ (by omega), ← hedg]
        rfl
      have hwd := k_wanted F (e := a16 e (ine c r g (b, o))) (c := c) (r := r) (w := nb c r (b / 10) o - 1) (p := p) hG (by omega) hp hg hm
      have ihh := ih n (bf (nb c r (b / 10) o - 1) o (e 10 p)) (ine c r g (b, o)) (by rw [hzw]; omega) (by omega) hz9 hzl
      rw [hzw] at ihh
      have hz2 : nI (bf (nb c r (b / 10) o - 1) o (e 10 p)) / (10 : Int32) = nI (nb c r (b / 10) o - 1) := by
        rw [← hzw]
        rw [hzw]
        exact (x_dv 10 (by omega) (by decide) (by decide) 10 rfl).trans (congrArg nI hzw)
      rw [x_l160, pk_mul, nI_add, x_ogT (x_inT (by omega) (by omega)), hst, x_osS, hz2, hwd, x_obS]
      exact ihh
theorem k_l42 (K : Int32 → CS → Option (Int32 × CS)) (F : Nat) {c r b : Nat} {d e : DS} (hF : 1000 ≤ F) (hJ : JJ c r d e) (hb : b < c * r * 10) : ∀ (k n j : Nat) (g : Nat → Nat), j + k = d 15 b → k + 1 ≤ n → (∀ i, g i ≤ 1) → ∃ g', r_X8_lays_b42 K F n (nI b) (nI j) (EM (a16 e g)) = K (nI (b + 1)) (EM (a16 e g')) ∧ (∀ i, g' i ≤ 1) ∧ ∀ i, g' i = 1 ↔ g i = 1 ∨ ∃ j', j ≤ j' ∧ j' < d 15 b ∧ ∃ q, q ∈ wkp c r d (d 14 (3 * b + j')) ∧ i = edg c r q := by
  have hN := hJ.1.1.2.2.1
  have h16 := Gr16 hN
  have hb9 : b < 160 := by omega
  obtain ⟨j6, j6', j7, j1, j80⟩ := hJ.1.2
  obtain ⟨hs, hq⟩ := hJ.2.2.2.1 b hb9
  obtain ⟨y1, y2⟩ := hJ.2.2.2.2.2.2.2.2.2.2.2.1 b hb9
  have a1 : ∀ g, x_at (EM (a16 e g)) 1 (nI b) = nI (d 15 b) := fun g => by
    show EM (a16 e g) 1 (nI b).toNatClampNeg = _
    rw [x_cl (by omega), ← y1]
    rfl
  intro k
  induction k with
  | zero =>
    intro n j g h1 h2 hg
    obtain ⟨n, rfl⟩ : ∃ k, n = k + 1 := ⟨n - 1, by omega⟩
    refine ⟨g, ?_, hg, fun i => ?_⟩
    · rw [r_X8_lays_b42_s, x_ogT (x_inT hb9 (by omega)), a1, if_pos (by rw [x_le (by omega) (by omega)]; omega), x_l1, nI_add]
    · constructor
      · exact fun h => Or.inl h
      · rintro (h | ⟨j', z1, z2, -⟩)
        · exact h
        · omega
  | succ k ih =>
    intro n j g h1 h2 hg
    obtain ⟨n, rfl⟩ : ∃ k, n = k + 1 := ⟨n - 1, by omega⟩
    obtain ⟨q1, q2, q3, q4⟩ := hq j (by omega)
    have y3 := y2 j (by omega)
    obtain ⟨p, hpe⟩ : ∃ p, p = d 14 (3 * b + j) := ⟨_, rfl⟩
    rw [← hpe] at q1 q2 q3 y3
    obtain ⟨p1, p2, p3, p4, p5, p6, p7⟩ := hJ.2.2.1 p q1
    obtain ⟨z1, z2, z3, z4, z5, z6, z7⟩ := hJ.2.2.2.2.2.2.2.2.2.2.1 p q1
    have hp : p < 80 := by omega
    have q3' : b / 10 * 10 + 2 * d 11 p + d 8 p = b := q3
    have hwk : wk c r (e 8 p) (e 11 p) (e 10 p) 16 (b / 10) b = wkp c r d p := by
      unfold wkp
      rw [show pb d p = b by show bf (d 10 p - 1) (d 11 p) (d 8 p) = b; rw [q2, Nat.add_sub_cancel]; exact q3, q2, Nat.add_sub_cancel, z2, z3, z4]
    have a0 : x_at (EM (a16 e g)) 0 (nI (3 * b + j)) = nI p := by
      show EM (a16 e g) 0 (nI (3 * b + j)).toNatClampNeg = _
      rw [x_cl (by omega), ← y3]
      rfl
    have hz10 : nI b / (10 : Int32) = nI (b / 10) := x_dv 10 (by omega) (by decide) (by decide) 10 rfl
    have hG := hJ.grm
    have hds := (ds_all (m := d 9 p) hN (show b / 10 < c * r by omega) p2 p4).1
    have hwd := k_wanted F (e := a16 e g) (c := c) (r := r) (w := b / 10) (p := p) hG (by omega) hp (by show e 8 p < c * r; rw [z2]; exact p2) (by show e 11 p < 2; rw [z4]; exact p4)
    have h77 := k_l77 (r_X8_lays_b42 K F n) F (p := p) (a := b) (j := j) hG hp (by rw [z2]; exact p2) (by rw [z4]; exact p4) (by rw [z3]; exact p3) 16 F b g (by rw [z2]; omega) (by omega) hb (by rw [z3]; omega)
    rw [hwk] at h77
    obtain ⟨g', e1, e2, e3⟩ := ih n (j + 1) (ineL c r g (wkp c r d p)) (by omega) (by omega) (ineL_le c r _ _ hg)
    refine ⟨g', ?_, e2, fun i => ?_⟩
    · rw [r_X8_lays_b42_s, x_ogT (x_inT hb9 (by omega)), a1, if_neg (by rw [x_le (by omega) (by omega)]; omega), x_l3, pk_mul, nI_add, x_ogT (x_inT (by omega) (by omega)), a0, x_oiS, hz10, hwd, x_obS]
      exact h77.trans e1
    · rw [e3, ineL_iff]
      constructor
      · rintro ((h | ⟨q, w1, w2⟩) | ⟨j', w1, w2, w3⟩)
        · exact Or.inl h
        · exact Or.inr ⟨j, Nat.le_refl _, by omega, q, by rw [← hpe]; exact w1, w2⟩
        · exact Or.inr ⟨j', by omega, w2, w3⟩
      · rintro (h | ⟨j', w1, w2, q, w3, w4⟩)
        · exact Or.inl (Or.inl h)
        · rcases Nat.eq_or_lt_of_le w1 with z | z
          · subst z
            rw [← hpe] at w3
            exact Or.inl (Or.inr ⟨q, w3, w4⟩)
          · exact Or.inr ⟨j', z, w2, q, w3, w4⟩
