/-! what hangs on what: the system's side -/
theorem a21_s (d : DS) (h : Nat → Nat → Nat) {b : Nat} (o : Nat) (hb : b < 160) : dset (a21 d h) 21 b (mk (fun i => if i = o then 1 else h b i) 4) = a21 d (inh h (b, o)) := by
  funext k i
  rw [dset_a]
  unfold a21
  by_cases q : k = 21 ∧ i = b
  · rw [if_pos q, if_pos ⟨q.1, by omega⟩, q.2]
    refine congrArg (fun f => mk f 4) (funext fun j => ?_)
    unfold inh
    by_cases z : j = o
    · rw [if_pos z, if_pos ⟨rfl, z⟩]
    · rw [if_neg z, if_neg (fun y => z y.2)]
  · rw [if_neg q]
    by_cases q2 : k = 21 ∧ i < 160
    · rw [if_pos q2, if_pos q2]
      refine congrArg (fun f => mk f 4) (funext fun j => ?_)
      unfold inh
      rw [if_neg (fun y => q ⟨q2.1, y.1⟩)]
    · rw [if_neg q2, if_neg q2]
theorem n_hang45 (F : Nat) {c r p g m l : Nat} {d : DS} (hG : Gr d c r) (hp : p < 80) (hg : d 7 p = g) (hg2 : g < c * r) (hm : d 9 p = m) (hm2 : m < 2) (hl : l < 2) : ∀ (k n s w b : Nat) (h : Nat → Nat → Nat), s + k = 16 → k + 1 ≤ n → w < c * r → b < 160 → (∀ b o, h b o ≤ 1) → r_X1_hangAlong_b45 F n (nI p) (nI w) (nI l) (nI b) (nI s) (E (a21 d h)) = some (0, E (a21 d (insL h (wk c r g m l k w b)))) := by
  have hN := hG.2.2.1
  have h16 := Gr16 hN
  intro k
  induction k with
  | zero =>
    intro n s w b h h1 h2 hw hb hh
    obtain ⟨n, rfl⟩ : ∃ k, n = k + 1 := ⟨n - 1, by omega⟩
    obtain rfl : s = 16 := by omega
    rw [r_X1_hangAlong_b45_s, if_pos (by decide)]
    rfl
  | succ k ih =>
    intro n s w b h h1 h2 hw hb hh
    obtain ⟨n, rfl⟩ : ∃ k, n = k + 1 := ⟨n - 1, by omega⟩
    have hG2 : Gr (a21 d h) c r := hG
    have e7 : a21 d h 7 p = g := hg
    have e9 : a21 d h 9 p = m := hm
    rw [r_X1_hangAlong_b45_s, if_neg (by rw [x_l16, x_le (by decide) (by omega)]; omega), n_at_7 F _ hp, x_obS, n_at_9 F _ hp, x_obS, e7, e9, n_towards F m hG2 hw hg2 hm2, x_obS, wk]
    obtain ⟨o, ho⟩ : ∃ o, o = wt c w g m := ⟨_, rfl⟩
    have ho4 := wt_le c w g m
    rw [← ho] at ho4 ⊢
    have hle := nxt_le (o := o) hN hw hl
    rw [n_nextBuffer F o l hG2 hw (by omega), x_obS]
    by_cases hz : nxt c r w o l = 0
    · rw [if_pos hz, hz, if_pos (by rfl)]
      rfl
    · have hb1 := nb_lt (dir := o) hN hw
      have hnb : nb c r w o ≠ 0 := fun z => hz (by unfold nxt; rw [if_pos z])
      have ho3 : o < 4 := by
        rcases Nat.lt_or_ge o 4 with q | q
        · exact q
        · exact absurd (hle.2 (by omega)) hz
      have e21 : a21 d h 21 b = mk (h b) 4 := if_pos ⟨rfl, hb⟩
      rw [if_neg hz, insL, if_neg (by rw [show (-1 : Int32) = mI 0 from rfl, x_meq (by omega) (by decide)]; exact hz), n_at_21 F _ hb, x_obS, e21, x_shl (by omega), x_orm (hh b) ho3, n_put_21 F _ _ hb, x_obS, a21_s d h o hb]
      have hG3 : Gr (a21 d (inh h (b, o))) c r := hG
      rw [n_behind F o hG3 hw (by omega), x_obS, mI_p hnb, mI_p hz, x_l1, nI_add]
      exact ih n (s + 1) (nb c r w o - 1) (nxt c r w o l - 1) (inh h (b, o)) (by omega) (by omega) (by omega) (by omega) (inh_le hh _)
/-- the way of a packet -/
def wkp (c r : Nat) (d : DS) (p : Nat) : List (Nat × Nat) := wk c r (d 7 p) (d 9 p) (d 8 p) 16 (d 10 p - 1) (pb d p)
theorem n_hangAlong (F : Nat) {c r p : Nat} {d : DS} {h : Nat → Nat → Nat} (hF : 1000 ≤ F) (hJ : JI c r d) (hp : p < d 22 4) (h0 : d 10 p ≠ 0) (hh : ∀ b o, h b o ≤ 1) : r_X1_hangAlong F (nI p) (E (a21 d h)) = some (0, E (a21 d (insL h (wkp c r d p)))) := by
  have h16 := Gr16 hJ.1.1.2.2.1
  obtain ⟨a1, a2, a3, a4, a5, a6, a7⟩ := hJ.2.2.1 p hp
  have hp80 : p < 80 := by
    have := hJ.1.2.2.2.2.2
    omega
  have hpb : pb d p < 160 := by
    show (d 10 p - 1) * 10 + 2 * d 11 p + d 8 p < 160
    omega
  have e10 : a21 d h 10 p = d 10 p := rfl
  have e8 : a21 d h 8 p = d 8 p := rfl
  have e11 : a21 d h 11 p = d 11 p := rfl
  unfold r_X1_hangAlong
  rw [n_at_10 F _ hp80, x_obS, n_at_8 F _ hp80, x_obS, n_at_11 F _ hp80, x_obS, e10, e8, e11, mI_p h0, n_bufferOf, x_obS, x_l0]
  exact n_hang45 F hJ.1.1 hp80 rfl a2 rfl a4 a3 16 F 0 (d 10 p - 1) (pb d p) h (by omega) (by omega) (by omega) hpb hh
/-- all ways of the packets below n -/
def hgs (c r : Nat) (d : DS) : Nat → Nat → Nat → Nat
  | 0 => fun _ _ => 0
  | n + 1 => if d 10 n = 0 then hgs c r d n else insL (hgs c r d n) (wkp c r d n)
theorem hgs_le (c r : Nat) (d : DS) : ∀ n b o, hgs c r d n b o ≤ 1 := by
  intro n
  induction n with
  | zero => exact fun _ _ => Nat.zero_le _
  | succ n ih =>
    rw [hgs]
    split
    · exact ih
    · exact insL_le _ _ ih
theorem hgs_iff (c r : Nat) (d : DS) (b o : Nat) : ∀ n, hgs c r d n b o = 1 ↔ ∃ p, p < n ∧ d 10 p ≠ 0 ∧ (b, o) ∈ wkp c r d p := by
  intro n
  induction n with
  | zero =>
    constructor
    · intro h
      exact absurd (show (0 : Nat) = 1 from h) (by decide)
    · rintro ⟨p, hp, -⟩
      omega
  | succ n ih =>
    rw [hgs]
    by_cases h0 : d 10 n = 0
    · rw [if_pos h0, ih]
      constructor
      · rintro ⟨p, hp, q⟩
        exact ⟨p, by omega, q⟩
      · rintro ⟨p, hp, q⟩
        refine ⟨p, ?_, q⟩
        rcases Nat.lt_or_ge p n with g | g
        · exact g
        · exact absurd (by rw [show p = n by omega]; exact h0) q.1
    · rw [if_neg h0, insL_iff, ih]
      constructor
      · rintro (⟨p, hp, q⟩ | q)
        · exact ⟨p, by omega, q⟩
        · exact ⟨n, by omega, h0, q⟩
      · rintro ⟨p, hp, q⟩
        rcases Nat.lt_or_ge p n with g | g
        · exact Or.inl ⟨p, g, q⟩
        · exact Or.inr (by rw [show n = p by omega]; exact q.2)
theorem n_ht10 (F : Nat) {c r : Nat} {d : DS} (hF : 1000 ≤ F) (hJ : JI c r d) : ∀ (k n p : Nat), p + k = d 22 4 → k + 1 ≤ n → r_X1_hangsTogether_b10 F n (nI p) (E (a21 d (hgs c r d p))) = r_X1_hangsTogether_b51 F F (nI 1) (nI 0) (E (a21 d (hgs c r d (d 22 4)))) := by
  have h80 := hJ.1.2.2.2.2.2
  intro k
  induction k with
  | zero =>
    intro n p h1 h2
    obtain ⟨n, rfl⟩ : ∃ k, n = k + 1 := ⟨n - 1, by omega⟩
    obtain rfl : p = d 22 4 := by omega
    have e22 : a21 d (hgs c r d (d 22 4)) 22 4 = d 22 4 := rfl
    rw [r_X1_hangsTogether_b10_s, E_22, e22, if_pos (by rw [x_le (by omega) (by omega)]; omega)]
    rfl
  | succ k ih =>
    intro n p h1 h2
    obtain ⟨n, rfl⟩ : ∃ k, n = k + 1 := ⟨n - 1, by omega⟩
    have e22 : a21 d (hgs c r d p) 22 4 = d 22 4 := rfl
    have e10 : a21 d (hgs c r d p) 10 p = d 10 p := rfl
    have ihh := ih n (p + 1) (by omega) (by omega)
    have hpl := (hJ.2.2.1 p (by omega)).2.2.2.2.1
    have h16 := Gr16 hJ.1.1.2.2.1
    rw [hgs] at ihh
    rw [r_X1_hangsTogether_b10_s, E_22, e22, if_neg (by rw [x_le (by omega) (by omega)]; omega), n_at_10 F _ (by omega), x_obS, e10]
    unfold r_X1_hangsTogether_b41
    by_cases h0 : d 10 p = 0
    · rw [if_pos h0] at ihh
      rw [h0, if_pos (by rfl), x_l1, nI_add]
      exact ihh
    · rw [if_neg h0] at ihh
      rw [if_neg (by rw [show (-1 : Int32) = mI 0 from rfl, x_meq (by omega) (by decide)]; exact h0), n_hangAlong F hF hJ (by omega) h0 (hgs_le c r d p), x_obS, x_l1, nI_add]
      exact ihh
