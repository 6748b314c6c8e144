/-! cutting ends: all rounds of the reference -/
def clm (g : Nat → Nat) (M : Nat) (X : Nat → Prop) : Prop := ∀ b, X b → b < M ∧ ∃ t, t < M ∧ g (160 * b + t) ≠ 0 ∧ X t
def FIXM (g : Nat → Nat) (M : Nat) (u : Nat → Nat) : Prop := ∀ b, b < M → u b = 0 → edf g u b M 0 = 0
theorem rnd_clo {g : Nat → Nat} {M : Nat} {u : Nat → Nat} {X : Nat → Prop} (hc : clm g M X) (hX : ∀ b, X b → u b = 0) : ∀ n b, X b → (rnd g M u n).1 b = 0 := by
  intro n
  induction n with
  | zero => exact hX
  | succ n ih =>
    intro b hb
    rw [rnd]
    split
    · split
      · exact ih b hb
      · rename_i g1 g2
        have hbn : b ≠ n := fun z => by
          subst z
          apply g2
          rw [edf_0]
          obtain ⟨h1, t, h2, h3, h4⟩ := hc b hb
          exact ⟨t, Nat.zero_le _, by omega, h3, ih t h4⟩
        show (if b = n then 1 else (rnd g M u n).1 b) = 0
        rw [if_neg hbn]
        exact ih b hb
    · exact ih b hb
theorem rnd_fix {g : Nat → Nat} {M : Nat} {u : Nat → Nat} : ∀ n, (rnd g M u n).2 = 0 → (rnd g M u n).1 = u ∧ ∀ b, b < n → u b = 0 → edf g u b M 0 = 0 := by
  intro n
  induction n with
  | zero => exact fun _ => ⟨rfl, fun b hb => by omega⟩
  | succ n ih =>
    intro hf
    rw [rnd] at hf ⊢
    by_cases g1 : (rnd g M u n).1 n = 0
    · rw [if_pos g1] at hf ⊢
      by_cases g2 : edf g (rnd g M u n).1 n M 0 = 0
      · rw [if_pos g2] at hf ⊢
        obtain ⟨i1, i2⟩ := ih hf
        refine ⟨i1, fun b hb hz => ?_⟩
        by_cases hbn : b = n
        · subst hbn
          rw [i1] at g2
          exact g2
        · exact i2 b (by omega) hz
      · rw [if_neg g2] at hf
        exact absurd (show (1 : Nat) = 0 from hf) (by decide)
    · rw [if_neg g1] at hf ⊢
      obtain ⟨i1, i2⟩ := ih hf
      refine ⟨i1, fun b hb hz => ?_⟩
      by_cases hbn : b = n
      · subst hbn
        rw [i1] at g1
        exact absurd hz g1
      · exact i2 b (by omega) hz
theorem rnd_cnt {g : Nat → Nat} {M : Nat} {u : Nat → Nat} : ∀ n, n ≤ M → sumN u M + (rnd g M u n).2 ≤ sumN (rnd g M u n).1 M := by
  intro n
  induction n with
  | zero =>
    intro _
    show sumN u M + 0 ≤ sumN u M
    rw [Nat.add_zero]
    exact Nat.le_refl _
  | succ n ih =>
    intro hn
    have ihh := ih (by omega)
    rw [rnd]
    split
    · rename_i g1
      split
      · exact ihh
      · have hss := sum_set (u := (rnd g M u n).1) (M := M) (show n < M by omega) g1
        show sumN u M + 1 ≤ sumN (fun i => if i = n then 1 else (rnd g M u n).1 i) M
        omega
    · exact ihh
theorem k_m46 (F : Nat) {M : Nat} {e : DS} {g : Nat → Nat} (hF : 1000 ≤ F) (hM : M ≤ 160) (hg : ∀ i, g i ≤ 1) : ∀ (k n x : Nat) (u : Nat → Nat), M ≤ sumN u M + k → k + 2 ≤ n → (∀ i, u i ≤ 1) → (x = 0 ∧ FIXM g M u) ∨ x = 1 → ∃ u', r_X8_mayCircle_b46 F n (nI M) (nI (M - sumN u M)) (nI x) (SM e g M u) = some (nI (if sumN u' M < M then 1 else 0), SM e g M u') ∧ (∀ i, u' i ≤ 1) ∧ (∀ X, clm g M X → (∀ b, X b → u b = 0) → ∀ b, X b → u' b = 0) ∧ FIXM g M u' := by
  have fin : ∀ n u, (∀ i, u i ≤ 1) → r_X8_mayCircle_b46 F (n + 1) (nI M) (nI (M - sumN u M)) (nI 0) (SM e g M u) = some (nI (if sumN u M < M then 1 else 0), SM e g M u) := fun n u hu => by
    have hs := sum_le1 hu M
    rw [r_X8_mayCircle_b46_s, if_pos (by rfl)]
    by_cases h : sumN u M < M
    · rw [if_neg (by rw [x_l0, x_le (by omega) (by decide)]; omega), if_pos h]
      rfl
    · rw [if_pos (by rw [x_l0, x_le (by omega) (by decide)]; omega), if_neg h]
      rfl
  have one : ∀ n u, (∀ i, u i ≤ 1) → r_X8_mayCircle_b46 F (n + 1) (nI M) (nI (M - sumN u M)) (nI 1) (SM e g M u) = r_X8_mayCircle_b46 F n (nI M) (nI (M - sumN (rnd g M u M).1 M)) (nI (rnd g M u M).2) (SM e g M (rnd g M u M).1) := fun n u hu => by
    rw [r_X8_mayCircle_b46_s, if_neg (by decide)]
    exact k_m55 (r_X8_mayCircle_b46 F n) F (e := e) (u := u) hF hM hg hu M F 0 (by omega) (by omega)
  have stop : ∀ n u, 1 ≤ n → (∀ i, u i ≤ 1) → FIXM g M u → ∃ u', r_X8_mayCircle_b46 F n (nI M) (nI (M - sumN u M)) (nI 0) (SM e g M u) = some (nI (if sumN u' M < M then 1 else 0), SM e g M u') ∧ (∀ i, u' i ≤ 1) ∧ (∀ X, clm g M X → (∀ b, X b → u b = 0) → ∀ b, X b → u' b = 0) ∧ FIXM g M u' := fun n u hn hu hf => by
    obtain ⟨n, rfl⟩ : ∃ k, n = k + 1 := ⟨n - 1, by omega⟩
    exact ⟨u, fin n u hu, hu, fun X _ h => h, hf⟩
  intro k
  induction k with
  | zero =>
    intro n x u h1 h2 hu hx
    rcases hx with ⟨rfl, hf⟩ | rfl
    · exact stop n u (by omega) hu hf
    · obtain ⟨n, rfl⟩ : ∃ k, n = k + 1 := ⟨n - 1, by omega⟩
      have hle := rnd_le g M hu M
      have hc := rnd_cnt (g := g) (M := M) (u := u) M (Nat.le_refl _)
      have hs := sum_le1 hle.1 M
      have hz : (rnd g M u M).2 = 0 := by omega
      obtain ⟨f1, f2⟩ := rnd_fix M hz
      have ho := one n u hu
      rw [hz, f1] at ho
      rw [ho]
      exact stop n u (by omega) hu f2
  | succ k ih =>
    intro n x u h1 h2 hu hx
    rcases hx with ⟨rfl, hf⟩ | rfl
    · exact stop n u (by omega) hu hf
    · obtain ⟨n, rfl⟩ : ∃ k, n = k + 1 := ⟨n - 1, by omega⟩
      have hle := rnd_le g M hu M
      have hc := rnd_cnt (g := g) (M := M) (u := u) M (Nat.le_refl _)
      rw [one n u hu]
      rcases (show (rnd g M u M).2 = 0 ∨ (rnd g M u M).2 = 1 by have := hle.2; omega) with hz | hz
      · obtain ⟨f1, f2⟩ := rnd_fix M hz
        rw [hz, f1]
        exact stop n u (by omega) hu f2
      · obtain ⟨u', e1, e2, e3, e4⟩ := ih n (rnd g M u M).2 (rnd g M u M).1 (by omega) (by omega) hle.1 (Or.inr hz)
        exact ⟨u', e1, e2, fun X hX h => e3 X hX (rnd_clo hX h M), e4⟩
theorem sum_lt {u : Nat → Nat} (hu : ∀ i, u i ≤ 1) : ∀ M, sumN u M < M ↔ ∃ b, b < M ∧ u b = 0 := by
  intro M
  induction M with
  | zero =>
    constructor
    · intro h
      exact absurd h (Nat.lt_irrefl _)
    · rintro ⟨b, hb, -⟩
      omega
  | succ M ih =>
    have h1 := hu M
    have h2 := sum_le1 hu M
    show sumN u M + u M < M + 1 ↔ _
    constructor
    · intro h
      by_cases z : u M = 0
      · exact ⟨M, by omega, z⟩
      · obtain ⟨b, hb, hz⟩ := ih.mp (by omega)
        exact ⟨b, by omega, hz⟩
    · rintro ⟨b, hb, hz⟩
      by_cases z : b = M
      · subst z
        omega
      · have := ih.mpr ⟨b, by omega, hz⟩
        omega
