/-! cutting ends: what a round does -/
def clo (c r : Nat) (h : Nat → Nat → Nat) (X : Nat → Prop) : Prop := ∀ b, X b → ∃ o, o < 4 ∧ h b o = 1 ∧ nxt c r (b / 10) o (b % 2) ≠ 0 ∧ X (nxt c r (b / 10) o (b % 2) - 1)
theorem clo_nz {c r : Nat} {h : Nat → Nat → Nat} {X : Nat → Prop} (hc : clo c r h X) {b : Nat} (hb : X b) : nzr h b := by
  obtain ⟨o, ho, h1, -⟩ := hc b hb
  exact ⟨o, ho, h1⟩
theorem cps_clo {c r : Nat} {h : Nat → Nat → Nat} {X : Nat → Prop} (hh : ∀ b o, h b o ≤ 1) (hc : clo c r h X) : ∀ n, clo c r (cps c r h n).1 X := by
  intro n
  induction n with
  | zero => exact hc
  | succ n ih =>
    have hle := (cps_le c r hh n).1
    rw [cps]
    split
    · exact ih
    · split
      · exact ih
      · rename_i g1 g2
        intro b hb
        have hbn : b ≠ n := fun z => by
          subst z
          apply g2
          rw [enf_0 hle]
          obtain ⟨o, ho, h1, h2, h3⟩ := ih b hb
          exact ⟨o, Nat.zero_le _, by omega, h1, h2, clo_nz ih h3⟩
        obtain ⟨o, ho, h1, h2, h3⟩ := ih b hb
        refine ⟨o, ho, ?_, h2, h3⟩
        show (if b = n then 0 else (cps c r h n).1 b o) = 1
        rw [if_neg hbn]
        exact h1
theorem cps_fix {c r : Nat} {h : Nat → Nat → Nat} (hh : ∀ b o, h b o ≤ 1) : ∀ n, (cps c r h n).2 = 0 → (cps c r h n).1 = h ∧ ∀ b, b < n → nzr h b → enf c r h b 4 0 = 0 := by
  intro n
  induction n with
  | zero => exact fun _ => ⟨rfl, fun b hb => by omega⟩
  | succ n ih =>
    intro hf
    rw [cps] at hf ⊢
    by_cases g1 : mk ((cps c r h n).1 n) 4 = 0
    · rw [if_pos g1] at hf ⊢
      obtain ⟨i1, i2⟩ := ih hf
      refine ⟨i1, fun b hb hz => ?_⟩
      by_cases hbn : b = n
      · subst hbn
        rw [i1] at g1
        exact absurd g1 ((mk4_nz hh b).mpr hz)
      · exact i2 b (by omega) hz
    · rw [if_neg g1] at hf ⊢
      by_cases g2 : enf c r (cps c r h n).1 n 4 0 = 0
      · rw [if_pos g2] at hf ⊢
        obtain ⟨i1, i2⟩ := ih hf
        refine ⟨i1, fun b hb hz => ?_⟩
        by_cases hbn : b = n
        · subst hbn
          rw [i1] at g2
          exact g2
        · exact i2 b (by omega) hz
      · rw [if_neg g2] at hf
        exact absurd (show (1 : Nat) = 0 from hf) (by decide)
theorem cps_sub {c r : Nat} {h : Nat → Nat → Nat} : ∀ n b o, (cps c r h n).1 b o = 1 → h b o = 1 := by
  intro n
  induction n with
  | zero => exact fun _ _ z => z
  | succ n ih =>
    intro b o
    rw [cps]
    split
    · exact ih b o
    · split
      · exact ih b o
      · intro z
        change (if b = n then 0 else (cps c r h n).1 b o) = 1 at z
        split at z
        · omega
        · exact ih b o z
def cnz (h : Nat → Nat → Nat) : Nat := sumN (fun b => if mk (h b) 4 = 0 then 0 else 1) 160
theorem cps_cnt {c r : Nat} {h : Nat → Nat → Nat} : ∀ n, n ≤ 160 → cnz (cps c r h n).1 + (cps c r h n).2 ≤ cnz h := by
  intro n
  induction n with
  | zero =>
    intro _
    show cnz h + 0 ≤ cnz h
    rw [Nat.add_zero]
    exact Nat.le_refl _
  | succ n ih =>
    intro hn
    have ihh := ih (by omega)
    rw [cps]
    split
    · exact ihh
    · rename_i g1
      split
      · exact ihh
      · have hu := sumN_u (f := fun b => if mk ((cps c r h n).1 b) 4 = 0 then 0 else 1) (g := fun b => if mk (zr (cps c r h n).1 n b) 4 = 0 then 0 else 1) (i := n) (n := 160) (by omega) (fun j hj => by
          have : zr (cps c r h n).1 n j = (cps c r h n).1 j := funext fun o => if_neg hj
          show (if mk (zr (cps c r h n).1 n j) 4 = 0 then 0 else 1) = _
          rw [this])
        have z0 : mk (zr (cps c r h n).1 n n) 4 = 0 := by
          have : zr (cps c r h n).1 n n = fun _ => 0 := funext fun o => if_pos rfl
          rw [this]
          rfl
        change sumN (fun b => if mk (zr (cps c r h n).1 n b) 4 = 0 then 0 else 1) 160 + (if mk ((cps c r h n).1 n) 4 = 0 then 0 else 1) = sumN (fun b => if mk ((cps c r h n).1 b) 4 = 0 then 0 else 1) 160 + (if mk (zr (cps c r h n).1 n n) 4 = 0 then 0 else 1) at hu
        rw [if_neg g1, if_pos z0] at hu
        show cnz (zr (cps c r h n).1 n) + 1 ≤ cnz h
        unfold cnz at ihh ⊢
        omega
theorem cps_some {c r : Nat} {h : Nat → Nat → Nat} (n : Nat) (hh : ∀ b o, h b o ≤ 1) : (cps c r h n).2 = 0 ∨ (cps c r h n).2 = 1 := by
  have := (cps_le c r hh n).2
  omega
