/-! ends: the system's side -/
def nzr (h : Nat → Nat → Nat) (b : Nat) : Prop := ∃ o, o < 4 ∧ h b o = 1
theorem mk4_0 {f : Nat → Nat} (hf : ∀ o, f o ≤ 1) : mk f 4 = 0 ↔ ∀ o, o < 4 → f o = 0 := by
  have e : mk f 4 = 0 + f 0 * 1 + f 1 * 2 + f 2 * 4 + f 3 * 8 := rfl
  rw [e]
  constructor
  · intro h o ho
    rcases (show o = 0 ∨ o = 1 ∨ o = 2 ∨ o = 3 by omega) with rfl | rfl | rfl | rfl <;> omega
  · intro h
    rw [h 0 (by decide), h 1 (by decide), h 2 (by decide), h 3 (by decide)]
theorem mk4_nz {h : Nat → Nat → Nat} (hh : ∀ b o, h b o ≤ 1) (b : Nat) : mk (h b) 4 ≠ 0 ↔ nzr h b := by
  rw [Ne, mk4_0 (hh b)]
  constructor
  · intro z
    apply Classical.byContradiction
    intro q
    apply z
    intro o ho
    have := hh b o
    rcases (show h b o = 0 ∨ h b o = 1 by omega) with y | y
    · exact y
    · exact absurd ⟨o, ho, y⟩ q
  · rintro ⟨o, ho, h1⟩ z
    rw [z o ho] at h1
    omega
theorem mk4_bit {f : Nat → Nat} (hf : ∀ o, f o ≤ 1) {o : Nat} (ho : o < 4) : mk f 4 / 2 ^ o % 2 = f o := by
  have e : mk f 4 = 0 + f 0 * 1 + f 1 * 2 + f 2 * 4 + f 3 * 8 := rfl
  have h0 := hf 0
  have h1 := hf 1
  have h2 := hf 2
  have h3 := hf 3
  rw [e]
  rcases (show o = 0 ∨ o = 1 ∨ o = 2 ∨ o = 3 by omega) with rfl | rfl | rfl | rfl <;> simp only [Nat.reducePow] <;> omega
/-- the first direction from o on, of k, that leads to a buffer which hangs -/
def enf (c r : Nat) (h : Nat → Nat → Nat) (b : Nat) : Nat → Nat → Nat
  | 0, _ => 1
  | k + 1, o => if h b o = 0 then enf c r h b k (o + 1) else if nxt c r (b / 10) o (b % 2) = 0 then enf c r h b k (o + 1) else if mk (h (nxt c r (b / 10) o (b % 2) - 1)) 4 = 0 then enf c r h b k (o + 1) else 0
theorem enf_le (c r : Nat) (h : Nat → Nat → Nat) (b : Nat) : ∀ k o, enf c r h b k o ≤ 1 := by
  intro k
  induction k with
  | zero => exact fun _ => Nat.le_refl _
  | succ k ih =>
    intro o
    rw [enf]
    split
    · exact ih _
    · split
      · exact ih _
      · split
        · exact ih _
        · exact Nat.zero_le _
theorem enf_0 {c r : Nat} {h : Nat → Nat → Nat} {b : Nat} (hh : ∀ b o, h b o ≤ 1) : ∀ k o, enf c r h b k o = 0 ↔ ∃ o', o ≤ o' ∧ o' < o + k ∧ h b o' = 1 ∧ nxt c r (b / 10) o' (b % 2) ≠ 0 ∧ nzr h (nxt c r (b / 10) o' (b % 2) - 1) := by
  intro k
  induction k with
  | zero =>
    intro o
    constructor
    · intro z
      exact absurd (show (1 : Nat) = 0 from z) (by decide)
    · rintro ⟨o', h1, h2, -⟩
      omega
  | succ k ih =>
    intro o
    have hl := hh b o
    have step : (¬ (h b o = 1 ∧ nxt c r (b / 10) o (b % 2) ≠ 0 ∧ nzr h (nxt c r (b / 10) o (b % 2) - 1))) → (enf c r h b k (o + 1) = 0 ↔ ∃ o', o ≤ o' ∧ o' < o + (k + 1) ∧ h b o' = 1 ∧ nxt c r (b / 10) o' (b % 2) ≠ 0 ∧ nzr h (nxt c r (b / 10) o' (b % 2) - 1)) := fun hno => by
      rw [ih]
      constructor
      · rintro ⟨o', h1, h2, q⟩
        exact ⟨o', by omega, by omega, q⟩
      · rintro ⟨o', h1, h2, q⟩
        rcases Nat.eq_or_lt_of_le h1 with z | z
        · subst z
          exact absurd q hno
        · exact ⟨o', by omega, by omega, q⟩
    rw [enf]
    by_cases h0 : h b o = 0
    · rw [if_pos h0]
      exact step (fun z => by omega)
    · rw [if_neg h0]
      by_cases h1 : nxt c r (b / 10) o (b % 2) = 0
      · rw [if_pos h1]
        exact step (fun z => z.2.1 h1)
      · rw [if_neg h1]
        by_cases h2 : mk (h (nxt c r (b / 10) o (b % 2) - 1)) 4 = 0
        · rw [if_pos h2]
          exact step (fun z => (mk4_nz hh _).mpr z.2.2 h2)
        · rw [if_neg h2]
          exact ⟨fun _ => ⟨o, Nat.le_refl _, by omega, by omega, h1, (mk4_nz hh _).mp h2⟩, fun _ => rfl⟩
theorem n_isEnd (F : Nat) {c r b : Nat} {d : DS} {h : Nat → Nat → Nat} (hF : 1000 ≤ F) (hG : Gr d c r) (hb : b < c * r * 10) (hh : ∀ b o, h b o ≤ 1) : r_X1_isEnd F (nI (b / 10)) (nI (b % 2)) (nI (mk (h b) 4)) (E (a21 d h)) = some (nI (enf c r h b 4 0), E (a21 d h)) := by
  have hN := hG.2.2.1
  have h16 := Gr16 hN
  have hG2 : Gr (a21 d h) c r := hG
  have hmk := mk_lt (hh b) 4
  have h4 : (2 : Nat) ^ 4 = 16 := by decide
  have key : ∀ (k n o : Nat), o + k = 4 → k + 1 ≤ n → r_X1_isEnd_b3 F n (nI (b / 10)) (nI (b % 2)) (nI (mk (h b) 4)) (nI o) (E (a21 d h)) = some (nI (enf c r h b k o), E (a21 d h)) := by
    intro k
    induction k with
    | zero =>
      intro n o h1 h2
      obtain ⟨n, rfl⟩ : ∃ k, n = k + 1 := ⟨n - 1, by omega⟩
      obtain rfl : o = 4 := by omega
      rw [r_X1_isEnd_b3_s, if_pos (by decide)]
      rfl
    | succ k ih =>
      intro n o h1 h2
      obtain ⟨n, rfl⟩ : ∃ k, n = k + 1 := ⟨n - 1, by omega⟩
      have ihh := ih n (o + 1) (by omega) (by omega)
      have hl := hh b o
      rw [r_X1_isEnd_b3_s, if_neg (by rw [x_l4, x_le (by decide) (by omega)]; omega), x_bit (by omega) (by omega), mk4_bit (hh b) (by omega), enf]
      unfold r_X1_isEnd_b48
      by_cases h0 : h b o = 0
      · rw [if_pos h0, h0, if_pos (by rfl), x_l1, nI_add]
        exact ihh
      · rw [if_neg h0, show h b o = 1 by omega, if_neg (by decide), n_nextBuffer F o (b % 2) hG2 (by omega) (by omega), x_obS]
        have hle := (nxt_le (o := o) hN (show b / 10 < c * r by omega) (show b % 2 < 2 from Nat.mod_lt _ (by decide))).1
        by_cases hz : nxt c r (b / 10) o (b % 2) = 0
        · rw [if_pos hz, hz, if_pos (by rfl), x_l1, nI_add]
          exact ihh
        · have hz9 : nxt c r (b / 10) o (b % 2) - 1 < 160 := by omega
          have e21 : a21 d h 21 (nxt c r (b / 10) o (b % 2) - 1) = mk (h (nxt c r (b / 10) o (b % 2) - 1)) 4 := if_pos ⟨rfl, hz9⟩
          have hmk2 := mk_lt (hh (nxt c r (b / 10) o (b % 2) - 1)) 4
          rw [if_neg hz, if_neg (by rw [show (-1 : Int32) = mI 0 from rfl, x_meq (by omega) (by decide)]; exact hz), mI_p hz, n_at_21 F _ hz9, x_obS, e21]
          by_cases h3 : mk (h (nxt c r (b / 10) o (b % 2) - 1)) 4 = 0
          · rw [if_pos h3, h3, if_pos (by rfl), x_l1, nI_add]
            exact ihh
          · rw [if_neg h3, if_neg (by rw [x_l0, x_eq (by omega) (by decide)]; exact h3)]
            rfl
  unfold r_X1_isEnd
  rw [x_l0]
  exact key 4 F 0 (by omega) (by omega)
