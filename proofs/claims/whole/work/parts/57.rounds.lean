/-! cutting ends: all rounds -/
def FIX (c r : Nat) (h : Nat → Nat → Nat) : Prop := ∀ b, b < c * r * 10 → nzr h b → enf c r h b 4 0 = 0
theorem n_ht51 (F : Nat) {c r : Nat} {d : DS} (hF : 1000 ≤ F) (hG : Gr d c r) : ∀ (k n s x : Nat) (h : Nat → Nat → Nat), s + k = 160 → k + 1 ≤ n → x ≤ 1 → (∀ b o, h b o ≤ 1) → (x = 0 ∧ FIX c r h) ∨ (x = 1 ∧ cnz h + s ≤ 160) → ∃ h', r_X1_hangsTogether_b51 F n (nI x) (nI s) (E (a21 d h)) = r_X1_hangsTogether_b75 F F (nI 0) (E (a21 d h')) ∧ (∀ b o, h' b o ≤ 1) ∧ (∀ X, clo c r h X → clo c r h' X) ∧ (∀ b o, h' b o = 1 → h b o = 1) ∧ (FIX c r h' ∨ cnz h' = 0) := by
  have h16 := Gr16 hG.2.2.1
  intro k
  induction k with
  | zero =>
    intro n s x h h1 h2 hx hh hc
    obtain ⟨n, rfl⟩ : ∃ k, n = k + 1 := ⟨n - 1, by omega⟩
    obtain rfl : s = 160 := by omega
    refine ⟨h, ?_, hh, fun X z => z, fun b o z => z, ?_⟩
    · rw [r_X1_hangsTogether_b51_s, if_pos (by decide)]
      rfl
    · rcases hc with q | q
      · exact Or.inl q.2
      · exact Or.inr (by omega)
  | succ k ih =>
    intro n s x h h1 h2 hx hh hc
    obtain ⟨n, rfl⟩ : ∃ k, n = k + 1 := ⟨n - 1, by omega⟩
    rw [r_X1_hangsTogether_b51_s, if_neg (by rw [x_l160, x_le (by decide) (by omega)]; omega)]
    by_cases h0 : x = 0
    · subst h0
      have hf : FIX c r h := by
        rcases hc with q | q
        · exact q.2
        · exact absurd q.1 (by decide)
      refine ⟨h, ?_, hh, fun X z => z, fun b o z => z, Or.inl hf⟩
      rw [if_pos (by rfl)]
      rfl
    · rw [if_neg (by rw [x_l0, x_eq (by omega) (by decide)]; exact h0), n_cutEnds F hF hG hh, x_obS, x_l1, nI_add]
      have hle := cps_le c r hh (c * r * 10)
      have hcn := cps_cnt (c := c) (r := r) (h := h) (c * r * 10) (by omega)
      obtain ⟨h', e1, e2, e3, e4, e5⟩ := ih n (s + 1) (cps c r h (c * r * 10)).2 (cps c r h (c * r * 10)).1 (by omega) (by omega) hle.2 hle.1 (by
        rcases cps_some (c := c) (r := r) (c * r * 10) hh with q | q
        · left
          obtain ⟨f1, f2⟩ := cps_fix hh _ q
          refine ⟨q, ?_⟩
          rw [f1]
          exact f2
        · right
          refine ⟨q, ?_⟩
          rcases hc with z | z
          · exact absurd z.1 h0
          · omega)
      exact ⟨h', e1, e2, fun X z => e3 X (cps_clo hh z _), fun b o z => cps_sub _ b o (e4 b o z), e5⟩
/-- the last look: whether any hangs -/
theorem n_ht75 (F : Nat) {d : DS} {h : Nat → Nat → Nat} (hh : ∀ b o, h b o ≤ 1) : ∀ (k n b : Nat), b + k = 160 → k + 1 ≤ n → (∀ b', b' < b → ¬ nzr h b') → ∃ v, r_X1_hangsTogether_b75 F n (nI b) (E (a21 d h)) = some (nI v, E (a21 d h)) ∧ v ≤ 1 ∧ (v = 1 ↔ ∃ b', b' < 160 ∧ nzr h b') := by
  intro k
  induction k with
  | zero =>
    intro n b h1 h2 h3
    obtain ⟨n, rfl⟩ : ∃ k, n = k + 1 := ⟨n - 1, by omega⟩
    obtain rfl : b = 160 := by omega
    refine ⟨0, ?_, by omega, ?_⟩
    · rw [r_X1_hangsTogether_b75_s, if_pos (by decide)]
      rfl
    · constructor
      · intro z
        omega
      · rintro ⟨b', hb, hn⟩
        exact absurd hn (h3 b' hb)
  | succ k ih =>
    intro n b h1 h2 h3
    obtain ⟨n, rfl⟩ : ∃ k, n = k + 1 := ⟨n - 1, by omega⟩
    have hb : b < 160 := by omega
    have e21 : a21 d h 21 b = mk (h b) 4 := if_pos ⟨rfl, hb⟩
    have hmk := mk_lt (hh b) 4
    have h4 : (2 : Nat) ^ 4 = 16 := by decide
    rw [r_X1_hangsTogether_b75_s, if_neg (by rw [x_l160, x_le (by decide) (by omega)]; omega), n_at_21 F _ hb, x_obS, e21]
    by_cases g : mk (h b) 4 = 0
    · rw [g, if_pos (by rfl), x_l1, nI_add]
      refine ih n (b + 1) (by omega) (by omega) (fun b' hb' => ?_)
      by_cases z : b' = b
      · subst z
        exact fun y => (mk4_nz hh b').mpr y g
      · exact h3 b' (by omega)
    · refine ⟨1, ?_, Nat.le_refl _, fun _ => ⟨b, hb, (mk4_nz hh b).mp g⟩, fun _ => rfl⟩
      rw [if_neg (by rw [x_l0, x_eq (by omega) (by decide)]; exact g)]
      rfl
