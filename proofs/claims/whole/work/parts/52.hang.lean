/-! what hangs on what: the way of a packet -/
def ds (c w g : Nat) : Nat := (w % c - g % c) + (g % c - w % c) + (w / c - g / c) + (g / c - w / c)
def dsok (c r w g m : Nat) : Bool := decide (ds c w g ≤ 6) && (decide (wt c w g m = 4) || (decide (nb c r w (wt c w g m) ≠ 0) && decide (ds c (nb c r w (wt c w g m) - 1) g + 1 = ds c w g)))
theorem ds_all {c r w g m : Nat} (hN : GrN c r) (hw : w < c * r) (hg : g < c * r) (hm : m < 2) : ds c w g ≤ 6 ∧ (wt c w g m ≠ 4 → nb c r w (wt c w g m) ≠ 0 ∧ ds c (nb c r w (wt c w g m) - 1) g + 1 = ds c w g) := by
  have all : ∀ w, w < c * r → ∀ g, g < c * r → ∀ m, m < 2 → dsok c r w g m = true := by
    clear hw hg hm
    obtain ⟨h1, h2, h3, h4⟩ := hN
    rcases (show c = 2 ∨ c = 3 ∨ c = 4 by omega) with rfl | rfl | rfl <;> rcases (show r = 2 ∨ r = 3 ∨ r = 4 by omega) with rfl | rfl | rfl <;> decide +kernel
  have key := all w hw g hg m hm
  unfold dsok at key
  simp only [Bool.and_eq_true, Bool.or_eq_true, decide_eq_true_eq] at key
  refine ⟨key.1, fun h => ?_⟩
  rcases key.2 with q | q
  · exact absurd q h
  · exact q
def wk (c r g m l : Nat) : Nat → Nat → Nat → List (Nat × Nat)
  | 0, _, _ => []
  | n + 1, w, b => if nxt c r w (wt c w g m) l = 0 then [] else (b, wt c w g m) :: wk c r g m l n (nb c r w (wt c w g m) - 1) (nxt c r w (wt c w g m) l - 1)
def inh (h : Nat → Nat → Nat) (q : Nat × Nat) : Nat → Nat → Nat := fun b o => if b = q.1 ∧ o = q.2 then 1 else h b o
def insL (h : Nat → Nat → Nat) : List (Nat × Nat) → Nat → Nat → Nat
  | [] => h
  | q :: L => insL (inh h q) L
theorem inh_le {h : Nat → Nat → Nat} (hh : ∀ b o, h b o ≤ 1) (q : Nat × Nat) : ∀ b o, inh h q b o ≤ 1 := fun b o => by
  unfold inh
  split
  · exact Nat.le_refl _
  · exact hh b o
theorem insL_iff (b o : Nat) : ∀ L : List (Nat × Nat), ∀ h : Nat → Nat → Nat, insL h L b o = 1 ↔ h b o = 1 ∨ (b, o) ∈ L := by
  intro L
  induction L with
  | nil =>
    intro h
    simp [insL]
  | cons q L ih =>
    intro h
    rw [insL, ih, List.mem_cons]
    unfold inh
    by_cases hq : b = q.1 ∧ o = q.2
    · rw [if_pos hq]
      have : (b, o) = q := by rw [hq.1, hq.2]
      simp [this]
    · rw [if_neg hq]
      have : ¬ (b, o) = q := fun z => hq (by rw [← z]; exact ⟨rfl, rfl⟩)
      simp [this]
theorem insL_le : ∀ (L : List (Nat × Nat)) (h : Nat → Nat → Nat), (∀ b o, h b o ≤ 1) → ∀ b o, insL h L b o ≤ 1 := by
  intro L
  induction L with
  | nil => exact fun h hh => hh
  | cons q L ih => exact fun h hh => ih _ (inh_le hh q)
theorem x_orm {f : Nat → Nat} (hf : ∀ o, f o ≤ 1) {o : Nat} (ho : o < 4) : nI (mk f 4) ||| nI (2 ^ o) = nI (mk (fun i => if i = o then 1 else f i) 4) := by
  have e : ∀ g : Nat → Nat, mk g 4 = 0 + g 0 * 1 + g 1 * 2 + g 2 * 4 + g 3 * 8 := fun g => rfl
  rw [e, e]
  have h0 := hf 0
  have h1 := hf 1
  have h2 := hf 2
  have h3 := hf 3
  rcases (show o = 0 ∨ o = 1 ∨ o = 2 ∨ o = 3 by omega) with rfl | rfl | rfl | rfl <;> rcases (show f 0 = 0 ∨ f 0 = 1 by omega) with q0 | q0 <;> rcases (show f 1 = 0 ∨ f 1 = 1 by omega) with q1 | q1 <;> rcases (show f 2 = 0 ∨ f 2 = 1 by omega) with q2 | q2 <;> rcases (show f 3 = 0 ∨ f 3 = 1 by omega) with q3 | q3 <;> simp only [q0, q1, q2, q3] <;> decide
def a21 (d : DS) (h : Nat → Nat → Nat) : DS := fun k i => if k = 21 ∧ i < 160 then mk (h i) 4 else d k i
