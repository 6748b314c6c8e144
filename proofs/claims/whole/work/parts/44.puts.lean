/-! they come: both sides -/
def dst (c r : Nat) (d : DS) (x : Nat) : Nat := bf (nb c r (x / 5) (x % 5) - 1) (x % 5) (src c r d x % 2)
def qa (c r : Nat) (d : DS) : Nat → Nat → List Nat
  | 0, _ => []
  | x + 1, b => if sl c r d x ≠ 0 ∧ x % 5 ≠ 4 ∧ dst c r d x = b then qa c r d x b ++ [pk c r d x] else qa c r d x b
theorem qa_mono (c r : Nat) (d : DS) (b x : Nat) : ∀ y, (qa c r d x b).length ≤ (qa c r d (x + y) b).length := by
  intro y
  induction y with
  | zero => exact Nat.le_refl _
  | succ y ih =>
    refine Nat.le_trans ih ?_
    show _ ≤ (qa c r d (x + y + 1) b).length
    rw [qa]
    split
    · rw [List.length_append]
      exact Nat.le_add_right _ _
    · exact Nat.le_refl _
theorem tail_app {l m : List Nat} (h : l ≠ []) : (l ++ m).tail = l.tail ++ m := by
  cases l with
  | nil => exact absurd rfl h
  | cons a l => rfl
theorem qv_M {c r : Nat} {d d1 : DS} (hJ : JI c r d) (hC : CE d d1) : ∀ x, x ≤ c * r * 5 → ∀ b, b < 160 → qv (mst c r d d1 x 14) (mst c r d d1 x 15) b = qr c r d x b ++ qa c r d x b := by
  have h16 := Gr16 hJ.1.1.2.2.1
  intro x
  induction x with
  | zero =>
    intro _ b hb
    show qv (d1 14) (d1 15) b = qv (d 14) (d 15) b ++ []
    rw [hC.1 14 (by decide) (by decide) (by decide) (by decide), hC.1 15 (by decide) (by decide) (by decide) (by decide), List.append_nil]
  | succ x ih =>
    intro hx b hb
    have ihb := ih (by omega) b hb
    by_cases hs : sl c r d x = 0
    · rw [mst_0 hs, qr, qa, if_neg (fun z => z.1 hs), if_neg (fun z => z.1 hs)]
      exact ihb
    · have hM := MI.all hJ hC x (by omega)
      have hP := hM.2.1 x (Nat.le_refl _) (by omega) hs
      have hMV := hM.mv (by omega) hs
      have hne := hP.ne hM.1.1.1.2.2.1
      obtain ⟨kk, f10, f11, f12, f14, f15, f16, f17, f18, f5, f8, f22⟩ := hMV
      obtain ⟨pw, po, pbw, p0, phd, pwt, pcr⟩ := hP
      have i4 := fun b hb => (hM.1.2.2.2.1 b hb).1
      have j6 := hM.1.1.2.2.1
      have hsz2 : x % 5 ≠ 4 → dst c r d x < 160 ∧ mst c r d d1 x 15 (dst c r d x) ≤ 2 := fun h4 => by
        have hc := (pcr (by omega)).2
        have hb1 := nb_lt (dir := x % 5) hM.1.1.1.2.2.1 pw
        have hv : dst c r d x = (nb c r (x / 5) (x % 5) - 1) * 10 + 2 * (x % 5) + src c r d x % 2 := rfl
        have hb9 : dst c r d x < 160 := by omega
        have i7 := hM.1.2.2.2.2.2.2.1.2 (dst c r d x) hb9 (by omega)
        have hc' : 1 ≤ mst c r d d1 x 16 (dst c r d x) := hc
        exact ⟨hb9, by omega⟩
      change x % 5 ≠ 4 → src c r d x ≠ dst c r d x at hne
      change ∀ i, mst c r d d1 (x + 1) 14 i = if x % 5 ≠ 4 ∧ i = 3 * dst c r d x + mst c r d d1 x 15 (dst c r d x) then pk c r d x else mvA (mst c r d d1 x) (src c r d x) 14 i at f14
      change ∀ i, mst c r d d1 (x + 1) 15 i = if x % 5 ≠ 4 ∧ i = dst c r d x then mst c r d d1 x 15 i + 1 else if i = src c r d x then mst c r d d1 x 15 (src c r d x) - 1 else mst c r d d1 x 15 i at f15
      have hsrc9 : src c r d x < 160 := by omega
      have n3 := i4 _ hsrc9
      rw [qr, qa]
      by_cases hb0 : src c r d x = b
      · subst hb0
        rw [if_pos ⟨hs, rfl⟩, if_neg (fun z => hne z.2.1 z.2.2.symm)]
        have hfull := qr_full hJ (show x < c * r * 5 by omega) hs x (Nat.le_refl _)
        have hnn : qr c r d x (src c r d x) ≠ [] := by
          rw [hfull]
          intro z
          have := qv_len (d 14) (d 15) (src c r d x)
          rw [z] at this
          have hP0 := ALLP.start hJ (d1 := d) ⟨fun _ _ _ _ _ => rfl, fun _ _ => rfl, hJ.2.1.2⟩ x (Nat.zero_le _) (by omega) hs
          have := hP0.2.2.2.1
          simp at *
          omega
        rw [← tail_app hnn, ← ihb]
        refine qv_tail p0 (by rw [f15, if_neg (fun z => hne z.1 z.2), if_pos rfl]) (fun j hj => ?_)
        rw [f14, if_neg, mvA_14, if_pos (by omega)]
        · rfl
        · intro z
          obtain ⟨g1, g2⟩ := hsz2 z.1
          have := hne z.1
          omega
      · rw [if_neg (fun z => hb0 z.2)]
        by_cases hb1 : x % 5 ≠ 4 ∧ dst c r d x = b
        · obtain ⟨h4, rfl⟩ := hb1
          obtain ⟨g1, g2⟩ := hsz2 h4
          rw [if_pos ⟨hs, h4, rfl⟩, ← List.append_assoc, ← ihb]
          refine qv_app (by rw [f15, if_pos ⟨h4, rfl⟩]) (fun j hj => ?_) (by rw [f14, if_pos ⟨h4, rfl⟩])
          rw [f14, if_neg (by omega), mvA_14, if_neg (by omega)]
        · rw [if_neg (fun z => hb1 z.2), ← ihb]
          have nb3 := i4 _ hb
          refine qv_same (by rw [f15, if_neg (fun z => hb1 ⟨z.1, z.2.symm⟩), if_neg (fun z => hb0 z.symm)]) (fun j hj => ?_)
          rw [f14, if_neg, mvA_14, if_neg (by omega)]
          intro z
          obtain ⟨g1, g2⟩ := hsz2 z.1
          have : dst c r d x ≠ b := fun y => hb1 ⟨z.1, y⟩
          omega
