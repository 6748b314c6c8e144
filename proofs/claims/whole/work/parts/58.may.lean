/-! the system's answer -/
theorem wk_lt {c r g m l : Nat} (hN : GrN c r) (hl : l < 2) : ∀ (n w b : Nat), w < c * r → b < c * r * 10 → ∀ q, q ∈ wk c r g m l n w b → q.1 < c * r * 10 := by
  intro n
  induction n with
  | zero =>
    intro w b hw hb q hq
    exact absurd hq (by simp [wk])
  | succ n ih =>
    intro w b hw hb q hq
    rw [wk] at hq
    by_cases hz : nxt c r w (wt c w g m) l = 0
    · rw [if_pos hz] at hq
      exact absurd hq (by simp)
    · rw [if_neg hz] at hq
      have hle := (nxt_le (o := wt c w g m) hN hw hl).1
      have hb1 := nb_lt (dir := wt c w g m) hN hw
      have hnb : nb c r w (wt c w g m) ≠ 0 := fun z => hz (by unfold nxt; rw [if_pos z])
      rcases List.mem_cons.mp hq with z | z
      · rw [z]
        exact hb
      · exact ih _ _ (by omega) (by omega) q z
theorem hgs_lt {c r : Nat} {d : DS} (hJ : JI c r d) {n b o : Nat} (hn : n ≤ d 22 4) (h : hgs c r d n b o = 1) : b < c * r * 10 := by
  obtain ⟨p, hp, h0, hm⟩ := (hgs_iff c r d b o n).mp h
  obtain ⟨a1, a2, a3, a4, a5, a6, a7⟩ := hJ.2.2.1 p (by omega)
  refine wk_lt hJ.1.1.2.2.1 a3 16 (d 10 p - 1) (pb d p) (by omega) ?_ (b, o) hm
  show (d 10 p - 1) * 10 + 2 * d 11 p + d 8 p < c * r * 10
  omega
theorem n_mayCircle (F : Nat) {c r : Nat} {d : DS} (hF : 1000 ≤ F) (hJ : JI c r d) : ∃ v h', r_X7_mayCircle F (E d) = some (nI v, E (a21 d h')) ∧ v ≤ 1 ∧ (v = 1 ↔ ∃ X, clo c r (hgs c r d (d 22 4)) X ∧ ∃ b, X b) := by
  have hG := hJ.1.1
  have hN := hG.2.2.1
  have h16 := Gr16 hN
  have h80 := hJ.1.2.2.2.2.2
  have hle := hgs_le c r d (d 22 4)
  have h10 := n_ht10 F hF hJ (d 22 4) F 0 (by omega) (by omega)
  have hfill : dfill d 21 160 0 = a21 d (hgs c r d 0) := rfl
  have hcn : cnz (hgs c r d (d 22 4)) ≤ 160 := sumN_le (k := 1) (n := 160) fun i hi => by
    show (if mk (hgs c r d (d 22 4) i) 4 = 0 then 0 else 1) ≤ 1
    split <;> omega
  obtain ⟨h', e1, e2, e3, e4, e5⟩ := n_ht51 F hF hG 160 F 0 1 (hgs c r d (d 22 4)) (by omega) (by omega) (by omega) hle (Or.inr ⟨rfl, by omega⟩)
  obtain ⟨v, v1, v2, v3⟩ := n_ht75 F (d := d) e2 160 F 0 (by omega) (by omega) (fun b' hb' => by omega)
  refine ⟨v, h', ?_, v2, ?_⟩
  · unfold r_X7_mayCircle r_X1_hangsTogether
    rw [x_l0, n_fill_21 F _ _ hF, x_obS, hfill, h10, e1, v1, x_obS, x_ogT (x_boT (by omega))]
  · rw [v3]
    have lt : ∀ b, nzr h' b → b < c * r * 10 := fun b hb => by
      obtain ⟨o, ho, h1⟩ := hb
      exact hgs_lt hJ (Nat.le_refl _) (e4 b o h1)
    constructor
    · rintro ⟨b, hb, hz⟩
      have hfix : FIX c r h' := by
        rcases e5 with q | q
        · exact q
        · exfalso
          have hge := sumN_ge (fun b => if mk (h' b) 4 = 0 then 0 else 1) hb
          unfold cnz at q
          rw [q] at hge
          change (if mk (h' b) 4 = 0 then 0 else 1) ≤ 0 at hge
          rw [if_neg ((mk4_nz e2 b).mpr hz)] at hge
          omega
      refine ⟨nzr h', fun b hb => ?_, b, hz⟩
      obtain ⟨o, q1, q2, q3, q4, q5⟩ := (enf_0 e2 4 0).mp (hfix b (lt b hb) hb)
      exact ⟨o, by omega, e4 b o q3, q4, q5⟩
    · rintro ⟨X, hX, b, hb⟩
      have := clo_nz (e3 X hX) hb
      have hlt := lt b this
      exact ⟨b, by omega, this⟩
