/-! a tick -/
theorem JJ.tick {c r : Nat} {M D e : DS} (hm : JI c r M) (kD : ∀ k, k ≠ 13 → k ≠ 22 → D k = M k) (s : ∀ i, i ≠ 1 → D 22 i = M 22 i) (s1 : D 22 1 = M 22 1 + 1) (h13 : ∀ p, M 13 p < 2 → D 13 p < 2) (ht : M 22 1 + 1 < 30000) (ra : RA D e) (rb : RB D e) (rp : RP D e) (rq : RQ D e) (rl : RLm c r M e) : JJ c r D e := by
  obtain ⟨i1, ⟨i2, i2'⟩, i3, i4, i5, i6, ⟨i7, i7'⟩, ⟨⟨i8, i8o⟩, i8'⟩⟩ := hm
  have s2 := s 2 (by decide)
  have s3 := s 3 (by decide)
  have s4 := s 4 (by decide)
  have s6 := s 6 (by decide)
  have s7 := s 7 (by decide)
  have s8 := s 8 (by decide)
  have r0 := kD 0 (by decide) (by decide)
  have r1 := kD 1 (by decide) (by decide)
  have r4 := kD 4 (by decide) (by decide)
  have r5 := kD 5 (by decide) (by decide)
  have r6 := kD 6 (by decide) (by decide)
  have r7 := kD 7 (by decide) (by decide)
  have r8 := kD 8 (by decide) (by decide)
  have r9 := kD 9 (by decide) (by decide)
  have r10 := kD 10 (by decide) (by decide)
  have r11 := kD 11 (by decide) (by decide)
  have r14 := kD 14 (by decide) (by decide)
  have r15 := kD 15 (by decide) (by decide)
  have r16 := kD 16 (by decide) (by decide)
  have r17 := kD 17 (by decide) (by decide)
  have r18 := kD 18 (by decide) (by decide)
  have r19 := kD 19 (by decide) (by decide)
  refine ⟨⟨⟨s2.trans i1.1.1, s3.trans i1.1.2.1, i1.1.2.2.1, by rw [r4, r5]; exact i1.1.2.2.2⟩, ?_⟩, ⟨fun i hi => ?_, by rw [r1]; exact i2'⟩, fun p hp => ?_, ?_, ?_, ?_, ?_, ?_, ra, rb, rp, rq, fun w hw o ho h0 l hl => ?_⟩
  · rw [s1, s4, s6, s7]
    have := i1.2
    omega
  · obtain ⟨u1, u2, u3, u4⟩ := i2 i hi
    rw [r0, r18, r19, s1]
    omega
  · rw [s4] at hp
    obtain ⟨a1, a2, a3, a4, a5, a6, a7⟩ := i3 p hp
    rw [r6, r7, r8, r9, r10, r11]
    exact ⟨a1, a2, a3, a4, a5, a6, h13 p a7⟩
  · unfold I4
    rw [s4, s6, r8, r10, r11, r14, r15]
    exact i4
  · unfold I5 pb
    rw [s4, r8, r10, r11, r14, r15]
    exact i5
  · unfold I6
    rw [s4, r10, r11]
    exact i6
  · unfold I7 cs
    rw [s6, r15, r16, r17]
    exact ⟨i7, i7'⟩
  · unfold I8 cs
    rw [s6, s8, r15, r16, r17]
    exact ⟨⟨i8, i8o⟩, i8'⟩
  · obtain ⟨g1, g2, g3⟩ := rl w hw o ho h0 l hl
    rw [r16, s1]
    refine ⟨g1, fun t t1 t2 => ?_⟩
    unfold cm
    rw [r17, s1]
    by_cases h : t < M 22 1 + 1 + 4
    · rw [if_pos h]
      exact g3 t (by omega) (by omega)
    · rw [if_neg h]
      have : t % 5 = M 22 1 % 5 := by omega
      rw [this]
      exact g2
theorem tick_all (F : Nat) {c r v : Nat} {d e : DS} (hF : 1000 ≤ F) (hJ : JJ c r d (dset e 18 6 v)) (ht : d 22 1 + 1 < 30000) : ∃ d' e' a, r_X7_runOne F (E d) = some (0, E d') ∧ r_X8_ticks F (EM e) = some (nI a, EM e') ∧ (∃ v', JJ c r d' (dset e' 18 6 v')) ∧ d' 22 5 = d 22 5 + a ∧ e' 18 6 = e 18 6 ∧ d' 22 1 = d 22 1 + 1 ∧ e' 18 7 = e 18 7 ∧ a ≤ 80 := by
  have hN := hJ.1.1.2.2.1
  have h16 := Gr16 hN
  have he4 : e 18 4 = d 22 1 := hJ.2.2.2.2.2.2.2.2.1.2.2.2.2.1
  obtain ⟨dA, cA, CA⟩ := n_comeBack F hJ hF
  obtain ⟨eA, kA, MA⟩ := k_comeBack F (e := e) hF (by omega)
  have hJM : JM c r dA eA := JJ.come (e' := dset eA 18 6 v) hJ CA ⟨MA.1, MA.2.1, fun k k2 k3 => by
    funext i
    have := MA.2.2 k k2 k3
    rw [dset_a, dset_a, this]⟩
  have eA18 : eA 18 = e 18 := MA.2.2 18 (by decide) (by decide)
  have dA1 : dA 22 1 = d 22 1 := CA.2.2.2.2 1 (by decide)
  have dA5 : dA 22 5 = d 22 5 := CA.2.2.2.2 5 (by decide)
  have hCE : CE dA (dset dA 22 0 0) := ⟨fun k k1 k2 k3 k4 => funext fun i => dset_n _ _ _ _ k4 i, fun i hi => dset_o _ _ _ _ hi, hJM.1.2.1.2⟩
  have hCH : CH c r dA (dset dA 22 0 0) (0 * 5) := ⟨hCE, rfl, fun i hi => by rw [if_neg (by omega)]; rfl, fun i hi => by omega⟩
  obtain ⟨d1, f1, f2⟩ := n_ro18 F hF hJM.1 (c * r) F 0 (dset dA 22 0 0) (by omega) (by omega) hCH
  have f3 := n_ro42 F hF hJM.1 f2 (c * r * 5) F 0 (by omega) (by omega)
  have hMI := MI.all hJM.1 f2.1 (c * r * 5) (Nat.le_refl _)
  obtain ⟨M, hM⟩ : ∃ M, M = mst c r dA d1 (c * r * 5) := ⟨_, rfl⟩
  have hQM := qv_M hJM.1 f2.1 (c * r * 5) (Nat.le_refl _)
  have d14 : d1 22 4 = dA 22 4 := f2.1.2.1 4 (by decide)
  obtain ⟨m1, m2, m3, m4⟩ := hMI
  rw [← hM] at m1 m2 m3 m4 f3 hQM
  have M4 : M 22 4 = dA 22 4 := (m4 4 (by decide) (by decide)).trans d14
  have f4 := n_ro70 F hF hJM.1 m1 M4 ((m4 0 (by decide) (by decide)).trans f2.2.1) (fun i hi hs => by
    rw [m3 3 (by decide) (by decide) (by decide) (by decide) (by decide) (by decide) (by decide) (by decide) (by decide)]
    exact f2.2.2.2 i hi hs) (c * r * 5) F 0 (by omega) (by omega)
  -- the reference
  obtain ⟨e2, g1, g2, g3⟩ := k_t20 F (a := 0) hF hJM (c * r * 5) F 0 eA (by omega) (by omega) (fun _ _ => rfl) (fun i hi => by omega)
  have hJ2 := hJM.row15 g2
  have hL0 := LV.start hJM f2.1 g2 g3
  have e18' : e2 18 = e 18 := (g2 18 (by decide)).trans eA18
  obtain ⟨eL, l1, l2⟩ := k_t70 F (a := 0) hF hJM.1 f2.1 hJ2.grm (hJ2.2.1.2.2.2.2.1) (hJ2.2.1.2.2.2.1) (c * r * 5) F 0 e2 (by omega) (by omega) hL0
  have hP0 : PT c r dA d1 eL eL 0 0 := by
    obtain ⟨q1, q2, q3, q4, q5⟩ := l2
    refine ⟨fun _ _ _ _ _ _ => rfl, fun p hp => ?_, fun i hi => ?_, rfl, Nat.le_refl _, fun b hb => ?_⟩
    · obtain ⟨y1, y2, y3, y4, y5, y6, y7⟩ := hJ2.2.2.2.1 p hp
      rw [q1 12 (by decide) (by decide) (by decide) (by decide) (by decide) (by decide), q1 13 (by decide) (by decide) (by decide) (by decide) (by decide) (by decide), y5, y6]
      show dA 10 p = d1 10 p ∧ dA 12 p = d1 12 p
      rw [f2.1.1 10 (by decide) (by decide) (by decide) (by decide), f2.1.1 12 (by decide) (by decide) (by decide) (by decide)]
      exact ⟨rfl, rfl⟩
    · rw [q1 5 (by decide) (by decide) (by decide) (by decide) (by decide) (by decide), (hJ2.2.2.1.1 i hi).2.1]
      show dA 18 i = d1 18 i
      rw [f2.1.1 18 (by decide) (by decide) (by decide) (by decide)]
    · show _ = qr c r dA (c * r * 5) b ++ []
      rw [List.append_nil]
      exact q5 b hb
  obtain ⟨eP, a, p1, p2⟩ := k_t102 F hF hJ2 f2.1 l2 (c * r * 5) F 0 0 eL (by omega) (by omega) hP0
  obtain ⟨q1, q2, q3, q4, q5⟩ := l2
  obtain ⟨t1, t2, t3, t4, t5, t6⟩ := p2
  rw [← hM] at t2 t3 t4 q4
  have eP18 : eP 18 = e 18 := by rw [t1 18 (by decide) (by decide) (by decide) (by decide) (by decide), q1 18 (by decide) (by decide) (by decide) (by decide) (by decide) (by decide), e18']
  have hqq : ∀ b, b < 160 → qv (M 14) (M 15) b = qv (eP 0) (eP 1) b := fun b hb => (hQM b hb).trans (t6 b hb).symm
  have M13 : M 13 = dA 13 := (m3 13 (by decide) (by decide) (by decide) (by decide) (by decide) (by decide) (by decide) (by decide) (by decide)).trans (f2.1.1 13 (by decide) (by decide) (by decide) (by decide))
  obtain ⟨eR, u1, u2, u3⟩ := k_t292 F (a := a) (eP := eP) hF hJM.1 m1 M4 (fun i hi => by
    rw [t1 15 (by decide) (by decide) (by decide) (by decide) (by decide), q2 i hi, if_pos hi]) (fun p hp => (t2 p hp).1) (fun b hb => (qv_get (hqq b hb)).1.symm) (c * r * 5) F 0 eP (by omega) (by omega) (fun _ _ => rfl) (fun p hp => by
    show eP 14 p = M 13 p
    rw [t1 14 (by decide) (by decide) (by decide) (by decide) (by decide), q1 14 (by decide) (by decide) (by decide) (by decide) (by decide) (by decide), (hJ2.2.2.2.1 p hp).2.2.2.2.2.2, M13])
  have mk := fun k (hk : k ≠ 13) => mks_k c r dA M hk (c * r * 5)
  have M1 : M 22 1 = d 22 1 := (m4 1 (by decide) (by decide)).trans ((f2.1.2.1 1 (by decide)).trans dA1)
  obtain ⟨D, hD⟩ : ∃ D, D = dset (mks c r dA M (c * r * 5)) 22 1 (M 22 1 + 1) := ⟨_, rfl⟩
  have D1 : D 22 1 = M 22 1 + 1 := by rw [hD]; rfl
  have Dk : ∀ k, k ≠ 13 → k ≠ 22 → D k = M k := fun k k1 k2 => by
    rw [hD, ← mk k k1]
    funext i
    rw [dset_n _ _ _ _ k2]
  have Ds : ∀ i, i ≠ 1 → D 22 i = M 22 i := fun i hi => by
    rw [hD, dset_o _ _ _ _ hi, mk 22 (by decide)]
  have D13 : D 13 = mks c r dA M (c * r * 5) 13 := by
    rw [hD]
    rfl
  have M22 : ∀ i, i ≠ 5 → i ≠ 8 → i ≠ 0 → M 22 i = dA 22 i := fun i i1 i2 i3 => (m4 i i1 i2).trans (f2.1.2.1 i i3)
  have M5 : M 22 5 = d 22 5 + a := by
    rw [t4, f2.1.2.1 5 (by decide), dA5]
  have MA0 : ∀ k, k ≠ 1 → k ≠ 2 → k ≠ 3 → k ≠ 10 → k ≠ 11 → k ≠ 12 → k ≠ 14 → k ≠ 15 → k ≠ 16 → k ≠ 17 → k ≠ 18 → k ≠ 22 → M k = dA k := fun k k1 k2 k3 k4 k5 k6 k7 k8 k9 ka kb kc => (m3 k k4 k5 k6 k7 k8 k9 ka kb kc).trans (f2.1.1 k k1 k2 k3 kc)
  have ra := hJ2.2.1
  have e2A : e2 18 = eA 18 := g2 18 (by decide)
  refine ⟨D, dset eR 18 4 (eP 18 4 + 1), a, ?_, ?_, ⟨D 22 5, ?_⟩, by rw [Ds 5 (by decide), M5], ?_, by rw [D1, M1], ?_, by omega⟩
  · unfold r_X7_runOne
    rw [E_22, cA, x_obS, x_l0, Es_22, x_osS, f1]
    have f3' : r_X7_runOne_b42 F F (nI 0) (E d1) = r_X7_runOne_b70 F F (nI 0) (E M) := f3
    have f4' : r_X7_runOne_b70 F F (nI 0) (E M) = some (0, E D) := by
      rw [hD]
      exact f4
    rw [f3', f4']
    rfl
  · unfold r_X8_ticks
    have z0 := hJM.grm.1
    have z1 := hJM.grm.2.1
    rw [kA, x_obS, EM_18, EM_18, z0, z1, x_l5, pk_mul, pk_mul, x_oiS, x_l0, g1, l1, p1, u1]
  · refine JJ.tick m1 Dk Ds D1 (fun p hp => ?_) (by rw [M1]; exact ht) ?_ ?_ ?_ ?_ ?_
    · rw [D13]
      exact mks_13 c r dA M _ p hp
    · have x18 : ∀ i, i ≠ 4 → i ≠ 6 → dset (dset eR 18 4 (eP 18 4 + 1)) 18 6 (D 22 5) 18 i = e2 18 i := fun i i4 i6 => by
        rw [dset_o _ _ _ _ i6, dset_o _ _ _ _ i4, u2 18 (by decide), eP18, e18']
      refine ⟨?_, ?_, ?_, ?_, ?_, ?_, rfl⟩
      · rw [x18 0 (by decide) (by decide), ra.1, Ds 2 (by decide), M22 2 (by decide) (by decide) (by decide)]
      · rw [x18 1 (by decide) (by decide), ra.2.1, Ds 3 (by decide), M22 3 (by decide) (by decide) (by decide)]
      · rw [x18 2 (by decide) (by decide), ra.2.2.1, Ds 6 (by decide), M22 6 (by decide) (by decide) (by decide)]
      · rw [x18 3 (by decide) (by decide), ra.2.2.2.1, Ds 7 (by decide), M22 7 (by decide) (by decide) (by decide)]
      · show eP 18 4 + 1 = D 22 1
        rw [D1, M1, eP18, he4]
      · rw [x18 5 (by decide) (by decide), ra.2.2.2.2.2, Ds 4 (by decide), M22 4 (by decide) (by decide) (by decide)]
    · have y : ∀ k, k ≠ 18 → dset (dset eR 18 4 (eP 18 4 + 1)) 18 6 (D 22 5) k = eR k := fun k hk => by
        funext i
        rw [dset_n _ _ _ _ hk, dset_n _ _ _ _ hk]
      refine ⟨fun i hi => ?_, fun i hi => ?_⟩
      · obtain ⟨b1, b2, b3⟩ := hJ2.2.2.1.1 i hi
        rw [y 7 (by decide), y 5 (by decide), y 6 (by decide), u2 7 (by decide), u2 5 (by decide), u2 6 (by decide), t1 7 (by decide) (by decide) (by decide) (by decide) (by decide), t1 6 (by decide) (by decide) (by decide) (by decide) (by decide), q1 7 (by decide) (by decide) (by decide) (by decide) (by decide) (by decide), q1 6 (by decide) (by decide) (by decide) (by decide) (by decide) (by decide), t3 i hi, b1, b3, Dk 0 (by decide) (by decide), Dk 18 (by decide) (by decide), Dk 19 (by decide) (by decide), MA0 0 (by decide) (by decide) (by decide) (by decide) (by decide) (by decide) (by decide) (by decide) (by decide) (by decide) (by decide) (by decide), MA0 19 (by decide) (by decide) (by decide) (by decide) (by decide) (by decide) (by decide) (by decide) (by decide) (by decide) (by decide) (by decide)]
        exact ⟨rfl, rfl, rfl⟩
      · rw [y 4 (by decide), u2 4 (by decide), t1 4 (by decide) (by decide) (by decide) (by decide) (by decide), q3 i hi, Dk 1 (by decide) (by decide), m3 1 (by decide) (by decide) (by decide) (by decide) (by decide) (by decide) (by decide) (by decide) (by decide), f2.2.2.1 i hi]
    · intro p hp
      rw [Ds 4 (by decide), M4] at hp
      obtain ⟨y1, y2, y3, y4, y5, y6, y7⟩ := hJ2.2.2.2.1 p hp
      have y : ∀ k, k ≠ 18 → dset (dset eR 18 4 (eP 18 4 + 1)) 18 6 (D 22 5) k = eR k := fun k hk => by
        funext i
        rw [dset_n _ _ _ _ hk, dset_n _ _ _ _ hk]
      have z : ∀ k, k ≠ 18 → k ≠ 14 → k ≠ 0 → k ≠ 1 → k ≠ 5 → k ≠ 12 → k ≠ 13 → k ≠ 2 → k ≠ 3 → k ≠ 4 → k ≠ 15 → dset (dset eR 18 4 (eP 18 4 + 1)) 18 6 (D 22 5) k = e2 k := fun k k1 k2 k3 k4 k5 k6 k7 k8 k9 ka kb => by
        rw [y k k1, u2 k k2, t1 k k3 k4 k5 k6 k7, q1 k k3 k4 k8 k9 ka kb]
      rw [z 9 (by decide) (by decide) (by decide) (by decide) (by decide) (by decide) (by decide) (by decide) (by decide) (by decide) (by decide), z 8 (by decide) (by decide) (by decide) (by decide) (by decide) (by decide) (by decide) (by decide) (by decide) (by decide) (by decide), z 10 (by decide) (by decide) (by decide) (by decide) (by decide) (by decide) (by decide) (by decide) (by decide) (by decide) (by decide), z 11 (by decide) (by decide) (by decide) (by decide) (by decide) (by decide) (by decide) (by decide) (by decide) (by decide) (by decide), y 12 (by decide), y 13 (by decide), y 14 (by decide), u2 12 (by decide), u2 13 (by decide), u3 p hp, (t2 p hp).1, (t2 p hp).2, y1, y2, y3, y4, D13, Dk 6 (by decide) (by decide), Dk 7 (by decide) (by decide), Dk 8 (by decide) (by decide), Dk 9 (by decide) (by decide), Dk 10 (by decide) (by decide), Dk 12 (by decide) (by decide), MA0 6 (by decide) (by decide) (by decide) (by decide) (by decide) (by decide) (by decide) (by decide) (by decide) (by decide) (by decide) (by decide), MA0 7 (by decide) (by decide) (by decide) (by decide) (by decide) (by decide) (by decide) (by decide) (by decide) (by decide) (by decide) (by decide), MA0 8 (by decide) (by decide) (by decide) (by decide) (by decide) (by decide) (by decide) (by decide) (by decide) (by decide) (by decide) (by decide), MA0 9 (by decide) (by decide) (by decide) (by decide) (by decide) (by decide) (by decide) (by decide) (by decide) (by decide) (by decide) (by decide)]
      exact ⟨rfl, rfl, rfl, rfl, rfl, rfl, rfl⟩
    · intro b hb
      obtain ⟨y1, y2⟩ := qv_get (hqq b hb)
      have z0 : dset (dset eR 18 4 (eP 18 4 + 1)) 18 6 (D 22 5) 0 = eP 0 := (funext fun i => by rw [dset_n _ _ _ _ (by decide), dset_n _ _ _ _ (by decide)] : _ = eR 0).trans (u2 0 (by decide))
      have z1 : dset (dset eR 18 4 (eP 18 4 + 1)) 18 6 (D 22 5) 1 = eP 1 := (funext fun i => by rw [dset_n _ _ _ _ (by decide), dset_n _ _ _ _ (by decide)] : _ = eR 1).trans (u2 1 (by decide))
      rw [z0, z1, Dk 14 (by decide) (by decide), Dk 15 (by decide) (by decide)]
      exact ⟨y1.symm, fun j hj => (y2 j hj).symm⟩
    · have z2 : dset (dset eR 18 4 (eP 18 4 + 1)) 18 6 (D 22 5) 2 = eL 2 := ((funext fun i => by rw [dset_n _ _ _ _ (by decide), dset_n _ _ _ _ (by decide)] : _ = eR 2).trans (u2 2 (by decide))).trans (t1 2 (by decide) (by decide) (by decide) (by decide) (by decide))
      have z3 : dset (dset eR 18 4 (eP 18 4 + 1)) 18 6 (D 22 5) 3 = eL 3 := ((funext fun i => by rw [dset_n _ _ _ _ (by decide), dset_n _ _ _ _ (by decide)] : _ = eR 3).trans (u2 3 (by decide))).trans (t1 3 (by decide) (by decide) (by decide) (by decide) (by decide))
      unfold RLm
      rw [z2, z3]
      exact q4
  · show eR 18 6 = e 18 6
    rw [u2 18 (by decide), eP18]
  · show eR 18 7 = e 18 7
    rw [u2 18 (by decide), eP18]
