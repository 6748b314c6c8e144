/-! recover, the reference's side -/
theorem sumN_add (f g : Nat → Nat) : ∀ n, sumN (fun i => f i + g i) n = sumN f n + sumN g n := by
  intro n
  induction n with
  | zero => rfl
  | succ n ih =>
    show sumN (fun i => f i + g i) n + (f n + g n) = sumN f n + f n + (sumN g n + g n)
    omega
theorem sumN_c {f g : Nat → Nat} : ∀ {n : Nat}, (∀ i, i < n → f i = g i) → sumN f n = sumN g n := by
  intro n
  induction n with
  | zero => exact fun _ => rfl
  | succ n ih =>
    intro h
    show sumN f n + f n = sumN g n + g n
    rw [ih (fun i hi => h i (by omega)), h n (by omega)]
theorem sumN_8 (f : Nat → Nat) : ∀ n, sumN f (n * 8) = sumN (fun w => f (w * 8) + f (w * 8 + 1) + f (w * 8 + 2) + f (w * 8 + 3) + f (w * 8 + 4) + f (w * 8 + 5) + f (w * 8 + 6) + f (w * 8 + 7)) n := by
  intro n
  induction n with
  | zero => rfl
  | succ n ih =>
    show sumN f ((n + 1) * 8) = sumN (fun w => f (w * 8) + f (w * 8 + 1) + f (w * 8 + 2) + f (w * 8 + 3) + f (w * 8 + 4) + f (w * 8 + 5) + f (w * 8 + 6) + f (w * 8 + 7)) n + (f (n * 8) + f (n * 8 + 1) + f (n * 8 + 2) + f (n * 8 + 3) + f (n * 8 + 4) + f (n * 8 + 5) + f (n * 8 + 6) + f (n * 8 + 7))
    rw [← ih, show (n + 1) * 8 = n * 8 + 8 by omega]
    show sumN f (n * 8) + f (n * 8) + f (n * 8 + 1) + f (n * 8 + 2) + f (n * 8 + 3) + f (n * 8 + 4) + f (n * 8 + 5) + f (n * 8 + 6) + f (n * 8 + 7) = _
    omega
theorem sum_dir {c r o : Nat} (hN : GrN c r) (ho : o < 4) (f : Nat → Nat) : sumN (fun w => if nb c r w o = 0 then 0 else f (nb c r w o - 1)) (c * r) = sumN (fun v => if nb c r v ((o + 2) % 4) = 0 then 0 else f v) (c * r) := by
  obtain ⟨h1, h2, h3, h4⟩ := hN
  rcases (show o = 0 ∨ o = 1 ∨ o = 2 ∨ o = 3 by omega) with rfl | rfl | rfl | rfl <;> rcases (show c = 2 ∨ c = 3 ∨ c = 4 by omega) with rfl | rfl | rfl <;> rcases (show r = 2 ∨ r = 3 ∨ r = 4 by omega) with rfl | rfl | rfl <;> simp [sumN, nb]
def gLk (c r : Nat) (d : DS) (x : Nat) : Nat := if nb c r (x / 2 / 4) (x / 2 % 4) = 0 then 0 else lst d (bf (nb c r (x / 2 / 4) (x / 2 % 4) - 1) (x / 2 % 4) (x % 2))
theorem sum_eq {c r : Nat} {d e : DS} (hJ : JJ c r d e) : sumN (gLk c r d) (c * r * 8) = sumN (lsC d) (c * r * 8) := by
  have hN := hJ.1.1.2.2.1
  have h16 := Gr16 hN
  have z : ∀ o l, o < 4 → l < 2 → sumN (fun w => gLk c r d (w * 8 + (2 * o + l))) (c * r) = sumN (fun w => lsC d (w * 8 + (2 * o + l))) (c * r) := by
    intro o l ho hl
    have h1 := sum_dir hN ho (fun v => lst d (bf v o l))
    have h2 : sumN (fun w => gLk c r d (w * 8 + (2 * o + l))) (c * r) = sumN (fun w => if nb c r w o = 0 then 0 else lst d (bf (nb c r w o - 1) o l)) (c * r) := sumN_c fun w hw => by
      unfold gLk
      rw [show (w * 8 + (2 * o + l)) / 2 / 4 = w by omega, show (w * 8 + (2 * o + l)) / 2 % 4 = o by omega, show (w * 8 + (2 * o + l)) % 2 = l by omega]
    have h3 : sumN (fun w => lsC d (w * 8 + (2 * o + l))) (c * r) = sumN (fun v => if nb c r v ((o + 2) % 4) = 0 then 0 else lst d (bf v o l)) (c * r) := sumN_c fun v hv => by
      unfold lsC
      rw [show (v * 8 + (2 * o + l)) / 8 * 10 + (v * 8 + (2 * o + l)) % 8 = bf v o l by
        show _ = v * 10 + 2 * o + l
        omega]
      split
      · rename_i h0
        have := hJ.2.2.2.2.2.2.2.1.2 v hv o ho l hl h0
        unfold lst ctv
        omega
      · rfl
    rw [h2, h3]
    exact h1
  have a0 := z 0 0 (by omega) (by omega)
  have a1 := z 0 1 (by omega) (by omega)
  have a2 := z 1 0 (by omega) (by omega)
  have a3 := z 1 1 (by omega) (by omega)
  have a4 := z 2 0 (by omega) (by omega)
  have a5 := z 2 1 (by omega) (by omega)
  have a6 := z 3 0 (by omega) (by omega)
  have a7 := z 3 1 (by omega) (by omega)
  simp only [Nat.reduceMul, Nat.reduceAdd, Nat.add_zero] at a0 a1 a2 a3 a4 a5 a6 a7
  rw [sumN_8, sumN_8, sumN_add, sumN_add, sumN_add, sumN_add, sumN_add, sumN_add, sumN_add, sumN_add, sumN_add, sumN_add, sumN_add, sumN_add, sumN_add, sumN_add, a0, a1, a2, a3, a4, a5, a6, a7]
def rcM (c r : Nat) (d e : DS) (n : Nat) : DS := fun k i => if k = 2 ∧ i < n ∧ nb c r (i / 2 / 4) (i / 2 % 4) ≠ 0 then ctv d (bf (nb c r (i / 2 / 4) (i / 2 % 4) - 1) (i / 2 % 4) (i % 2)) else e k i
theorem rcM_0 (c r : Nat) (d e : DS) : rcM c r d e 0 = e := by
  funext k i
  unfold rcM
  rw [if_neg (by omega)]
theorem rcM_n {c r : Nat} {d e : DS} {x : Nat} (h : nb c r (x / 2 / 4) (x / 2 % 4) = 0) : rcM c r d e (x + 1) = rcM c r d e x := by
  funext k i
  unfold rcM
  by_cases h1 : i = x
  · subst h1
    rw [if_neg (fun z => z.2.2 h), if_neg (fun z => z.2.2 h)]
  · by_cases h2 : k = 2 ∧ i < x ∧ nb c r (i / 2 / 4) (i / 2 % 4) ≠ 0
    · rw [if_pos ⟨h2.1, by omega, h2.2.2⟩, if_pos h2]
    · rw [if_neg (fun z => h2 ⟨z.1, by omega, z.2.2⟩), if_neg h2]
theorem rcM_s {c r : Nat} {d e : DS} {x : Nat} (h : nb c r (x / 2 / 4) (x / 2 % 4) ≠ 0) : dset (rcM c r d e x) 2 x (ctv d (bf (nb c r (x / 2 / 4) (x / 2 % 4) - 1) (x / 2 % 4) (x % 2))) = rcM c r d e (x + 1) := by
  funext k i
  rw [dset_a]
  unfold rcM
  by_cases h1 : k = 2 ∧ i = x
  · obtain ⟨rfl, rfl⟩ := h1
    rw [if_pos ⟨rfl, rfl⟩, if_pos ⟨rfl, by omega, h⟩]
  · rw [if_neg h1]
    by_cases h2 : k = 2 ∧ i < x ∧ nb c r (i / 2 / 4) (i / 2 % 4) ≠ 0
    · rw [if_pos h2, if_pos ⟨h2.1, by omega, h2.2.2⟩]
    · rw [if_neg h2, if_neg (fun z => h2 ⟨z.1, by have := z.1; omega, z.2.2⟩)]
theorem x_dv (k : Nat) {n : Nat} (h : n < 2147483648) (h0 : 0 < k) (hk : k < 2147483648) (v : Int32) (hv : v = nI k) : nI n / v = nI (n / k) := by
  rw [hv, x_divN h h0 hk]
theorem x_rm (k : Nat) {n : Nat} (h : n < 2147483648) (h0 : 0 < k) (hk : k < 2147483648) (v : Int32) (hv : v = nI k) : x_rem (nI n) v = nI (n % k) := by
  rw [hv, x_remN h h0 hk]
theorem x_d2 {n : Nat} (h : n < 2147483648) : nI n / (2 : Int32) = nI (n / 2) := x_dv 2 h (by decide) (by decide) 2 rfl
theorem x_d4 {n : Nat} (h : n < 2147483648) : nI n / (4 : Int32) = nI (n / 4) := x_dv 4 h (by decide) (by decide) 4 rfl
theorem x_d5 {n : Nat} (h : n < 2147483648) : nI n / (5 : Int32) = nI (n / 5) := x_dv 5 h (by decide) (by decide) 5 rfl
theorem x_r2 {n : Nat} (h : n < 2147483648) : x_rem (nI n) (2 : Int32) = nI (n % 2) := x_rm 2 h (by decide) (by decide) 2 rfl
theorem x_r4 {n : Nat} (h : n < 2147483648) : x_rem (nI n) (4 : Int32) = nI (n % 4) := x_rm 4 h (by decide) (by decide) 4 rfl
theorem x_r5 {n : Nat} (h : n < 2147483648) : x_rem (nI n) (5 : Int32) = nI (n % 5) := x_rm 5 h (by decide) (by decide) 5 rfl
theorem x_r10 {n : Nat} (h : n < 2147483648) : x_rem (nI n) (10 : Int32) = nI (n % 10) := x_rm 10 h (by decide) (by decide) 10 rfl
theorem k_rcC {x c r : Nat} {e : DS} (z0 : e 18 0 = c) (z1 : e 18 1 = r) (hx : x < c * r * 8) (h16 : c * r ≤ 16) : ¬ EM e 18 0 * EM e 18 1 * (4 : Int32) * (2 : Int32) ≤ nI x := by
  have e8 : c * r * 4 * 2 = c * r * 8 := by omega
  rw [EM_18, EM_18, z0, z1, x_l4, x_l2, pk_mul, pk_mul, pk_mul, e8, x_le (by omega) (by omega)]
  omega
theorem k_rcN (F n : Nat) {c r x a : Nat} {e : DS} (hG : GrM e c r) (hx : x < c * r * 8) (h0 : nb c r (x / 2 / 4) (x / 2 % 4) = 0) : r_X8_recover_b9 F (n + 1) (nI a) (nI x) (EM e) = r_X8_recover_b9 F n (nI a) (nI (x + 1)) (EM e) := by
  have h16 := Gr16 hG.2.2
  have hk := k_neighbour F (x / 2 % 4) hG (show x / 2 / 4 < c * r by omega) (Nat.mod_lt _ (by decide))
  rw [h0] at hk
  rw [r_X8_recover_b9_s]
  unfold r_X8_recover_b127
  rw [x_d2 (n := x) (by omega), x_d4 (n := x / 2) (by omega), x_r4 (n := x / 2) (by omega), x_r2 (n := x) (by omega), if_neg (k_rcC hG.1 hG.2.1 hx h16)]
  rw [x_oiS, x_oiS, hk, x_obS, if_pos (show mI 0 < 0 from by decide), x_l1, nI_add]
theorem k_rcS (F n : Nat) {c r x a b s rm : Nat} {e : DS} (hF : 1000 ≤ F) (hG : GrM e c r) (hx : x < c * r * 8) (h0 : ¬ nb c r (x / 2 / 4) (x / 2 % 4) = 0) (hb : b = bf (nb c r (x / 2 / 4) (x / 2 % 4) - 1) (x / 2 % 4) (x % 2)) (z2 : e 18 2 = rm) (s5 : e 3 (5 * x + 0) + e 3 (5 * x + 1) + e 3 (5 * x + 2) + e 3 (5 * x + 3) + e 3 (5 * x + 4) = s) (h6 : e 2 x + s + e 1 b ≤ rm) (h3 : rm ≤ 3) : r_X8_recover_b9 F (n + 1) (nI a) (nI x) (EM e) = r_X8_recover_b9 F n (nI (a + (rm - e 1 b - s - e 2 x))) (nI (x + 1)) (EM (dset e 2 x (rm - e 1 b - s))) := by
  have hN := hG.2.2
  have h16 := Gr16 hN
  have hw : x / 2 / 4 < c * r := by omega
  have b1 := nb_lt (dir := x / 2 % 4) hN hw
  have hbv : b = (nb c r (x / 2 / 4) (x / 2 % 4) - 1) * 10 + 2 * (x / 2 % 4) + x % 2 := hb
  have hb9 : b < 160 := by omega
  have ks := k_settle (s := s) (a := a) (x := x) (f := rm - e 1 b) (r_X8_recover_b9 F n) F hF (by omega) s5 (by omega) (by omega)
  have hk := k_neighbour F (x / 2 % 4) hG hw (Nat.mod_lt _ (by decide))
  rw [mI_p h0] at hk
  have hq : ¬ nI (nb c r (x / 2 / 4) (x / 2 % 4) - 1) < 0 := nI_pos (by omega)
  have hs : EM e 18 2 - x_at (EM e) 1 (nI b) = nI (rm - e 1 b) := by
    simp (disch := omega) only [x_obS, x_oiS, x_osS, x_og1, x_inT, x_nzT, x_boT, x_lt, x_le, x_eq, x_cl, nI_add, pk_mul, x_at, x_st, x_lm1, x_meq, x_nm, x_mneq, x_m0, x_mge, x_sub1, x_subN, if_pos, if_neg, if_true, if_false, x_l0, x_l1, x_l2, x_l3, x_l4, x_l5, x_l8, x_l10, x_l16, x_l50, x_l80, x_l128, x_l160, x_l640, x_l25600, EM_0, EM_1, EM_2, EM_3, EM_4, EM_5, EM_6, EM_7, EM_8, EM_9, EM_10, EM_11, EM_12, EM_13, EM_14, EM_15, EM_16, EM_17, EM_18, EMs_0, EMs_1, EMs_2, EMs_3, EMs_4, EMs_5, EMs_7, EMs_8, EMs_9, EMs_10, EMs_11, EMs_13, EMs_14, EMs_16, EMs_17, EMs_18, EMs_6, EMs_12, EMs_15, EMs_6n, EMs_12n, EMs_15n, x_zn, z2]
  rw [r_X8_recover_b9_s]
  rw [x_d2 (n := x) (by omega), x_d4 (n := x / 2) (by omega), x_r4 (n := x / 2) (by omega), x_r2 (n := x) (by omega), if_neg (k_rcC hG.1 hG.2.1 hx h16)]
  rw [x_oiS, x_oiS, hk, x_obS, if_neg hq, hk, x_obS, k_bufferOf, x_obS, ← hb, x_ogT (x_inT hb9 (by omega)), x_oiS, hs]
  exact ks
theorem k_recover (F : Nat) {c r : Nat} {d e : DS} (hJ : JJ c r d e) (hF : 1000 ≤ F) : ∀ (m n x : Nat), x + m = c * r * 8 → m + 1 ≤ n → r_X8_recover_b9 F n (nI (sumN (gLk c r d) x)) (nI x) (EM (rcM c r d e x)) = some (nI (sumN (gLk c r d) (c * r * 8)), EM (rcM c r d e (c * r * 8))) := by
  have hN := hJ.1.1.2.2.1
  have h16 := Gr16 hN
  obtain ⟨g0, g1, g2⟩ := hJ.grm
  have y2 := hJ.2.2.2.2.2.2.2.2.1.2.2.1
  intro m
  induction m with
  | zero =>
    intro n x h1 h2
    obtain ⟨n, rfl⟩ : ∃ k, n = k + 1 := ⟨n - 1, by omega⟩
    have z0 : rcM c r d e x 18 0 = c := g0
    have z1 : rcM c r d e x 18 1 = r := g1
    have e8 : c * r * 4 * 2 = c * r * 8 := by omega
    obtain rfl : x = c * r * 8 := by omega
    rw [r_X8_recover_b9_s]
    simp (disch := omega) only [x_obS, x_oiS, x_osS, x_og1, x_inT, x_nzT, x_boT, x_lt, x_le, x_eq, x_cl, nI_add, pk_mul, x_at, x_st, x_lm1, x_meq, x_nm, x_mneq, x_m0, x_mge, x_sub1, x_subN, if_pos, if_neg, if_true, if_false, x_l0, x_l1, x_l2, x_l3, x_l4, x_l5, x_l8, x_l10, x_l16, x_l50, x_l80, x_l128, x_l160, x_l640, x_l25600, EM_0, EM_1, EM_2, EM_3, EM_4, EM_5, EM_6, EM_7, EM_8, EM_9, EM_10, EM_11, EM_12, EM_13, EM_14, EM_15, EM_16, EM_17, EM_18, EMs_0, EMs_1, EMs_2, EMs_3, EMs_4, EMs_5, EMs_7, EMs_8, EMs_9, EMs_10, EMs_11, EMs_13, EMs_14, EMs_16, EMs_17, EMs_18, EMs_6, EMs_12, EMs_15, EMs_6n, EMs_12n, EMs_15n, x_zn, z0, z1, e8]
  | succ m ih =>
    intro n x h1 h2
    obtain ⟨n, rfl⟩ : ∃ k, n = k + 1 := ⟨n - 1, by omega⟩
    have zG : GrM (rcM c r d e x) c r := ⟨g0, g1, g2⟩
    have hw : x / 2 / 4 < c * r := by omega
    have ho : x / 2 % 4 < 4 := by omega
    have hl : x % 2 < 2 := by omega
    have hlk : lk (x / 2 / 4) (x / 2 % 4) (x % 2) = x := by
      show x / 2 / 4 * 8 + 2 * (x / 2 % 4) + x % 2 = x
      omega
    have ihh := ih n (x + 1) (by omega) (by omega)
    by_cases h0 : nb c r (x / 2 / 4) (x / 2 % 4) = 0
    · have eg : sumN (gLk c r d) (x + 1) = sumN (gLk c r d) x := by
        show sumN (gLk c r d) x + gLk c r d x = _
        unfold gLk
        rw [if_pos h0]
        rfl
      rw [rcM_n h0, eg] at ihh
      rw [k_rcN F n zG (by omega) h0]
      exact ihh
    · have hR := hJ.2.2.2.2.2.2.2.2.2.2.2.2
      have s5 := x_five hR hw ho h0 hl
      have s2 := (hR _ hw _ ho h0 _ hl).1
      rw [hlk] at s5 s2
      have b1 := nb_lt (dir := x / 2 % 4) hN hw
      obtain ⟨b, hb⟩ : ∃ b, b = bf (nb c r (x / 2 / 4) (x / 2 % 4) - 1) (x / 2 % 4) (x % 2) := ⟨_, rfl⟩
      have hbv : b = (nb c r (x / 2 / 4) (x / 2 % 4) - 1) * 10 + 2 * (x / 2 % 4) + x % 2 := hb
      have hb9 : b < 160 := by omega
      have zb : rcM c r d e x 1 b = d 15 b := (hJ.2.2.2.2.2.2.2.2.2.2.2.1 b hb9).1
      have zx : rcM c r d e x 2 x = e 2 x := if_neg (by omega)
      have i7 := hJ.2.2.2.2.2.2.1.2 b hb9 (by omega)
      have j6 := hJ.1.2.2.1
      have eg : sumN (gLk c r d) (x + 1) = sumN (gLk c r d) x + (d 22 6 - d 15 b - cs d b - d 16 b) := by
        show sumN (gLk c r d) x + gLk c r d x = _
        unfold gLk
        rw [if_neg h0, ← hb]
        rfl
      have es := rcM_s (d := d) (e := e) h0
      rw [← es, eg, ← hb] at ihh
      rw [← hb] at s5 s2
      rw [k_rcS (s := cs d b) (rm := d 22 6) F n hF zG (by omega) h0 hb y2 s5 (by rw [zb, zx, s2]; omega) (by omega), zb, zx, s2]
      exact ihh
theorem JJ.recover {c r : Nat} {d e : DS} (hJ : JJ c r d e) : JJ c r (rcC d (c * r * 8)) (rcM c r d e (c * r * 8)) := by
  obtain ⟨i1, i2, i3, i4, i5, i6, ⟨i7, i7'⟩, ⟨i8, i8'⟩, ra, rb, rp, rq, rl⟩ := hJ
  have h16 := Gr16 i1.1.2.2.1
  refine ⟨i1, i2, i3, i4, i5, i6, ⟨fun b hb => ?_, fun b hb hb8 => ?_⟩, ⟨i8, fun w hw i hi l hl h0 => ?_⟩, ra, rb, rp, rq, fun w hw o ho h0 l hl => ⟨?_, (rl w hw o ho h0 l hl).2⟩⟩
  · have := i7 b hb
    have h6 := i1.2.2.1
    show (if 16 = 16 ∧ b % 10 < 8 ∧ b / 10 * 8 + b % 10 < c * r * 8 then ctv d b else d 16 b) ≤ 3
    unfold ctv
    split <;> omega
  · have := i7' b hb hb8
    show (if 16 = 16 ∧ b % 10 < 8 ∧ b / 10 * 8 + b % 10 < c * r * 8 then ctv d b else d 16 b) + cs d b + d 15 b ≤ d 22 6
    unfold ctv
    split <;> omega
  · have := i8' w hw i hi l hl h0
    show (if 16 = 16 ∧ bf w i l % 10 < 8 ∧ bf w i l / 10 * 8 + bf w i l % 10 < c * r * 8 then ctv d (bf w i l) else d 16 (bf w i l)) + cs d (bf w i l) + d 15 (bf w i l) = d 22 6
    unfold ctv
    split <;> omega
  · have hb1 := nb_lt (dir := o) i1.1.2.2.1 hw
    have q1 : lk w o l / 2 / 4 = w := by
      show (w * 8 + 2 * o + l) / 2 / 4 = w
      omega
    have q2 : lk w o l / 2 % 4 = o := by
      show (w * 8 + 2 * o + l) / 2 % 4 = o
      omega
    have q3 : lk w o l % 2 = l := by
      show (w * 8 + 2 * o + l) % 2 = l
      omega
    have q4 : lk w o l < c * r * 8 := by
      show w * 8 + 2 * o + l < c * r * 8
      omega
    unfold rcM rcC
    rw [if_pos ⟨rfl, q4, by rw [q1, q2]; exact h0⟩, q1, q2, q3, if_pos]
    refine ⟨rfl, ?_⟩
    show ((nb c r w o - 1) * 10 + 2 * o + l) % 10 < 8 ∧ ((nb c r w o - 1) * 10 + 2 * o + l) / 10 * 8 + ((nb c r w o - 1) * 10 + 2 * o + l) % 10 < c * r * 8
    omega
theorem s_recover (F t : Nat) (hF : 1000 ≤ F) {σ τ : CS} (h : JX t σ τ) : l_S_recover F JX t σ τ := by
  obtain ⟨c, r, d, e, rfl, rfl, hJ, ht⟩ := h
  have h16 := Gr16 hJ.1.1.2.2.1
  have hk := k_recover F (hJ.thrown 0) hF (c * r * 8) F 0 (by omega) (by omega)
  rw [rcM_0, sum_eq hJ] at hk
  refine ⟨_, _, _, n_recover F hJ hF, ?_, c, r, _, _, rfl, rfl, (hJ.thrown 0).recover, (show d 22 1 ≤ 50 * (t + 1) by omega)⟩
  unfold r_X8_recover
  rw [x_l0, EMs_18, x_osS]
  exact hk
