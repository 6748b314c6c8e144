/-! waiting circles: both counts -/
theorem php : ∀ (M j : Nat) (g : Nat → Nat), (∀ i, i < j → g i < M) → (∀ i k, i < j → k < j → g i = g k → i = k) → j ≤ M := by
  intro M
  induction M with
  | zero =>
    intro j g h _
    rcases Nat.eq_zero_or_pos j with q | q
    · omega
    · have := h 0 q
      omega
  | succ M ih =>
    intro j g h hi
    rcases Nat.eq_zero_or_pos j with q | q
    · omega
    obtain ⟨j, rfl⟩ : ∃ k, j = k + 1 := ⟨j - 1, by omega⟩
    have := ih j (fun i => if g i = M then g j else g i) (fun i hij => by
      show (if g i = M then g j else g i) < M
      have h1 := h i (by omega)
      have h2 := h j (by omega)
      split
      · rename_i z
        have : g j ≠ M := fun y => by
          have := hi i j (by omega) (by omega) (z.trans y.symm)
          omega
        omega
      · omega) (fun i k hij hkj he => by
      change (if g i = M then g j else g i) = (if g k = M then g j else g k) at he
      by_cases z1 : g i = M
      · by_cases z2 : g k = M
        · exact hi i k (by omega) (by omega) (z1.trans z2.symm)
        · rw [if_pos z1, if_neg z2] at he
          have := hi j k (by omega) (by omega) he
          omega
      · by_cases z2 : g k = M
        · rw [if_neg z1, if_pos z2] at he
          have := hi i j (by omega) (by omega) he
          omega
        · rw [if_neg z1, if_neg z2] at he
          exact hi i k (by omega) (by omega) he)
    omega
def goB (f : Nat → Nat) (b : Nat) : Nat → Nat → Nat
  | 0, _ => 0
  | k + 1, v => if v = 0 then 0 else if v = b + 1 then 1 else goB f b k (f (v - 1))
def itv (f : Nat → Nat) (v : Nat) : Nat → Nat
  | 0 => v
  | i + 1 => if itv f v i = 0 then 0 else f (itv f v i - 1)
theorem itv_f (f : Nat → Nat) (v : Nat) (h : v ≠ 0) : ∀ i, itv f (f (v - 1)) i = itv f v (i + 1) := by
  intro i
  induction i with
  | zero =>
    show f (v - 1) = if v = 0 then 0 else f (v - 1)
    rw [if_neg h]
  | succ i ih =>
    show (if itv f (f (v - 1)) i = 0 then 0 else f (itv f (f (v - 1)) i - 1)) = (if itv f v (i + 1) = 0 then 0 else f (itv f v (i + 1) - 1))
    rw [ih]
theorem itv_0 (f : Nat → Nat) : ∀ i, itv f 0 i = 0 := by
  intro i
  induction i with
  | zero => rfl
  | succ i ih => rw [itv, if_pos ih]
theorem goB_le (f : Nat → Nat) (b : Nat) : ∀ k v, goB f b k v ≤ 1 := by
  intro k
  induction k with
  | zero => exact fun _ => Nat.zero_le _
  | succ k ih =>
    intro v
    rw [goB]
    split
    · omega
    · split
      · omega
      · exact ih _
theorem goB_iff (f : Nat → Nat) (b : Nat) : ∀ k v, goB f b k v = 1 ↔ ∃ i, i < k ∧ itv f v i = b + 1 := by
  intro k
  induction k with
  | zero =>
    intro v
    constructor
    · intro h
      exact absurd (show (0 : Nat) = 1 from h) (by decide)
    · rintro ⟨i, hi, -⟩
      omega
  | succ k ih =>
    intro v
    rw [goB]
    by_cases h0 : v = 0
    · rw [if_pos h0]
      constructor
      · intro h
        omega
      · rintro ⟨i, hi, he⟩
        rw [h0, itv_0] at he
        omega
    · rw [if_neg h0]
      by_cases h1 : v = b + 1
      · rw [if_pos h1]
        exact ⟨fun _ => ⟨0, by omega, h1⟩, fun _ => rfl⟩
      · rw [if_neg h1, ih]
        constructor
        · rintro ⟨i, hi, he⟩
          rw [itv_f f v h0] at he
          exact ⟨i + 1, by omega, he⟩
        · rintro ⟨i, hi, he⟩
          rcases Nat.eq_zero_or_pos i with q | q
          · subst q
            exact absurd he h1
          · refine ⟨i - 1, by omega, ?_⟩
            rw [itv_f f v h0, show i - 1 + 1 = i by omega]
            exact he
theorem itv_shift (f : Nat → Nat) (v : Nat) {a k : Nat} (h : itv f v a = itv f v k) : ∀ n, itv f v (a + n) = itv f v (k + n) := by
  intro n
  induction n with
  | zero => exact h
  | succ n ih =>
    show (if itv f v (a + n) = 0 then 0 else f (itv f v (a + n) - 1)) = (if itv f v (k + n) = 0 then 0 else f (itv f v (k + n) - 1))
    rw [ih]
theorem itv_bound {f : Nat → Nat} {v M : Nat} (hv : v ≤ M) (hf : ∀ b, b < M → f b ≤ M) : ∀ i, itv f v i ≤ M := by
  intro i
  induction i with
  | zero => exact hv
  | succ i ih =>
    rw [itv]
    split
    · exact Nat.zero_le _
    · exact hf _ (by omega)
theorem itv_nz {f : Nat → Nat} {v i j : Nat} (hij : i ≤ j) (h : itv f v j ≠ 0) : itv f v i ≠ 0 := by
  intro z
  apply h
  have : ∀ n, itv f v (i + n) = 0 := by
    intro n
    induction n with
    | zero => exact z
    | succ n ih =>
      show (if itv f v (i + n) = 0 then 0 else f (itv f v (i + n) - 1)) = 0
      rw [if_pos ih]
  rw [show j = i + (j - i) by omega]
  exact this _
theorem orbit_short {f : Nat → Nat} {v M t : Nat} (hv : v ≤ M) (hf : ∀ b, b < M → f b ≤ M) (ht : t ≠ 0) : ∀ (n i : Nat), i ≤ n → itv f v i = t → ∃ k, k < M ∧ itv f v k = t := by
  intro n
  induction n with
  | zero =>
    intro i hi he
    by_cases h : i < M
    · exact ⟨i, h, he⟩
    · obtain rfl : i = 0 := by omega
      have := itv_bound hv hf 0
      rw [he] at this
      omega
  | succ n ih =>
    intro i hi he
    by_cases h : i < M
    · exact ⟨i, h, he⟩
    · by_cases hin : ∃ a k, a < k ∧ k ≤ i ∧ itv f v a = itv f v k
      · obtain ⟨a, k, h1, h2, h3⟩ := hin
        have := itv_shift f v h3 (i - k)
        rw [show k + (i - k) = i by omega, he] at this
        exact ih (a + (i - k)) (by omega) this
      · exfalso
        have := php M (i + 1) (fun j => itv f v j - 1) (fun j hj => by
          have h1 := itv_bound hv hf j
          have h2 := itv_nz (f := f) (v := v) (show j ≤ i by omega) (by rw [he]; exact ht)
          show itv f v j - 1 < M
          omega) (fun a k ha hk hak => by
          change itv f v a - 1 = itv f v k - 1 at hak
          have h1 := itv_nz (f := f) (v := v) (show a ≤ i by omega) (by rw [he]; exact ht)
          have h2 := itv_nz (f := f) (v := v) (show k ≤ i by omega) (by rw [he]; exact ht)
          rcases Nat.lt_trichotomy a k with q | q | q
          · exact absurd ⟨a, k, q, by omega, by omega⟩ hin
          · exact q
          · exact absurd ⟨k, a, q, by omega, by omega⟩ hin)
        omega
theorem goB_stable {f : Nat → Nat} {v M b k1 k2 : Nat} (hv : v ≤ M) (hf : ∀ b, b < M → f b ≤ M) (h1 : M ≤ k1) (h2 : M ≤ k2) : goB f b k1 v = goB f b k2 v := by
  have a1 := goB_le f b k1 v
  have a2 := goB_le f b k2 v
  have key : ∀ k k', M ≤ k' → goB f b k v = 1 → goB f b k' v = 1 := fun k k' hk h => by
    rw [goB_iff] at h ⊢
    obtain ⟨i, hi, he⟩ := h
    obtain ⟨j, hj, hje⟩ := orbit_short hv hf (Nat.succ_ne_zero b) i i (Nat.le_refl _) he
    exact ⟨j, by omega, hje⟩
  have c1 := key k1 k2 h2
  have c2 := key k2 k1 h1
  omega
def a20 (d : DS) (f : Nat → Nat) (n : Nat) : DS := fun k i => if k = 20 ∧ i < n then f i else d k i
theorem a20_s (d : DS) (f : Nat → Nat) (n : Nat) : dset (a20 d f n) 20 n (f n) = a20 d f (n + 1) := by
  funext k i
  rw [dset_a]
  unfold a20
  by_cases h : k = 20 ∧ i = n
  · rw [if_pos h, if_pos ⟨h.1, by omega⟩, h.2]
  · rw [if_neg h]
    by_cases h2 : k = 20 ∧ i < n
    · rw [if_pos h2, if_pos ⟨h2.1, by omega⟩]
    · rw [if_neg h2, if_neg]
      intro z
      exact h2 ⟨z.1, by omega⟩
theorem a20_0 (d : DS) (f : Nat → Nat) : a20 d f 0 = d := by
  funext k i
  unfold a20
  rw [if_neg (by omega)]
theorem n_comesBack (F : Nat) {d : DS} {f : Nat → Nat} {M : Nat} (hF : 1000 ≤ F) (hM : M ≤ 160) (hf : ∀ b, b < M → f b ≤ M) (h20 : ∀ b, b < M → d 20 b = f b) {b : Nat} (hb : b < M) : r_X1_comesBack F (nI b) (E d) = some (nI (goB f b 160 (f b)), E d) := by
  have key : ∀ (k n s v : Nat), s + k = 160 → k + 1 ≤ n → v ≤ M → r_X1_comesBack_b11 F n (nI b) (mI v) (nI s) (E d) = some (nI (goB f b k v), E d) := by
    intro k
    induction k with
    | zero =>
      intro n s v h1 h2 hv
      obtain ⟨n, rfl⟩ : ∃ k, n = k + 1 := ⟨n - 1, by omega⟩
      obtain rfl : s = 160 := by omega
      rw [r_X1_comesBack_b11_s, if_pos (by decide)]
      rfl
    | succ k ih =>
      intro n s v h1 h2 hv
      obtain ⟨n, rfl⟩ : ∃ k, n = k + 1 := ⟨n - 1, by omega⟩
      unfold r_X1_comesBack_b45 at *
      rw [r_X1_comesBack_b11_s, if_neg (by rw [x_l160, x_le (by decide) (by omega)]; omega), goB]
      unfold r_X1_comesBack_b45
      by_cases h0 : v = 0
      · rw [h0, if_pos (by rfl), if_pos rfl]
        rfl
      · rw [if_neg (by rw [show (-1 : Int32) = mI 0 from rfl, x_meq (by omega) (by decide)]; exact h0), if_neg h0]
        by_cases h3 : v = b + 1
        · rw [if_pos (by rw [h3]; rfl), if_pos h3]
          rfl
        · rw [if_neg (by rw [x_mneq (by omega) (by omega)]; exact h3), if_neg h3, mI_p h0, n_at_20 F _ (by omega), x_obS, h20 _ (by omega), x_l1, nI_add]
          exact ih n (s + 1) _ (by omega) (by omega) (hf _ (by omega))
  unfold r_X1_comesBack
  rw [n_at_20 F _ (by omega), x_obS, h20 b hb, x_l0]
  exact key 160 F 0 (f b) (by omega) (by omega) (hf b hb)
theorem n_circle (F : Nat) {c r : Nat} {d : DS} (hF : 1000 ≤ F) (hJ : JI c r d) : r_X7_circle F (E d) = some (nI (sumN (fun b => goB (nx c r d) b 160 (nx c r d b)) (c * r * 10)), E (a20 d (nx c r d) (c * r * 10))) := by
  have hN := hJ.1.1.2.2.1
  have h16 := Gr16 hN
  have k41 : ∀ (k n b : Nat), b + k = c * r * 10 → k + 1 ≤ n → r_X1_countWaiting_b41 F n (nI (c * r * 10)) (nI (sumN (fun b => goB (nx c r d) b 160 (nx c r d b)) b)) (nI b) (E (a20 d (nx c r d) (c * r * 10))) = some (nI (sumN (fun b => goB (nx c r d) b 160 (nx c r d b)) (c * r * 10)), E (a20 d (nx c r d) (c * r * 10))) := by
    intro k
    induction k with
    | zero =>
      intro n b h1 h2
      obtain ⟨n, rfl⟩ : ∃ k, n = k + 1 := ⟨n - 1, by omega⟩
      obtain rfl : b = c * r * 10 := by omega
      rw [r_X1_countWaiting_b41_s, if_pos (by rw [x_le (by omega) (by omega)]; omega)]
    | succ k ih =>
      intro n b h1 h2
      obtain ⟨n, rfl⟩ : ∃ k, n = k + 1 := ⟨n - 1, by omega⟩
      have hcb := n_comesBack F (d := a20 d (nx c r d) (c * r * 10)) (f := nx c r d) (M := c * r * 10) hF (by omega) (fun b hb => nx_le hN hb) (fun b hb => if_pos ⟨rfl, hb⟩) (show b < c * r * 10 by omega)
      have hle := goB_le (nx c r d) b 160 (nx c r d b)
      have ihh := ih n (b + 1) (by omega) (by omega)
      rw [sumN] at ihh
      rw [r_X1_countWaiting_b41_s, if_neg (by rw [x_le (by omega) (by omega)]; omega), hcb, x_obS]
      unfold r_X1_countWaiting_b57
      rcases (show goB (nx c r d) b 160 (nx c r d b) = 0 ∨ goB (nx c r d) b 160 (nx c r d b) = 1 by omega) with q | q
      · rw [q] at ihh
        rw [q, if_pos (by rfl), x_l1, nI_add]
        exact ihh
      · rw [q] at ihh
        rw [q, if_neg (by decide), x_l1, nI_add, nI_add]
        exact ihh
  have k13 : ∀ (k n b : Nat), b + k = c * r * 10 → k + 1 ≤ n → r_X1_countWaiting_b13 F n (nI (c * r * 10)) (nI b) (E (a20 d (nx c r d) b)) = some (nI (sumN (fun b => goB (nx c r d) b 160 (nx c r d b)) (c * r * 10)), E (a20 d (nx c r d) (c * r * 10))) := by
    intro k
    induction k with
    | zero =>
      intro n b h1 h2
      obtain ⟨n, rfl⟩ : ∃ k, n = k + 1 := ⟨n - 1, by omega⟩
      obtain rfl : b = c * r * 10 := by omega
      rw [r_X1_countWaiting_b13_s, if_pos (by rw [x_le (by omega) (by omega)]; omega)]
      exact k41 (c * r * 10) F 0 (by omega) (by omega)
    | succ k ih =>
      intro n b h1 h2
      obtain ⟨n, rfl⟩ : ∃ k, n = k + 1 := ⟨n - 1, by omega⟩
      have hJ2 : JI c r (a20 d (nx c r d) b) := hJ
      have haw := n_awaitedBy F hJ2 (show b < c * r * 10 by omega)
      have hnx : nx c r (a20 d (nx c r d) b) b = nx c r d b := rfl
      rw [hnx] at haw
      rw [r_X1_countWaiting_b13_s, if_neg (by rw [x_le (by omega) (by omega)]; omega), haw, x_obS, n_put_20 F _ _ (by omega), x_obS, a20_s, x_l1, nI_add]
      exact ih n (b + 1) (by omega) (by omega)
  unfold r_X7_circle r_X1_countWaiting
  rw [n_size F hJ.1.1, x_obS, x_l10, pk_mul, x_oiS, x_l0]
  have h := k13 (c * r * 10) F 0 (by omega) (by omega)
  rw [a20_0] at h
  rw [h, x_obS]
