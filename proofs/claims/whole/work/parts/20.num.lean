/-! numbers: small naturals in the words of the machine; a state of naturals and what it is in the words of the machine -/
def mI (n : Nat) : Int32 := match n with
  | 0 => -1
  | k + 1 => nI k
theorem mI_0 : mI 0 = (-1 : Int32) := rfl
theorem mI_s (n : Nat) : mI (n + 1) = nI n := rfl
theorem x_toInt {n : Nat} (h : n < 2147483648) : (nI n).toInt = (n : Int) := nI_toInt (by omega)
theorem x_lt {a b : Nat} (ha : a < 2147483648) (hb : b < 2147483648) : (nI a < nI b) = (a < b) := propext (nI_ltI (by omega) (by omega))
theorem x_le {a b : Nat} (ha : a < 2147483648) (hb : b < 2147483648) : (nI a ≤ nI b) = (a ≤ b) := propext (nI_leI (by omega) (by omega))
theorem x_eq {a b : Nat} (ha : a < 2147483648) (hb : b < 2147483648) : (nI a = nI b) = (a = b) := propext (nI_eq (by omega) (by omega))
theorem x_l0 : (0 : Int32) = nI 0 := rfl
theorem x_l1 : (1 : Int32) = nI 1 := rfl
theorem x_l2 : (2 : Int32) = nI 2 := rfl
theorem x_l3 : (3 : Int32) = nI 3 := rfl
theorem x_l4 : (4 : Int32) = nI 4 := rfl
theorem x_l5 : (5 : Int32) = nI 5 := rfl
theorem x_l8 : (8 : Int32) = nI 8 := rfl
theorem x_l10 : (10 : Int32) = nI 10 := rfl
theorem x_l16 : (16 : Int32) = nI 16 := rfl
theorem x_l50 : (50 : Int32) = nI 50 := rfl
theorem x_l80 : (80 : Int32) = nI 80 := rfl
theorem x_l128 : (128 : Int32) = nI 128 := rfl
theorem x_l160 : (160 : Int32) = nI 160 := rfl
theorem x_l640 : (640 : Int32) = nI 640 := rfl
theorem x_l25600 : (25600 : Int32) = nI 25600 := rfl
theorem mI_toInt {n : Nat} (h : n < 2147483648) : (mI n).toInt = (n : Int) - 1 := by
  cases n with
  | zero => rfl
  | succ k =>
    rw [mI_s, x_toInt (by omega)]
    omega
theorem x_m0 {n : Nat} (h : n < 2147483648) : (mI n < nI 0) = (n = 0) := by
  rw [← x_l0]
  rw [Int32.lt_iff_toInt_lt, mI_toInt h]
  apply propext
  show (n : Int) - 1 < 0 ↔ n = 0
  omega
theorem x_mge {n : Nat} (h : n < 2147483648) : (nI 0 ≤ mI n) = (0 < n) := by
  rw [← x_l0]
  rw [Int32.le_iff_toInt_le, mI_toInt h]
  apply propext
  show (0 : Int) ≤ (n : Int) - 1 ↔ 0 < n
  omega
theorem x_lm1 : -nI 1 = mI 0 := rfl
theorem x_mm {n : Nat} (h : n < 2147483648) : (mI n = -1) = (n = 0) := by
  apply propext
  constructor
  · intro q
    have q2 := congrArg Int32.toInt q
    rw [mI_toInt h, show ((-1 : Int32)).toInt = -1 from rfl] at q2
    omega
  · intro q
    subst q
    rfl
theorem x_nm {n : Nat} (h : n < 2147483648) : (nI n = mI 0) = False := by
  rw [mI_0]
  apply propext
  constructor
  · intro q
    have q2 := congrArg Int32.toInt q
    rw [x_toInt h, show ((-1 : Int32)).toInt = -1 from rfl] at q2
    omega
  · exact False.elim
theorem x_meq {a b : Nat} (ha : a < 2147483648) (hb : b < 2147483648) : (mI a = mI b) = (a = b) := by
  apply propext
  constructor
  · intro q
    have q2 := congrArg Int32.toInt q
    rw [mI_toInt ha, mI_toInt hb] at q2
    omega
  · intro q
    rw [q]
theorem x_mneq {a b : Nat} (ha : a < 2147483648) (hb : b < 2147483647) : (mI a = nI b) = (a = b + 1) := by
  rw [← mI_s, x_meq ha (by omega)]
theorem x_cl {n : Nat} (h : n < 2147483648) : (nI n).toNatClampNeg = n := nI_clamp (by omega)
theorem x_cl2 {n : Nat} (h : n < 2147483648) : (nI n).toNatClampNeg = n := nI_clamp (by omega)
theorem x_inT {n N : Nat} (h : n < N) (hN : N ≤ 2147483648) : x_in (nI n) N = true := by
  unfold x_in
  rw [x_toInt (by omega)]
  exact decide_eq_true ⟨by omega, by omega⟩
theorem x_nzT {n : Nat} (h : 0 < n) (hN : n < 2147483648) : x_nz (nI n) = true := by
  unfold x_nz
  exact decide_eq_true (by rw [x_l0, x_eq hN (by omega)]; omega)
theorem x_boT {n : Nat} (h : n < 2) : x_bo (nI n) = true := by
  rcases (show n = 0 ∨ n = 1 by omega) with q | q <;> subst q <;> rfl
theorem x_zn {n : Nat} (h : n < 2) : vp_nar .boolean (nI n) = nI n := by
  rcases (show n = 0 ∨ n = 1 by omega) with q | q <;> subst q <;> rfl
theorem x_ogT {α : Type} {b : Bool} {k : Option α} (h : b = true) : x_og b k = k := by
  unfold x_og
  rw [if_pos h]
theorem x_obS {α : Type} {v : Int32} {s : CS} {k : Int32 → CS → Option α} : x_ob (some (v, s)) k = k v s := rfl
theorem x_oiS {α : Type} {x : Int32} {k : Int32 → Option α} : x_oi x k = k x := rfl
theorem x_osS {α : Type} {x : CS} {k : CS → Option α} : x_os x k = k x := rfl
theorem x_sub1 {n : Nat} (h : 1 ≤ n) : nI n + mI 0 = nI (n - 1) := by
  rw [mI_0]
  obtain ⟨k, rfl⟩ : ∃ k, n = k + 1 := ⟨n - 1, by omega⟩
  exact pk_m1 k
theorem x_subN {a b : Nat} (h : b ≤ a) : nI a - nI b = nI (a - b) := pk_sub h
theorem x_divN {a b : Nat} (ha : a < 2147483648) (h0 : 0 < b) (hb : b < 2147483648) : nI a / nI b = nI (a / b) := pk_div (by omega) h0 (by omega)
theorem x_remN {a b : Nat} (ha : a < 2147483648) (h0 : 0 < b) (hb : b < 2147483648) : x_rem (nI a) (nI b) = nI (a % b) := pk_rem (by omega) h0 (by omega)
/-- a state of naturals -/
abbrev DS : Type := Nat → Nat → Nat
def dset (d : DS) (k i v : Nat) : DS := fun k' => if k' = k then (fun j => if j = i then v else d k j) else d k'
theorem dset_s (d : DS) (k i v : Nat) : dset d k i v k i = v := by simp [dset]
theorem dset_n (d : DS) (k i v : Nat) {k' : Nat} (h : k' ≠ k) (j : Nat) : dset d k i v k' j = d k' j := by simp [dset, h]
theorem dset_o (d : DS) (k i v : Nat) {j : Nat} (h : j ≠ i) : dset d k i v k j = d k j := by simp [dset, h]
theorem dset_a (d : DS) (k i v k' j : Nat) : dset d k i v k' j = if k' = k ∧ j = i then v else d k' j := by
  unfold dset
  by_cases h : k' = k
  · subst h
    by_cases h2 : j = i <;> simp [h2]
  · simp [h]
/-- which rows of the system may hold -1 -/
def mC (k : Nat) : Bool := k == 10 || k == 19 || k == 20
def mM (k : Nat) : Bool := k == 6 || k == 12 || k == 15
def E (d : DS) : CS := fun k i => if mC k = true then mI (d k i) else nI (d k i)
def EM (d : DS) : CS := fun k i => if mM k = true then mI (d k i) else nI (d k i)
theorem E_n (d : DS) {k : Nat} (h : mC k = false) (i : Nat) : E d k i = nI (d k i) := by simp [E, h]
theorem E_m (d : DS) {k : Nat} (h : mC k = true) (i : Nat) : E d k i = mI (d k i) := by simp [E, h]
theorem EM_n (d : DS) {k : Nat} (h : mM k = false) (i : Nat) : EM d k i = nI (d k i) := by simp [EM, h]
theorem EM_m (d : DS) {k : Nat} (h : mM k = true) (i : Nat) : EM d k i = mI (d k i) := by simp [EM, h]
theorem x_enc {mm : Nat → Bool} (d : DS) (k i v : Nat) (w : Int32) (hw : w = if mm k = true then mI v else nI v) : cset (fun k i => if mm k = true then mI (d k i) else nI (d k i)) k i w = (fun k' i' => if mm k' = true then mI (dset d k i v k' i') else nI (dset d k i v k' i')) := by
  subst hw
  funext k' j
  unfold cset
  by_cases h : k' = k
  · subst h
    by_cases h2 : j = i
    · subst h2
      simp [upd, dset_a]
    · simp [upd, dset_a, h2]
  · simp [h, dset_a]
theorem E_set (d : DS) {k : Nat} (h : mC k = false) (i v : Nat) : cset (E d) k i (nI v) = E (dset d k i v) := x_enc (mm := mC) d k i v (nI v) (by simp [h])
theorem E_setm (d : DS) {k : Nat} (h : mC k = true) (i v : Nat) : cset (E d) k i (mI v) = E (dset d k i v) := x_enc (mm := mC) d k i v (mI v) (by simp [h])
theorem EM_set (d : DS) {k : Nat} (h : mM k = false) (i v : Nat) : cset (EM d) k i (nI v) = EM (dset d k i v) := x_enc (mm := mM) d k i v (nI v) (by simp [h])
theorem EM_setm (d : DS) {k : Nat} (h : mM k = true) (i v : Nat) : cset (EM d) k i (mI v) = EM (dset d k i v) := x_enc (mm := mM) d k i v (mI v) (by simp [h])
/-- loops over naturals: n rounds from i on -/
def itN {α : Type} (f : Nat → α → α) : Nat → Nat → α → α
  | 0, _, a => a
  | n + 1, i, a => itN f n (i + 1) (f i a)
theorem itN_s {α : Type} (f : Nat → α → α) (n i : Nat) (a : α) : itN f (n + 1) i a = f (i + n) (itN f n i a) := by
  induction n generalizing i a with
  | zero => rfl
  | succ n ih =>
    rw [itN, ih]
    rw [show i + 1 + n = i + (n + 1) by omega]
    rfl
theorem itN_inv {α : Type} (f : Nat → α → α) (P : Nat → α → Prop) (n i : Nat) (a : α) (h0 : P i a) (hs : ∀ j b, i ≤ j → j < i + n → P j b → P (j + 1) (f j b)) : P (i + n) (itN f n i a) := by
  induction n with
  | zero => exact h0
  | succ n ih =>
    rw [itN_s]
    exact hs (i + n) _ (by omega) (by omega) (ih fun j b h1 h2 => hs j b h1 (by omega))
theorem x_og1 {α : Type} {k : Option α} : x_og true k = k := rfl
theorem E_0 (d : DS) (i : Nat) : E d 0 i = nI (d 0 i) := rfl
theorem Es_0 (d : DS) (i v : Nat) : cset (E d) 0 i (nI v) = E (dset d 0 i v) := E_set d rfl i v
theorem E_1 (d : DS) (i : Nat) : E d 1 i = nI (d 1 i) := rfl
theorem Es_1 (d : DS) (i v : Nat) : cset (E d) 1 i (nI v) = E (dset d 1 i v) := E_set d rfl i v
theorem E_2 (d : DS) (i : Nat) : E d 2 i = nI (d 2 i) := rfl
theorem Es_2 (d : DS) (i v : Nat) : cset (E d) 2 i (nI v) = E (dset d 2 i v) := E_set d rfl i v
theorem E_3 (d : DS) (i : Nat) : E d 3 i = nI (d 3 i) := rfl
theorem Es_3 (d : DS) (i v : Nat) : cset (E d) 3 i (nI v) = E (dset d 3 i v) := E_set d rfl i v
theorem E_4 (d : DS) (i : Nat) : E d 4 i = nI (d 4 i) := rfl
theorem Es_4 (d : DS) (i v : Nat) : cset (E d) 4 i (nI v) = E (dset d 4 i v) := E_set d rfl i v
theorem E_5 (d : DS) (i : Nat) : E d 5 i = nI (d 5 i) := rfl
theorem Es_5 (d : DS) (i v : Nat) : cset (E d) 5 i (nI v) = E (dset d 5 i v) := E_set d rfl i v
theorem E_6 (d : DS) (i : Nat) : E d 6 i = nI (d 6 i) := rfl
theorem Es_6 (d : DS) (i v : Nat) : cset (E d) 6 i (nI v) = E (dset d 6 i v) := E_set d rfl i v
theorem E_7 (d : DS) (i : Nat) : E d 7 i = nI (d 7 i) := rfl
theorem Es_7 (d : DS) (i v : Nat) : cset (E d) 7 i (nI v) = E (dset d 7 i v) := E_set d rfl i v
theorem E_8 (d : DS) (i : Nat) : E d 8 i = nI (d 8 i) := rfl
theorem Es_8 (d : DS) (i v : Nat) : cset (E d) 8 i (nI v) = E (dset d 8 i v) := E_set d rfl i v
theorem E_9 (d : DS) (i : Nat) : E d 9 i = nI (d 9 i) := rfl
theorem Es_9 (d : DS) (i v : Nat) : cset (E d) 9 i (nI v) = E (dset d 9 i v) := E_set d rfl i v
theorem E_10 (d : DS) (i : Nat) : E d 10 i = mI (d 10 i) := rfl
theorem Es_10 (d : DS) (i v : Nat) : cset (E d) 10 i (mI v) = E (dset d 10 i v) := E_setm d rfl i v
theorem Es_10n (d : DS) (i v : Nat) : cset (E d) 10 i (nI v) = E (dset d 10 i (v + 1)) := E_setm d rfl i (v + 1)
theorem E_11 (d : DS) (i : Nat) : E d 11 i = nI (d 11 i) := rfl
theorem Es_11 (d : DS) (i v : Nat) : cset (E d) 11 i (nI v) = E (dset d 11 i v) := E_set d rfl i v
theorem E_12 (d : DS) (i : Nat) : E d 12 i = nI (d 12 i) := rfl
theorem Es_12 (d : DS) (i v : Nat) : cset (E d) 12 i (nI v) = E (dset d 12 i v) := E_set d rfl i v
theorem E_13 (d : DS) (i : Nat) : E d 13 i = nI (d 13 i) := rfl
theorem Es_13 (d : DS) (i v : Nat) : cset (E d) 13 i (nI v) = E (dset d 13 i v) := E_set d rfl i v
theorem E_14 (d : DS) (i : Nat) : E d 14 i = nI (d 14 i) := rfl
theorem Es_14 (d : DS) (i v : Nat) : cset (E d) 14 i (nI v) = E (dset d 14 i v) := E_set d rfl i v
theorem E_15 (d : DS) (i : Nat) : E d 15 i = nI (d 15 i) := rfl
theorem Es_15 (d : DS) (i v : Nat) : cset (E d) 15 i (nI v) = E (dset d 15 i v) := E_set d rfl i v
theorem E_16 (d : DS) (i : Nat) : E d 16 i = nI (d 16 i) := rfl
theorem Es_16 (d : DS) (i v : Nat) : cset (E d) 16 i (nI v) = E (dset d 16 i v) := E_set d rfl i v
theorem E_17 (d : DS) (i : Nat) : E d 17 i = nI (d 17 i) := rfl
theorem Es_17 (d : DS) (i v : Nat) : cset (E d) 17 i (nI v) = E (dset d 17 i v) := E_set d rfl i v
theorem E_18 (d : DS) (i : Nat) : E d 18 i = nI (d 18 i) := rfl
theorem Es_18 (d : DS) (i v : Nat) : cset (E d) 18 i (nI v) = E (dset d 18 i v) := E_set d rfl i v
theorem E_19 (d : DS) (i : Nat) : E d 19 i = mI (d 19 i) := rfl
theorem Es_19 (d : DS) (i v : Nat) : cset (E d) 19 i (mI v) = E (dset d 19 i v) := E_setm d rfl i v
theorem Es_19n (d : DS) (i v : Nat) : cset (E d) 19 i (nI v) = E (dset d 19 i (v + 1)) := E_setm d rfl i (v + 1)
theorem E_20 (d : DS) (i : Nat) : E d 20 i = mI (d 20 i) := rfl
theorem Es_20 (d : DS) (i v : Nat) : cset (E d) 20 i (mI v) = E (dset d 20 i v) := E_setm d rfl i v
theorem Es_20n (d : DS) (i v : Nat) : cset (E d) 20 i (nI v) = E (dset d 20 i (v + 1)) := E_setm d rfl i (v + 1)
theorem E_21 (d : DS) (i : Nat) : E d 21 i = nI (d 21 i) := rfl
theorem Es_21 (d : DS) (i v : Nat) : cset (E d) 21 i (nI v) = E (dset d 21 i v) := E_set d rfl i v
theorem E_22 (d : DS) (i : Nat) : E d 22 i = nI (d 22 i) := rfl
theorem Es_22 (d : DS) (i v : Nat) : cset (E d) 22 i (nI v) = E (dset d 22 i v) := E_set d rfl i v
theorem EM_0 (d : DS) (i : Nat) : EM d 0 i = nI (d 0 i) := rfl
theorem EMs_0 (d : DS) (i v : Nat) : cset (EM d) 0 i (nI v) = EM (dset d 0 i v) := EM_set d rfl i v
theorem EM_1 (d : DS) (i : Nat) : EM d 1 i = nI (d 1 i) := rfl
theorem EMs_1 (d : DS) (i v : Nat) : cset (EM d) 1 i (nI v) = EM (dset d 1 i v) := EM_set d rfl i v
theorem EM_2 (d : DS) (i : Nat) : EM d 2 i = nI (d 2 i) := rfl
theorem EMs_2 (d : DS) (i v : Nat) : cset (EM d) 2 i (nI v) = EM (dset d 2 i v) := EM_set d rfl i v
theorem EM_3 (d : DS) (i : Nat) : EM d 3 i = nI (d 3 i) := rfl
theorem EMs_3 (d : DS) (i v : Nat) : cset (EM d) 3 i (nI v) = EM (dset d 3 i v) := EM_set d rfl i v
theorem EM_4 (d : DS) (i : Nat) : EM d 4 i = nI (d 4 i) := rfl
theorem EMs_4 (d : DS) (i v : Nat) : cset (EM d) 4 i (nI v) = EM (dset d 4 i v) := EM_set d rfl i v
theorem EM_5 (d : DS) (i : Nat) : EM d 5 i = nI (d 5 i) := rfl
theorem EMs_5 (d : DS) (i v : Nat) : cset (EM d) 5 i (nI v) = EM (dset d 5 i v) := EM_set d rfl i v
theorem EM_6 (d : DS) (i : Nat) : EM d 6 i = mI (d 6 i) := rfl
theorem EMs_6 (d : DS) (i v : Nat) : cset (EM d) 6 i (mI v) = EM (dset d 6 i v) := EM_setm d rfl i v
theorem EMs_6n (d : DS) (i v : Nat) : cset (EM d) 6 i (nI v) = EM (dset d 6 i (v + 1)) := EM_setm d rfl i (v + 1)
theorem EM_7 (d : DS) (i : Nat) : EM d 7 i = nI (d 7 i) := rfl
theorem EMs_7 (d : DS) (i v : Nat) : cset (EM d) 7 i (nI v) = EM (dset d 7 i v) := EM_set d rfl i v
theorem EM_8 (d : DS) (i : Nat) : EM d 8 i = nI (d 8 i) := rfl
theorem EMs_8 (d : DS) (i v : Nat) : cset (EM d) 8 i (nI v) = EM (dset d 8 i v) := EM_set d rfl i v
theorem EM_9 (d : DS) (i : Nat) : EM d 9 i = nI (d 9 i) := rfl
theorem EMs_9 (d : DS) (i v : Nat) : cset (EM d) 9 i (nI v) = EM (dset d 9 i v) := EM_set d rfl i v
theorem EM_10 (d : DS) (i : Nat) : EM d 10 i = nI (d 10 i) := rfl
theorem EMs_10 (d : DS) (i v : Nat) : cset (EM d) 10 i (nI v) = EM (dset d 10 i v) := EM_set d rfl i v
theorem EM_11 (d : DS) (i : Nat) : EM d 11 i = nI (d 11 i) := rfl
theorem EMs_11 (d : DS) (i v : Nat) : cset (EM d) 11 i (nI v) = EM (dset d 11 i v) := EM_set d rfl i v
theorem EM_12 (d : DS) (i : Nat) : EM d 12 i = mI (d 12 i) := rfl
theorem EMs_12 (d : DS) (i v : Nat) : cset (EM d) 12 i (mI v) = EM (dset d 12 i v) := EM_setm d rfl i v
theorem EMs_12n (d : DS) (i v : Nat) : cset (EM d) 12 i (nI v) = EM (dset d 12 i (v + 1)) := EM_setm d rfl i (v + 1)
theorem EM_13 (d : DS) (i : Nat) : EM d 13 i = nI (d 13 i) := rfl
theorem EMs_13 (d : DS) (i v : Nat) : cset (EM d) 13 i (nI v) = EM (dset d 13 i v) := EM_set d rfl i v
theorem EM_14 (d : DS) (i : Nat) : EM d 14 i = nI (d 14 i) := rfl
theorem EMs_14 (d : DS) (i v : Nat) : cset (EM d) 14 i (nI v) = EM (dset d 14 i v) := EM_set d rfl i v
theorem EM_15 (d : DS) (i : Nat) : EM d 15 i = mI (d 15 i) := rfl
theorem EMs_15 (d : DS) (i v : Nat) : cset (EM d) 15 i (mI v) = EM (dset d 15 i v) := EM_setm d rfl i v
theorem EMs_15n (d : DS) (i v : Nat) : cset (EM d) 15 i (nI v) = EM (dset d 15 i (v + 1)) := EM_setm d rfl i (v + 1)
theorem EM_16 (d : DS) (i : Nat) : EM d 16 i = nI (d 16 i) := rfl
theorem EMs_16 (d : DS) (i v : Nat) : cset (EM d) 16 i (nI v) = EM (dset d 16 i v) := EM_set d rfl i v
theorem EM_17 (d : DS) (i : Nat) : EM d 17 i = nI (d 17 i) := rfl
theorem EMs_17 (d : DS) (i v : Nat) : cset (EM d) 17 i (nI v) = EM (dset d 17 i v) := EM_set d rfl i v
theorem EM_18 (d : DS) (i : Nat) : EM d 18 i = nI (d 18 i) := rfl
theorem EMs_18 (d : DS) (i v : Nat) : cset (EM d) 18 i (nI v) = EM (dset d 18 i v) := EM_set d rfl i v
theorem x_and3 {n : Nat} (h : n < 2147483648) : nI n &&& nI 3 = nI (n % 4) := pk_andN (by omega) 2 (by decide)
theorem x_and1 {n : Nat} (h : n < 2147483648) : nI n &&& nI 1 = nI (n % 2) := pk_andN (by omega) 1 (by decide)
theorem x_maxN {a b : Nat} (ha : a < 2147483648) (hb : b < 2147483648) : x_max (nI a) (nI b) = nI (if a < b then b else a) := by
  simp only [x_max, x_lt ha hb]
  split <;> rfl
theorem x_minN {a b : Nat} (ha : a < 2147483648) (hb : b < 2147483648) : x_min (nI a) (nI b) = nI (if b < a then b else a) := by
  simp only [x_min, x_lt hb ha]
  split <;> rfl
theorem x_m3 (b : Nat) : b * 3 = 3 * b := Nat.mul_comm b 3
/-- sums of naturals -/
def sumN (f : Nat → Nat) : Nat → Nat
  | 0 => 0
  | n + 1 => sumN f n + f n
/-- n places of the row k from a on, each takes the next one's number -/
def shR (d : DS) (k a n : Nat) : DS := fun k' i => if k' = k ∧ a ≤ i ∧ i < a + n then d k (i + 1) else d k' i
theorem shR_0 (d : DS) (k a : Nat) : shR d k a 0 = d := by
  funext k' i
  unfold shR
  rw [if_neg (by omega)]
theorem shR_s (d : DS) (k a n : Nat) : shR (dset d k a (d k (a + 1))) k (a + 1) n = shR d k a (n + 1) := by
  funext k' i
  unfold shR
  simp only [dset_a]
  by_cases h : k' = k
  · subst h
    by_cases h1 : i = a
    · subst h1
      simp
    · by_cases h2 : a + 1 ≤ i ∧ i < a + 1 + n
      · have h3 : a ≤ i ∧ i < a + (n + 1) := by omega
        simp [h2, h3, show i + 1 ≠ a by omega]
      · have h3 : ¬ (a ≤ i ∧ i < a + (n + 1)) := by omega
        simp [h1, h2, h3]
  · simp [h]
theorem shR_k (d : DS) {k k' : Nat} (h : k' ≠ k) (a n i : Nat) : shR d k a n k' i = d k' i := by simp [shR, h]
theorem x_sle {a b : Nat} (ha : a < 1000000) (hb : b < 1000000) : (nI a - nI b ≤ nI 0) = (a ≤ b) := by
  rw [← x_l0, Int32.le_iff_toInt_le, pk_sub_toInt (by omega) (by omega)]
  apply propext
  show (a : Int) - b ≤ 0 ↔ a ≤ b
  omega
theorem x_sge {a b : Nat} (ha : a < 1000000) (hb : b < 1000000) : (nI 0 ≤ nI a - nI b) = (b ≤ a) := by
  rw [← x_l0, Int32.le_iff_toInt_le, pk_sub_toInt (by omega) (by omega)]
  apply propext
  show 0 ≤ (a : Int) - b ↔ b ≤ a
  omega
theorem x_0m : nI 0 + mI 0 = mI 0 := rfl
theorem x_nlm {n : Nat} (h : n < 2147483648) : (nI n < nI 0) = False := by
  rw [x_lt h (by omega)]
  simp
