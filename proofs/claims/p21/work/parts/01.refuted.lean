/-! p21 as printed is false at this commit: the object that the law makes first of all takes more slots than the 1033 new ones that the statement allows the whole run. (This part is read in a whole round: it stands on the witness's start.) -/
def rf_ok (s : State) : Bool := (Nat.ble 2 s.frames.length && (match s.status with | .running => true | _ => false)) && ((match s.curStatus? with | some .runnable => true | _ => false) && s.alone)
/-- from s on, on the way to a state with at least B slots in use, the law's own frames are never left -/
def rf_go (tb : Tables) (e : Env) (B : Nat) : Nat → State → Bool
  | 0, _ => false
  | n + 1, s => match Nat.ble B s.slotsUsed with
    | true => true
    | false => match rf_ok s with
      | true => rf_go tb e B n (stepThread tb e s).1
      | false => false
theorem rf_ok_spec {s : State} (h : rf_ok s = true) : 2 ≤ s.frames.length ∧ s.status = .running ∧ s.curStatus? = some .runnable ∧ s.alone = true := by
  simp only [rf_ok, Bool.and_eq_true] at h
  obtain ⟨⟨h1, h2⟩, h3, h4⟩ := h
  refine ⟨Nat.le_of_ble_eq_true h1, ?_, ?_, h4⟩
  · revert h2
    split <;> intro h2 <;> first | assumption | cases h2
  · revert h3
    split <;> intro h3 <;> first | assumption | cases h3
theorem rf_sound (tb : Tables) (e : Env) (B : Nat) : ∀ (n : Nat) (s : State), rf_go tb e B n s = true → ∃ K, (∀ j, j < K → 2 ≤ (stepsAlone tb e j s).frames.length) ∧ B ≤ (stepsAlone tb e K s).slotsUsed := by
  intro n
  induction n with
  | zero =>
    intro s h
    simp [rf_go] at h
  | succ n ih =>
    intro s h
    cases hb : Nat.ble B s.slotsUsed with
    | true => exact ⟨0, fun j hj => absurd hj (Nat.not_lt_zero j), Nat.le_of_ble_eq_true hb⟩
    | false =>
      cases hg : rf_ok s with
      | false =>
        simp only [rf_go, hb, hg] at h
        exact absurd h (by decide)
      | true =>
        simp only [rf_go, hb, hg] at h
        obtain ⟨g1, g2, g3, g4⟩ := rf_ok_spec hg
        obtain ⟨K, h1, h2⟩ := ih _ h
        have hstep : ∀ j, stepsAlone tb e (j + 1) s = stepsAlone tb e j (stepThread tb e s).1 := fun j => by simp only [stepsAlone, g2, g3, g4]
        refine ⟨K + 1, fun j hj => ?_, by rw [hstep]; exact h2⟩
        cases j with
        | zero => exact g1
        | succ j =>
          rw [hstep]
          exact h1 j (Nat.lt_of_succ_lt_succ hj)
set_option maxRecDepth 16384 in
theorem rf_run : rf_go start1.p0.tables start1.e0 (start1.about.slotsUsed + 1034) 4000 start1.about = true := by decide +kernel
/-- no arm of the statement holds, whatever it asks of the answer: the frame alone can't be kept -/
theorem rf_arm (L : Jvm.Cond) : ¬ Jvm.D.ArmFor flags0 classFile x code maxLocals ret World_1 tables_1 room_1 Calls_1 rest_1 Pre_1 (fun tb e a s o t => Jvm.D.postC L tb e a s o t ∧ Jvm.D.Framed s o t (Jvm.fieldLocs frame_1_writes a s ++ Jvm.arrayLocs frame_1_arrays a s ++ Jvm.staticLocs frame_1_statics s) 171 1033) := by
  intro h
  obtain ⟨hL, hW, had, -, hcas, hclk, hfr, hfit, hheap, happ, hcalls, hrest, hpre⟩ := start1.atStart
  obtain ⟨k, o, -, -, hend, hpost⟩ := h launch0 rfl hL hW start1.p0 start1.e0 had hcas hclk start1.about ⟨0, 0⟩ start1.args0 Lib.HandBits.below0 hfr hfit hheap happ ⟨hcalls, hrest, hpre⟩
  obtain ⟨K, hK, hB⟩ := rf_sound start1.p0.tables start1.e0 _ _ _ rf_run
  obtain ⟨-, ⟨v, rfl⟩, -, -, -, -, h4, h5, -⟩ := hpost
  have h6 : (stepsAlone start1.p0.tables start1.e0 k start1.about).slotsUsed = start1.about.slotsUsed + _ := h4
  rcases Nat.lt_or_ge k K with hk | hk
  · have h7 := hK k hk
    have h8 : (stepsAlone start1.p0.tables start1.e0 k start1.about).frames = [.native { method := ⟨0, 0⟩, args := #[], awaiting := false, answer := some (.returned v) }] := hend
    rw [h8] at h7
    exact absurd (show 2 ≤ 1 from h7) (by decide)
  · have h7 := (stepsAlone_heap_grows_add start1.p0.tables start1.e0 K (k - K) start1.about).2
    rw [Nat.add_sub_cancel' hk, h6] at h7
    omega
theorem p21_refuted_1 : ¬ Claimed_1_1 := rf_arm limb_1_1
theorem p21_refuted_2 : ¬ Claimed_1_2 := rf_arm limb_1_2
theorem p21_refuted : ¬ (Claimed_1_1 ∧ Claimed_1_2) := fun h => p21_refuted_1 h.1
