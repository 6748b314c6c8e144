def rl : Nat → Nat
  | 0 => 16
  | 1 => 80
  | 2 => 5
  | 3 => 80
  | 4 => 16
  | 5 => 16
  | 6 => 80
  | 7 => 80
  | 8 => 80
  | 9 => 80
  | 10 => 80
  | 11 => 80
  | 12 => 80
  | 13 => 80
  | 14 => 480
  | 15 => 160
  | 16 => 160
  | 17 => 640
  | 18 => 16
  | 19 => 16
  | 20 => 160
  | 21 => 160
  | _ => 0
abbrev x_tys (cI cZ cJ : ClassId) : List (ClassId × FieldType) := [(cI, .int), (cZ, .boolean), (cJ, .long)]
def cwld (cI : ClassId) (a : Nat → Nat) (s : CS) : va_W := [(a 0, .inr (7, [.ref (a 1), .ref (a 2), .ref (a 3), .ref (a 4), .ref (a 5), .ref (a 6), .ref (a (7 + 0)), .ref (a (7 + 1)), .ref (a (7 + 2)), .ref (a (7 + 3)), .int (s 22 0), .int (s 22 1)])),
  (a 1, .inr (3, [.ref (a (7 + 4)), .ref (a (7 + 5)), .int (s 22 2), .int (s 22 3)])),
  (a 2, .inr (4, [.ref (a 1), .ref (a (7 + 6)), .ref (a (7 + 7)), .ref (a (7 + 8)), .ref (a (7 + 9)), .ref (a (7 + 10)), .ref (a (7 + 11)), .ref (a (7 + 12)), .ref (a (7 + 13)), .int (s 22 4), .int (s 22 5)])),
  (a 3, .inr (0, [.ref (a (7 + 14)), .ref (a (7 + 15)), .int (s 22 6)])),
  (a 4, .inr (2, [.ref (a (7 + 16)), .ref (a (7 + 17)), .int (s 22 7), .int (s 22 8)])),
  (a 5, .inr (6, [.ref (a (7 + 18)), .ref (a (7 + 19))])),
  (a 6, .inr (1, [.ref (a 1), .ref (a 2), .ref (a 3), .ref (a (7 + 20)), .ref (a (7 + 21))])),
  (a (7 + 0), .inr (5, [.ref (a (29 + 0))])),
  (a (7 + 1), .inr (5, [.ref (a (29 + 1))])),
  (a (7 + 2), .inr (5, [.ref (a (29 + 2))])),
  (a (7 + 3), .inr (5, [.ref (a (29 + 3))])),
  (a (7 + 4), .inr (5, [.ref (a (29 + 4))])),
  (a (7 + 5), .inr (5, [.ref (a (29 + 5))])),
  (a (7 + 6), .inr (5, [.ref (a (29 + 6))])),
  (a (7 + 7), .inr (5, [.ref (a (29 + 7))])),
  (a (7 + 8), .inr (5, [.ref (a (29 + 8))])),
  (a (7 + 9), .inr (5, [.ref (a (29 + 9))])),
  (a (7 + 10), .inr (5, [.ref (a (29 + 10))])),
  (a (7 + 11), .inr (5, [.ref (a (29 + 11))])),
  (a (7 + 12), .inr (5, [.ref (a (29 + 12))])),
  (a (7 + 13), .inr (5, [.ref (a (29 + 13))])),
  (a (7 + 14), .inr (5, [.ref (a (29 + 14))])),
  (a (7 + 15), .inr (5, [.ref (a (29 + 15))])),
  (a (7 + 16), .inr (5, [.ref (a (29 + 16))])),
  (a (7 + 17), .inr (5, [.ref (a (29 + 17))])),
  (a (7 + 18), .inr (5, [.ref (a (29 + 18))])),
  (a (7 + 19), .inr (5, [.ref (a (29 + 19))])),
  (a (7 + 20), .inr (5, [.ref (a (29 + 20))])),
  (a (7 + 21), .inr (5, [.ref (a (29 + 21))])),
  (a (29 + 0), .inl (cI, 16, .inl (s 0))),
  (a (29 + 1), .inl (cI, 80, .inl (s 1))),
  (a (29 + 2), .inl (cI, 5, .inl (s 2))),
  (a (29 + 3), .inl (cI, 80, .inl (s 3))),
  (a (29 + 4), .inl (cI, 16, .inl (s 4))),
  (a (29 + 5), .inl (cI, 16, .inl (s 5))),
  (a (29 + 6), .inl (cI, 80, .inl (s 6))),
  (a (29 + 7), .inl (cI, 80, .inl (s 7))),
  (a (29 + 8), .inl (cI, 80, .inl (s 8))),
  (a (29 + 9), .inl (cI, 80, .inl (s 9))),
  (a (29 + 10), .inl (cI, 80, .inl (s 10))),
  (a (29 + 11), .inl (cI, 80, .inl (s 11))),
  (a (29 + 12), .inl (cI, 80, .inl (s 12))),
  (a (29 + 13), .inl (cI, 80, .inl (s 13))),
  (a (29 + 14), .inl (cI, 480, .inl (s 14))),
  (a (29 + 15), .inl (cI, 160, .inl (s 15))),
  (a (29 + 16), .inl (cI, 160, .inl (s 16))),
  (a (29 + 17), .inl (cI, 640, .inl (s 17))),
  (a (29 + 18), .inl (cI, 16, .inl (s 18))),
  (a (29 + 19), .inl (cI, 16, .inl (s 19))),
  (a (29 + 20), .inl (cI, 160, .inl (s 20))),
  (a (29 + 21), .inl (cI, 160, .inl (s 21)))]
theorem cw_o0 (cI : ClassId) (a : Nat → Nat) (s : CS) : (cwld cI a s)[0]? = some (a 0, .inr (7, [.ref (a 1), .ref (a 2), .ref (a 3), .ref (a 4), .ref (a 5), .ref (a 6), .ref (a (7 + 0)), .ref (a (7 + 1)), .ref (a (7 + 2)), .ref (a (7 + 3)), .int (s 22 0), .int (s 22 1)])) := rfl
theorem cw_o1 (cI : ClassId) (a : Nat → Nat) (s : CS) : (cwld cI a s)[1]? = some (a 1, .inr (3, [.ref (a (7 + 4)), .ref (a (7 + 5)), .int (s 22 2), .int (s 22 3)])) := rfl
theorem cw_o2 (cI : ClassId) (a : Nat → Nat) (s : CS) : (cwld cI a s)[2]? = some (a 2, .inr (4, [.ref (a 1), .ref (a (7 + 6)), .ref (a (7 + 7)), .ref (a (7 + 8)), .ref (a (7 + 9)), .ref (a (7 + 10)), .ref (a (7 + 11)), .ref (a (7 + 12)), .ref (a (7 + 13)), .int (s 22 4), .int (s 22 5)])) := rfl
theorem cw_o3 (cI : ClassId) (a : Nat → Nat) (s : CS) : (cwld cI a s)[3]? = some (a 3, .inr (0, [.ref (a (7 + 14)), .ref (a (7 + 15)), .int (s 22 6)])) := rfl
theorem cw_o4 (cI : ClassId) (a : Nat → Nat) (s : CS) : (cwld cI a s)[4]? = some (a 4, .inr (2, [.ref (a (7 + 16)), .ref (a (7 + 17)), .int (s 22 7), .int (s 22 8)])) := rfl
theorem cw_o5 (cI : ClassId) (a : Nat → Nat) (s : CS) : (cwld cI a s)[5]? = some (a 5, .inr (6, [.ref (a (7 + 18)), .ref (a (7 + 19))])) := rfl
theorem cw_o6 (cI : ClassId) (a : Nat → Nat) (s : CS) : (cwld cI a s)[6]? = some (a 6, .inr (1, [.ref (a 1), .ref (a 2), .ref (a 3), .ref (a (7 + 20)), .ref (a (7 + 21))])) := rfl
theorem cw_row {cI : ClassId} {a : Nat → Nat} {s : CS} : ∀ {k : Nat}, k < 22 → (cwld cI a s)[7 + k]? = some (a (7 + k), .inr (5, [.ref (a (29 + k))]))
  | 0, _ => rfl
  | 1, _ => rfl
  | 2, _ => rfl
  | 3, _ => rfl
  | 4, _ => rfl
  | 5, _ => rfl
  | 6, _ => rfl
  | 7, _ => rfl
  | 8, _ => rfl
  | 9, _ => rfl
  | 10, _ => rfl
  | 11, _ => rfl
  | 12, _ => rfl
  | 13, _ => rfl
  | 14, _ => rfl
  | 15, _ => rfl
  | 16, _ => rfl
  | 17, _ => rfl
  | 18, _ => rfl
  | 19, _ => rfl
  | 20, _ => rfl
  | 21, _ => rfl
  | k + 22, h => absurd h (by omega)
theorem cw_arr {cI : ClassId} {a : Nat → Nat} {s : CS} : ∀ {k : Nat}, k < 22 → (cwld cI a s)[29 + k]? = some (a (29 + k), .inl (cI, rl k, .inl (s k)))
  | 0, _ => rfl
  | 1, _ => rfl
  | 2, _ => rfl
  | 3, _ => rfl
  | 4, _ => rfl
  | 5, _ => rfl
  | 6, _ => rfl
  | 7, _ => rfl
  | 8, _ => rfl
  | 9, _ => rfl
  | 10, _ => rfl
  | 11, _ => rfl
  | 12, _ => rfl
  | 13, _ => rfl
  | 14, _ => rfl
  | 15, _ => rfl
  | 16, _ => rfl
  | 17, _ => rfl
  | 18, _ => rfl
  | 19, _ => rfl
  | 20, _ => rfl
  | 21, _ => rfl
  | k + 22, h => absurd h (by omega)
theorem cw_set {cI : ClassId} {a : Nat → Nat} : ∀ {k : Nat}, k < 22 → ∀ (s : CS) (j : Nat) (v : Int32), (cwld cI a s).set (29 + k) (a (29 + k), .inl (cI, rl k, .inl (upd (s k) j v))) = cwld cI a (cset s k j v)
  | 0, _ => fun _ _ _ => rfl
  | 1, _ => fun _ _ _ => rfl
  | 2, _ => fun _ _ _ => rfl
  | 3, _ => fun _ _ _ => rfl
  | 4, _ => fun _ _ _ => rfl
  | 5, _ => fun _ _ _ => rfl
  | 6, _ => fun _ _ _ => rfl
  | 7, _ => fun _ _ _ => rfl
  | 8, _ => fun _ _ _ => rfl
  | 9, _ => fun _ _ _ => rfl
  | 10, _ => fun _ _ _ => rfl
  | 11, _ => fun _ _ _ => rfl
  | 12, _ => fun _ _ _ => rfl
  | 13, _ => fun _ _ _ => rfl
  | 14, _ => fun _ _ _ => rfl
  | 15, _ => fun _ _ _ => rfl
  | 16, _ => fun _ _ _ => rfl
  | 17, _ => fun _ _ _ => rfl
  | 18, _ => fun _ _ _ => rfl
  | 19, _ => fun _ _ _ => rfl
  | 20, _ => fun _ _ _ => rfl
  | 21, _ => fun _ _ _ => rfl
  | k + 22, h => absurd h (by omega)
theorem cw_s0 (cI : ClassId) (a : Nat → Nat) (s : CS) (v : Int32) : (cwld cI a s).set 0 (a 0, .inr (7, ([.ref (a 1), .ref (a 2), .ref (a 3), .ref (a 4), .ref (a 5), .ref (a 6), .ref (a (7 + 0)), .ref (a (7 + 1)), .ref (a (7 + 2)), .ref (a (7 + 3)), .int (s 22 0), .int (s 22 1)] : List Value).set 10 (.int v))) = cwld cI a (cset s 22 0 v) := rfl
theorem cw_s1 (cI : ClassId) (a : Nat → Nat) (s : CS) (v : Int32) : (cwld cI a s).set 0 (a 0, .inr (7, ([.ref (a 1), .ref (a 2), .ref (a 3), .ref (a 4), .ref (a 5), .ref (a 6), .ref (a (7 + 0)), .ref (a (7 + 1)), .ref (a (7 + 2)), .ref (a (7 + 3)), .int (s 22 0), .int (s 22 1)] : List Value).set 11 (.int v))) = cwld cI a (cset s 22 1 v) := rfl
theorem cw_s2 (cI : ClassId) (a : Nat → Nat) (s : CS) (v : Int32) : (cwld cI a s).set 1 (a 1, .inr (3, ([.ref (a (7 + 4)), .ref (a (7 + 5)), .int (s 22 2), .int (s 22 3)] : List Value).set 2 (.int v))) = cwld cI a (cset s 22 2 v) := rfl
theorem cw_s3 (cI : ClassId) (a : Nat → Nat) (s : CS) (v : Int32) : (cwld cI a s).set 1 (a 1, .inr (3, ([.ref (a (7 + 4)), .ref (a (7 + 5)), .int (s 22 2), .int (s 22 3)] : List Value).set 3 (.int v))) = cwld cI a (cset s 22 3 v) := rfl
theorem cw_s4 (cI : ClassId) (a : Nat → Nat) (s : CS) (v : Int32) : (cwld cI a s).set 2 (a 2, .inr (4, ([.ref (a 1), .ref (a (7 + 6)), .ref (a (7 + 7)), .ref (a (7 + 8)), .ref (a (7 + 9)), .ref (a (7 + 10)), .ref (a (7 + 11)), .ref (a (7 + 12)), .ref (a (7 + 13)), .int (s 22 4), .int (s 22 5)] : List Value).set 9 (.int v))) = cwld cI a (cset s 22 4 v) := rfl
theorem cw_s5 (cI : ClassId) (a : Nat → Nat) (s : CS) (v : Int32) : (cwld cI a s).set 2 (a 2, .inr (4, ([.ref (a 1), .ref (a (7 + 6)), .ref (a (7 + 7)), .ref (a (7 + 8)), .ref (a (7 + 9)), .ref (a (7 + 10)), .ref (a (7 + 11)), .ref (a (7 + 12)), .ref (a (7 + 13)), .int (s 22 4), .int (s 22 5)] : List Value).set 10 (.int v))) = cwld cI a (cset s 22 5 v) := rfl
theorem cw_s6 (cI : ClassId) (a : Nat → Nat) (s : CS) (v : Int32) : (cwld cI a s).set 3 (a 3, .inr (0, ([.ref (a (7 + 14)), .ref (a (7 + 15)), .int (s 22 6)] : List Value).set 2 (.int v))) = cwld cI a (cset s 22 6 v) := rfl
theorem cw_s7 (cI : ClassId) (a : Nat → Nat) (s : CS) (v : Int32) : (cwld cI a s).set 4 (a 4, .inr (2, ([.ref (a (7 + 16)), .ref (a (7 + 17)), .int (s 22 7), .int (s 22 8)] : List Value).set 2 (.int v))) = cwld cI a (cset s 22 7 v) := rfl
theorem cw_s8 (cI : ClassId) (a : Nat → Nat) (s : CS) (v : Int32) : (cwld cI a s).set 4 (a 4, .inr (2, ([.ref (a (7 + 16)), .ref (a (7 + 17)), .int (s 22 7), .int (s 22 8)] : List Value).set 3 (.int v))) = cwld cI a (cset s 22 8 v) := rfl
def mwld (cI cZ : ClassId) (b : Nat → Nat) (s : CS) : va_W := [(b 0, .inr (8, [.int (s 18 0), .int (s 18 1), .int (s 18 2), .int (s 18 3), .int (s 18 4), .int (s 18 5), .int (s 18 6), .ref (b (1 + 0)), .ref (b (1 + 1)), .ref (b (1 + 2)), .ref (b (1 + 3)), .ref (b (1 + 4)), .ref (b (1 + 5)), .ref (b (1 + 6)), .ref (b (1 + 7)), .ref (b (1 + 8)), .ref (b (1 + 9)), .ref (b (1 + 10)), .ref (b (1 + 11)), .ref (b (1 + 12)), .ref (b (1 + 13)), .ref (b (1 + 14)), .ref (b (1 + 15)), .ref (b (1 + 16)), .ref (b (1 + 17)), .int (s 18 7)])),
  (b (1 + 0), .inl (cI, 480, .inl (s 0))),
  (b (1 + 1), .inl (cI, 160, .inl (s 1))),
  (b (1 + 2), .inl (cI, 128, .inl (s 2))),
  (b (1 + 3), .inl (cI, 640, .inl (s 3))),
  (b (1 + 4), .inl (cI, 80, .inl (s 4))),
  (b (1 + 5), .inl (cI, 16, .inl (s 5))),
  (b (1 + 6), .inl (cI, 16, .inl (s 6))),
  (b (1 + 7), .inl (cZ, 16, .inl (s 7))),
  (b (1 + 8), .inl (cI, 80, .inl (s 8))),
  (b (1 + 9), .inl (cI, 80, .inl (s 9))),
  (b (1 + 10), .inl (cI, 80, .inl (s 10))),
  (b (1 + 11), .inl (cI, 80, .inl (s 11))),
  (b (1 + 12), .inl (cI, 80, .inl (s 12))),
  (b (1 + 13), .inl (cI, 80, .inl (s 13))),
  (b (1 + 14), .inl (cZ, 80, .inl (s 14))),
  (b (1 + 15), .inl (cI, 80, .inl (s 15))),
  (b (1 + 16), .inl (cZ, 25600, .inl (s 16))),
  (b (1 + 17), .inl (cZ, 160, .inl (s 17)))]
theorem mw_o (cI cZ : ClassId) (b : Nat → Nat) (s : CS) : (mwld cI cZ b s)[0]? = some (b 0, .inr (8, [.int (s 18 0), .int (s 18 1), .int (s 18 2), .int (s 18 3), .int (s 18 4), .int (s 18 5), .int (s 18 6), .ref (b (1 + 0)), .ref (b (1 + 1)), .ref (b (1 + 2)), .ref (b (1 + 3)), .ref (b (1 + 4)), .ref (b (1 + 5)), .ref (b (1 + 6)), .ref (b (1 + 7)), .ref (b (1 + 8)), .ref (b (1 + 9)), .ref (b (1 + 10)), .ref (b (1 + 11)), .ref (b (1 + 12)), .ref (b (1 + 13)), .ref (b (1 + 14)), .ref (b (1 + 15)), .ref (b (1 + 16)), .ref (b (1 + 17)), .int (s 18 7)])) := rfl
theorem mw_r0 (cI cZ : ClassId) (b : Nat → Nat) (s : CS) : (mwld cI cZ b s)[1 + 0]? = some (b (1 + 0), .inl (cI, 480, .inl (s 0))) := rfl
theorem mw_a0 (cI cZ : ClassId) (b : Nat → Nat) (s : CS) (j : Nat) (v : Int32) : (mwld cI cZ b s).set (1 + 0) (b (1 + 0), .inl (cI, 480, .inl (upd (s 0) j v))) = mwld cI cZ b (cset s 0 j v) := rfl
theorem mw_r1 (cI cZ : ClassId) (b : Nat → Nat) (s : CS) : (mwld cI cZ b s)[1 + 1]? = some (b (1 + 1), .inl (cI, 160, .inl (s 1))) := rfl
theorem mw_a1 (cI cZ : ClassId) (b : Nat → Nat) (s : CS) (j : Nat) (v : Int32) : (mwld cI cZ b s).set (1 + 1) (b (1 + 1), .inl (cI, 160, .inl (upd (s 1) j v))) = mwld cI cZ b (cset s 1 j v) := rfl
theorem mw_r2 (cI cZ : ClassId) (b : Nat → Nat) (s : CS) : (mwld cI cZ b s)[1 + 2]? = some (b (1 + 2), .inl (cI, 128, .inl (s 2))) := rfl
theorem mw_a2 (cI cZ : ClassId) (b : Nat → Nat) (s : CS) (j : Nat) (v : Int32) : (mwld cI cZ b s).set (1 + 2) (b (1 + 2), .inl (cI, 128, .inl (upd (s 2) j v))) = mwld cI cZ b (cset s 2 j v) := rfl
theorem mw_r3 (cI cZ : ClassId) (b : Nat → Nat) (s : CS) : (mwld cI cZ b s)[1 + 3]? = some (b (1 + 3), .inl (cI, 640, .inl (s 3))) := rfl
theorem mw_a3 (cI cZ : ClassId) (b : Nat → Nat) (s : CS) (j : Nat) (v : Int32) : (mwld cI cZ b s).set (1 + 3) (b (1 + 3), .inl (cI, 640, .inl (upd (s 3) j v))) = mwld cI cZ b (cset s 3 j v) := rfl
theorem mw_r4 (cI cZ : ClassId) (b : Nat → Nat) (s : CS) : (mwld cI cZ b s)[1 + 4]? = some (b (1 + 4), .inl (cI, 80, .inl (s 4))) := rfl
theorem mw_a4 (cI cZ : ClassId) (b : Nat → Nat) (s : CS) (j : Nat) (v : Int32) : (mwld cI cZ b s).set (1 + 4) (b (1 + 4), .inl (cI, 80, .inl (upd (s 4) j v))) = mwld cI cZ b (cset s 4 j v) := rfl
theorem mw_r5 (cI cZ : ClassId) (b : Nat → Nat) (s : CS) : (mwld cI cZ b s)[1 + 5]? = some (b (1 + 5), .inl (cI, 16, .inl (s 5))) := rfl
theorem mw_a5 (cI cZ : ClassId) (b : Nat → Nat) (s : CS) (j : Nat) (v : Int32) : (mwld cI cZ b s).set (1 + 5) (b (1 + 5), .inl (cI, 16, .inl (upd (s 5) j v))) = mwld cI cZ b (cset s 5 j v) := rfl
theorem mw_r6 (cI cZ : ClassId) (b : Nat → Nat) (s : CS) : (mwld cI cZ b s)[1 + 6]? = some (b (1 + 6), .inl (cI, 16, .inl (s 6))) := rfl
theorem mw_a6 (cI cZ : ClassId) (b : Nat → Nat) (s : CS) (j : Nat) (v : Int32) : (mwld cI cZ b s).set (1 + 6) (b (1 + 6), .inl (cI, 16, .inl (upd (s 6) j v))) = mwld cI cZ b (cset s 6 j v) := rfl
theorem mw_r7 (cI cZ : ClassId) (b : Nat → Nat) (s : CS) : (mwld cI cZ b s)[1 + 7]? = some (b (1 + 7), .inl (cZ, 16, .inl (s 7))) := rfl
theorem mw_a7 (cI cZ : ClassId) (b : Nat → Nat) (s : CS) (j : Nat) (v : Int32) : (mwld cI cZ b s).set (1 + 7) (b (1 + 7), .inl (cZ, 16, .inl (upd (s 7) j v))) = mwld cI cZ b (cset s 7 j v) := rfl
theorem mw_r8 (cI cZ : ClassId) (b : Nat → Nat) (s : CS) : (mwld cI cZ b s)[1 + 8]? = some (b (1 + 8), .inl (cI, 80, .inl (s 8))) := rfl
theorem mw_a8 (cI cZ : ClassId) (b : Nat → Nat) (s : CS) (j : Nat) (v : Int32) : (mwld cI cZ b s).set (1 + 8) (b (1 + 8), .inl (cI, 80, .inl (upd (s 8) j v))) = mwld cI cZ b (cset s 8 j v) := rfl
theorem mw_r9 (cI cZ : ClassId) (b : Nat → Nat) (s : CS) : (mwld cI cZ b s)[1 + 9]? = some (b (1 + 9), .inl (cI, 80, .inl (s 9))) := rfl
theorem mw_a9 (cI cZ : ClassId) (b : Nat → Nat) (s : CS) (j : Nat) (v : Int32) : (mwld cI cZ b s).set (1 + 9) (b (1 + 9), .inl (cI, 80, .inl (upd (s 9) j v))) = mwld cI cZ b (cset s 9 j v) := rfl
theorem mw_r10 (cI cZ : ClassId) (b : Nat → Nat) (s : CS) : (mwld cI cZ b s)[1 + 10]? = some (b (1 + 10), .inl (cI, 80, .inl (s 10))) := rfl
theorem mw_a10 (cI cZ : ClassId) (b : Nat → Nat) (s : CS) (j : Nat) (v : Int32) : (mwld cI cZ b s).set (1 + 10) (b (1 + 10), .inl (cI, 80, .inl (upd (s 10) j v))) = mwld cI cZ b (cset s 10 j v) := rfl
theorem mw_r11 (cI cZ : ClassId) (b : Nat → Nat) (s : CS) : (mwld cI cZ b s)[1 + 11]? = some (b (1 + 11), .inl (cI, 80, .inl (s 11))) := rfl
theorem mw_a11 (cI cZ : ClassId) (b : Nat → Nat) (s : CS) (j : Nat) (v : Int32) : (mwld cI cZ b s).set (1 + 11) (b (1 + 11), .inl (cI, 80, .inl (upd (s 11) j v))) = mwld cI cZ b (cset s 11 j v) := rfl
theorem mw_r12 (cI cZ : ClassId) (b : Nat → Nat) (s : CS) : (mwld cI cZ b s)[1 + 12]? = some (b (1 + 12), .inl (cI, 80, .inl (s 12))) := rfl
theorem mw_a12 (cI cZ : ClassId) (b : Nat → Nat) (s : CS) (j : Nat) (v : Int32) : (mwld cI cZ b s).set (1 + 12) (b (1 + 12), .inl (cI, 80, .inl (upd (s 12) j v))) = mwld cI cZ b (cset s 12 j v) := rfl
theorem mw_r13 (cI cZ : ClassId) (b : Nat → Nat) (s : CS) : (mwld cI cZ b s)[1 + 13]? = some (b (1 + 13), .inl (cI, 80, .inl (s 13))) := rfl
theorem mw_a13 (cI cZ : ClassId) (b : Nat → Nat) (s : CS) (j : Nat) (v : Int32) : (mwld cI cZ b s).set (1 + 13) (b (1 + 13), .inl (cI, 80, .inl (upd (s 13) j v))) = mwld cI cZ b (cset s 13 j v) := rfl
theorem mw_r14 (cI cZ : ClassId) (b : Nat → Nat) (s : CS) : (mwld cI cZ b s)[1 + 14]? = some (b (1 + 14), .inl (cZ, 80, .inl (s 14))) := rfl
theorem mw_a14 (cI cZ : ClassId) (b : Nat → Nat) (s : CS) (j : Nat) (v : Int32) : (mwld cI cZ b s).set (1 + 14) (b (1 + 14), .inl (cZ, 80, .inl (upd (s 14) j v))) = mwld cI cZ b (cset s 14 j v) := rfl
theorem mw_r15 (cI cZ : ClassId) (b : Nat → Nat) (s : CS) : (mwld cI cZ b s)[1 + 15]? = some (b (1 + 15), .inl (cI, 80, .inl (s 15))) := rfl
theorem mw_a15 (cI cZ : ClassId) (b : Nat → Nat) (s : CS) (j : Nat) (v : Int32) : (mwld cI cZ b s).set (1 + 15) (b (1 + 15), .inl (cI, 80, .inl (upd (s 15) j v))) = mwld cI cZ b (cset s 15 j v) := rfl
theorem mw_r16 (cI cZ : ClassId) (b : Nat → Nat) (s : CS) : (mwld cI cZ b s)[1 + 16]? = some (b (1 + 16), .inl (cZ, 25600, .inl (s 16))) := rfl
theorem mw_a16 (cI cZ : ClassId) (b : Nat → Nat) (s : CS) (j : Nat) (v : Int32) : (mwld cI cZ b s).set (1 + 16) (b (1 + 16), .inl (cZ, 25600, .inl (upd (s 16) j v))) = mwld cI cZ b (cset s 16 j v) := rfl
theorem mw_r17 (cI cZ : ClassId) (b : Nat → Nat) (s : CS) : (mwld cI cZ b s)[1 + 17]? = some (b (1 + 17), .inl (cZ, 160, .inl (s 17))) := rfl
theorem mw_a17 (cI cZ : ClassId) (b : Nat → Nat) (s : CS) (j : Nat) (v : Int32) : (mwld cI cZ b s).set (1 + 17) (b (1 + 17), .inl (cZ, 160, .inl (upd (s 17) j v))) = mwld cI cZ b (cset s 17 j v) := rfl
theorem mw_s0 (cI cZ : ClassId) (b : Nat → Nat) (s : CS) (v : Int32) : (mwld cI cZ b s).set 0 (b 0, .inr (8, ([.int (s 18 0), .int (s 18 1), .int (s 18 2), .int (s 18 3), .int (s 18 4), .int (s 18 5), .int (s 18 6), .ref (b (1 + 0)), .ref (b (1 + 1)), .ref (b (1 + 2)), .ref (b (1 + 3)), .ref (b (1 + 4)), .ref (b (1 + 5)), .ref (b (1 + 6)), .ref (b (1 + 7)), .ref (b (1 + 8)), .ref (b (1 + 9)), .ref (b (1 + 10)), .ref (b (1 + 11)), .ref (b (1 + 12)), .ref (b (1 + 13)), .ref (b (1 + 14)), .ref (b (1 + 15)), .ref (b (1 + 16)), .ref (b (1 + 17)), .int (s 18 7)] : List Value).set 0 (.int v))) = mwld cI cZ b (cset s 18 0 v) := rfl
theorem mw_s1 (cI cZ : ClassId) (b : Nat → Nat) (s : CS) (v : Int32) : (mwld cI cZ b s).set 0 (b 0, .inr (8, ([.int (s 18 0), .int (s 18 1), .int (s 18 2), .int (s 18 3), .int (s 18 4), .int (s 18 5), .int (s 18 6), .ref (b (1 + 0)), .ref (b (1 + 1)), .ref (b (1 + 2)), .ref (b (1 + 3)), .ref (b (1 + 4)), .ref (b (1 + 5)), .ref (b (1 + 6)), .ref (b (1 + 7)), .ref (b (1 + 8)), .ref (b (1 + 9)), .ref (b (1 + 10)), .ref (b (1 + 11)), .ref (b (1 + 12)), .ref (b (1 + 13)), .ref (b (1 + 14)), .ref (b (1 + 15)), .ref (b (1 + 16)), .ref (b (1 + 17)), .int (s 18 7)] : List Value).set 1 (.int v))) = mwld cI cZ b (cset s 18 1 v) := rfl
theorem mw_s2 (cI cZ : ClassId) (b : Nat → Nat) (s : CS) (v : Int32) : (mwld cI cZ b s).set 0 (b 0, .inr (8, ([.int (s 18 0), .int (s 18 1), .int (s 18 2), .int (s 18 3), .int (s 18 4), .int (s 18 5), .int (s 18 6), .ref (b (1 + 0)), .ref (b (1 + 1)), .ref (b (1 + 2)), .ref (b (1 + 3)), .ref (b (1 + 4)), .ref (b (1 + 5)), .ref (b (1 + 6)), .ref (b (1 + 7)), .ref (b (1 + 8)), .ref (b (1 + 9)), .ref (b (1 + 10)), .ref (b (1 + 11)), .ref (b (1 + 12)), .ref (b (1 + 13)), .ref (b (1 + 14)), .ref (b (1 + 15)), .ref (b (1 + 16)), .ref (b (1 + 17)), .int (s 18 7)] : List Value).set 2 (.int v))) = mwld cI cZ b (cset s 18 2 v) := rfl
theorem mw_s3 (cI cZ : ClassId) (b : Nat → Nat) (s : CS) (v : Int32) : (mwld cI cZ b s).set 0 (b 0, .inr (8, ([.int (s 18 0), .int (s 18 1), .int (s 18 2), .int (s 18 3), .int (s 18 4), .int (s 18 5), .int (s 18 6), .ref (b (1 + 0)), .ref (b (1 + 1)), .ref (b (1 + 2)), .ref (b (1 + 3)), .ref (b (1 + 4)), .ref (b (1 + 5)), .ref (b (1 + 6)), .ref (b (1 + 7)), .ref (b (1 + 8)), .ref (b (1 + 9)), .ref (b (1 + 10)), .ref (b (1 + 11)), .ref (b (1 + 12)), .ref (b (1 + 13)), .ref (b (1 + 14)), .ref (b (1 + 15)), .ref (b (1 + 16)), .ref (b (1 + 17)), .int (s 18 7)] : List Value).set 3 (.int v))) = mwld cI cZ b (cset s 18 3 v) := rfl
theorem mw_s4 (cI cZ : ClassId) (b : Nat → Nat) (s : CS) (v : Int32) : (mwld cI cZ b s).set 0 (b 0, .inr (8, ([.int (s 18 0), .int (s 18 1), .int (s 18 2), .int (s 18 3), .int (s 18 4), .int (s 18 5), .int (s 18 6), .ref (b (1 + 0)), .ref (b (1 + 1)), .ref (b (1 + 2)), .ref (b (1 + 3)), .ref (b (1 + 4)), .ref (b (1 + 5)), .ref (b (1 + 6)), .ref (b (1 + 7)), .ref (b (1 + 8)), .ref (b (1 + 9)), .ref (b (1 + 10)), .ref (b (1 + 11)), .ref (b (1 + 12)), .ref (b (1 + 13)), .ref (b (1 + 14)), .ref (b (1 + 15)), .ref (b (1 + 16)), .ref (b (1 + 17)), .int (s 18 7)] : List Value).set 4 (.int v))) = mwld cI cZ b (cset s 18 4 v) := rfl
theorem mw_s5 (cI cZ : ClassId) (b : Nat → Nat) (s : CS) (v : Int32) : (mwld cI cZ b s).set 0 (b 0, .inr (8, ([.int (s 18 0), .int (s 18 1), .int (s 18 2), .int (s 18 3), .int (s 18 4), .int (s 18 5), .int (s 18 6), .ref (b (1 + 0)), .ref (b (1 + 1)), .ref (b (1 + 2)), .ref (b (1 + 3)), .ref (b (1 + 4)), .ref (b (1 + 5)), .ref (b (1 + 6)), .ref (b (1 + 7)), .ref (b (1 + 8)), .ref (b (1 + 9)), .ref (b (1 + 10)), .ref (b (1 + 11)), .ref (b (1 + 12)), .ref (b (1 + 13)), .ref (b (1 + 14)), .ref (b (1 + 15)), .ref (b (1 + 16)), .ref (b (1 + 17)), .int (s 18 7)] : List Value).set 5 (.int v))) = mwld cI cZ b (cset s 18 5 v) := rfl
theorem mw_s6 (cI cZ : ClassId) (b : Nat → Nat) (s : CS) (v : Int32) : (mwld cI cZ b s).set 0 (b 0, .inr (8, ([.int (s 18 0), .int (s 18 1), .int (s 18 2), .int (s 18 3), .int (s 18 4), .int (s 18 5), .int (s 18 6), .ref (b (1 + 0)), .ref (b (1 + 1)), .ref (b (1 + 2)), .ref (b (1 + 3)), .ref (b (1 + 4)), .ref (b (1 + 5)), .ref (b (1 + 6)), .ref (b (1 + 7)), .ref (b (1 + 8)), .ref (b (1 + 9)), .ref (b (1 + 10)), .ref (b (1 + 11)), .ref (b (1 + 12)), .ref (b (1 + 13)), .ref (b (1 + 14)), .ref (b (1 + 15)), .ref (b (1 + 16)), .ref (b (1 + 17)), .int (s 18 7)] : List Value).set 6 (.int v))) = mwld cI cZ b (cset s 18 6 v) := rfl
theorem mw_s7 (cI cZ : ClassId) (b : Nat → Nat) (s : CS) (v : Int32) : (mwld cI cZ b s).set 0 (b 0, .inr (8, ([.int (s 18 0), .int (s 18 1), .int (s 18 2), .int (s 18 3), .int (s 18 4), .int (s 18 5), .int (s 18 6), .ref (b (1 + 0)), .ref (b (1 + 1)), .ref (b (1 + 2)), .ref (b (1 + 3)), .ref (b (1 + 4)), .ref (b (1 + 5)), .ref (b (1 + 6)), .ref (b (1 + 7)), .ref (b (1 + 8)), .ref (b (1 + 9)), .ref (b (1 + 10)), .ref (b (1 + 11)), .ref (b (1 + 12)), .ref (b (1 + 13)), .ref (b (1 + 14)), .ref (b (1 + 15)), .ref (b (1 + 16)), .ref (b (1 + 17)), .int (s 18 7)] : List Value).set 25 (.int v))) = mwld cI cZ b (cset s 18 7 v) := rfl
theorem xk_bipush_8 : (Int8.ofInt (8)).toInt32 = (8 : Int32) := by decide
theorem xk_bipush_10 : (Int8.ofInt (10)).toInt32 = (10 : Int32) := by decide
theorem xk_bipush_16 : (Int8.ofInt (16)).toInt32 = (16 : Int32) := by decide
theorem xk_bipush_31 : (Int8.ofInt (31)).toInt32 = (31 : Int32) := by decide
theorem xk_bipush_50 : (Int8.ofInt (50)).toInt32 = (50 : Int32) := by decide
theorem xk_bipush_80 : (Int8.ofInt (80)).toInt32 = (80 : Int32) := by decide
theorem xk_iconst_m1 : Int32.ofInt (-1) = (-1 : Int32) := by decide
theorem xk_iconst_0 : Int32.ofInt (0) = (0 : Int32) := by decide
theorem xk_iconst_1 : Int32.ofInt (1) = (1 : Int32) := by decide
theorem xk_iconst_2 : Int32.ofInt (2) = (2 : Int32) := by decide
theorem xk_iconst_3 : Int32.ofInt (3) = (3 : Int32) := by decide
theorem xk_iconst_4 : Int32.ofInt (4) = (4 : Int32) := by decide
theorem xk_iconst_5 : Int32.ofInt (5) = (5 : Int32) := by decide
theorem xk_sipush_128 : (Int16.ofInt (128)).toInt32 = (128 : Int32) := by decide
theorem xk_sipush_160 : (Int16.ofInt (160)).toInt32 = (160 : Int32) := by decide
theorem xk_sipush_480 : (Int16.ofInt (480)).toInt32 = (480 : Int32) := by decide
theorem xk_sipush_640 : (Int16.ofInt (640)).toInt32 = (640 : Int32) := by decide
theorem xk_sipush_25600 : (Int16.ofInt (25600)).toInt32 = (25600 : Int32) := by decide
