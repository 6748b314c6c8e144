theorem pure_all : ∃ (F : Nat) (J : Nat → CS → CS → Prop), l_INIT F J ∧ l_SIM F J := sorry
