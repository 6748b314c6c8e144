/-! both sides agree, call by call -/
theorem pure_sim (F : Nat) (hF : 30000 ≤ F) : l_SIM F JX := by
  intro t σ τ ht h
  refine ⟨s_begin F t (by omega) h, s_send F t h, s_run F t (by omega) ht h, s_pause F t h, s_lose F t h, s_recover F t (by omega) h, s_tick F t h, s_packets F t h, s_arrived F t h, s_credits F t h, s_inBuffer F t h, s_gap F t h, s_placeOf F t h, s_hops F t h, s_isMarked F t h, s_wants F t h, s_circle F t (by omega) h, s_mayCircle F t hF h, ?_⟩
  obtain ⟨c, r, d, e, h1, h2, hJ, hb⟩ := h
  exact ⟨c, r, d, e, h1, h2, hJ, by omega⟩
theorem pure_all : ∃ (F : Nat) (J : Nat → CS → CS → Prop), l_INIT F J ∧ l_SIM F J := ⟨30000, JX, s_init 30000 (by omega), pure_sim 30000 (Nat.le_refl _)⟩
