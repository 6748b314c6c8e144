/-! they come: the reference's side -/
def PT (c r : Nat) (d d1 eL eP : DS) (a x : Nat) : Prop := (∀ k, k ≠ 0 → k ≠ 1 → k ≠ 5 → k ≠ 12 → k ≠ 13 → eP k = eL k) ∧ (∀ p, p < d 22 4 → eP 12 p = mst c r d d1 x 10 p ∧ eP 13 p = mst c r d d1 x 12 p) ∧ (∀ i, i < 16 → eP 5 i = mst c r d d1 x 18 i) ∧ mst c r d d1 x 22 5 = d1 22 5 + a ∧ a ≤ x ∧ ∀ b, b < 160 → qv (eP 0) (eP 1) b = qr c r d (c * r * 5) b ++ qa c r d x b
theorem k_over (K : Int32 → Int32 → Int32 → CS → Option (Int32 × CS)) (F : Nat) {c r w o p l a y x : Nat} {e : DS} (hF : 1000 ≤ F) (hG : GrM e c r) (hw : w < c * r) (ho : o < 4) (hp : p < 80) (hl : e 10 p = l) (hl2 : l < 2) (hn : nb c r w o ≠ 0) (hs : e 1 (bf (nb c r w o - 1) o l) < 3) (hwx : x / 5 = w) (hox : x % 5 = o) (h15 : e 15 x = p + 1) : (x_og (x_in (nI x) 80) (x_oi (x_at (EM e) 15 (nI x)) (fun x4_23 => if x4_23 < 0 then (r_X8_ticks_b183 K F (nI a) (nI y) (nI x) x4_23 (EM e)) else (if (4 : Int32) ≤ (x_rem (nI x) (5 : Int32)) then (r_X8_ticks_b183 K F (nI a) (nI y) (nI x) x4_23 (EM e)) else (x_ob (r_X8_neighbour F ((nI x) / (5 : Int32)) (x_rem (nI x) (5 : Int32)) (EM e)) (fun v42 s41 => x_og (x_in x4_23 80) (x_ob (r_X8_bufferOf F v42 (x_rem (nI x) (5 : Int32)) (x_at s41 10 x4_23) s41) (fun v46 s45 => x_ob (r_X8_puts F v46 x4_23 s45) (fun _ s48 => x_og (x_in x4_23 80) (x_os (x_st s48 12 x4_23 v42) (fun s52 => x_og (x_in x4_23 80) (x_og (x_in x4_23 80) (x_os (x_st s52 13 x4_23 ((x_at s52 13 x4_23) + (1 : Int32))) (fun s55 => r_X8_ticks_b284 K F (nI a) (nI y) (nI x) s55)))))))))))))) = K (nI a) (nI y) (nI (x + 1)) (EM (dset (dset (ptM e (bf (nb c r w o - 1) o l) p) 12 p (nb c r w o)) 13 p (e 13 p + 1))) := by
  have h16 := Gr16 hG.2.2
  have hx : x < 80 := by omega
  have hb1 := nb_lt (dir := o) hG.2.2 hw
  have hb9 : bf (nb c r w o - 1) o l < 160 := by
    show (nb c r w o - 1) * 10 + 2 * o + l < 160
    omega
  have a15 : x_at (EM e) 15 (nI x) = nI p := by
    show EM e 15 (nI x).toNatClampNeg = _
    rw [x_cl (by omega), EM_15, h15, mI_s]
  have a10 : x_at (EM e) 10 (nI p) = nI l := by
    show EM e 10 (nI p).toNatClampNeg = _
    rw [x_cl (by omega), EM_10, hl]
  have hp0 : ¬ nI p < 0 := nI_pos (by omega)
  rw [x_ogT (x_inT hx (by omega)), a15, x_oiS, if_neg hp0, x_r5 (by omega), hox, if_neg (by rw [x_l4, x_le (by decide) (by omega)]; omega), x_d5 (by omega), hwx, k_neighbour F o hG hw ho, x_obS, x_ogT (x_inT hp (by omega)), mI_p hn, a10, k_bufferOf, x_obS, k_puts F p hb9 hs, x_obS, x_ogT (x_inT hp (by omega))]
  have hst : x_st (EM (ptM e (bf (nb c r w o - 1) o l) p)) 12 (nI p) (nI (nb c r w o - 1)) = EM (dset (ptM e (bf (nb c r w o - 1) o l) p) 12 p (nb c r w o)) := by
    show cset (EM _) 12 (nI p).toNatClampNeg _ = _
    rw [x_cl (by omega), EMs_12n, show nb c r w o - 1 + 1 = nb c r w o by omega]
  rw [hst, x_osS, x_ogT (x_inT hp (by omega)), x_ogT (x_inT hp (by omega))]
  have hst2 : x_st (EM (dset (ptM e (bf (nb c r w o - 1) o l) p) 12 p (nb c r w o))) 13 (nI p) (x_at (EM (dset (ptM e (bf (nb c r w o - 1) o l) p) 12 p (nb c r w o))) 13 (nI p) + (1 : Int32)) = EM (dset (dset (ptM e (bf (nb c r w o - 1) o l) p) 12 p (nb c r w o)) 13 p (e 13 p + 1)) := by
    show cset (EM _) 13 (nI p).toNatClampNeg (EM _ 13 (nI p).toNatClampNeg + (1 : Int32)) = _
    rw [x_cl (by omega), EM_13, x_l1, nI_add, EMs_13]
    rfl
  rw [hst2, x_osS]
  unfold r_X8_ticks_b284
  rw [x_l1, nI_add]
theorem k_out (K : Int32 → Int32 → Int32 → CS → Option (Int32 × CS)) (F : Nat) {p s a y x g mk : Nat} {e : DS} (hp : p < 80) (hs : e 9 p = s) (hs16 : s < 16) (hg : e 5 s = g) (hg1 : 1 ≤ g) (hg2 : g ≤ 16) (hm : e 14 p = mk) (hm2 : mk < 2) : r_X8_ticks_b183 K F (nI a) (nI y) (nI x) (nI p) (EM e) = K (nI (a + 1)) (nI y) (nI (x + 1)) (EM (dset (dset e 12 p 0) 5 s (gp g mk))) := by
  have hp0 : ¬ nI p < 0 := nI_pos (by omega)
  have hst : x_st (EM e) 12 (nI p) (-1 : Int32) = EM (dset e 12 p 0) := by
    show cset (EM e) 12 (nI p).toNatClampNeg (mI 0) = _
    rw [x_cl (by omega), EMs_12]
  obtain ⟨e1, he1⟩ : ∃ e1, e1 = dset e 12 p 0 := ⟨_, rfl⟩
  have a9 : x_at (EM e1) 9 (nI p) = nI s := by
    show EM e1 9 (nI p).toNatClampNeg = _
    rw [x_cl (by omega), EM_9, he1]
    exact congrArg nI hs
  have a5 : x_at (EM e1) 5 (nI s) = nI g := by
    show EM e1 5 (nI s).toNatClampNeg = _
    rw [x_cl (by omega), EM_5, he1]
    exact congrArg nI hg
  have a14 : x_at (EM e1) 14 (nI p) = nI mk := by
    show EM e1 14 (nI p).toNatClampNeg = _
    rw [x_cl (by omega), EM_14, he1]
    exact congrArg nI hm
  have fin : ∀ v : Nat, r_X8_ticks_b280 K F (nI a) (nI y) (nI x) (nI v) (nI s) (EM e1) = K (nI (a + 1)) (nI y) (nI (x + 1)) (EM (dset e1 5 s v)) := fun v => by
    unfold r_X8_ticks_b280 r_X8_ticks_b284
    rw [x_ogT (x_inT hs16 (by omega))]
    show K (nI a + 1) (nI y) (nI x + 1) (cset (EM e1) 5 (nI s).toNatClampNeg (nI v)) = _
    rw [x_cl (by omega), EMs_5, x_l1, nI_add, nI_add]
  have b233 : ∀ t0 : Nat, (mk ≠ 0 → t0 = gp g mk) → r_X8_ticks_b233 K F (nI a) (nI y) (nI x) (nI p) (nI s) (nI t0) (EM e1) = K (nI (a + 1)) (nI y) (nI (x + 1)) (EM (dset e1 5 s (gp g mk))) := fun t0 ht0 => by
    unfold r_X8_ticks_b233
    rw [x_ogT (x_inT hp (by omega)), a14]
    by_cases h0 : mk = 0
    · subst h0
      rw [if_pos (by rfl), x_ogT (x_inT hs16 (by omega)), a5]
      by_cases h1 : g ≤ 1
      · rw [if_pos (by rw [x_l1, x_le (by omega) (by decide)]; exact h1), x_l1, fin]
        have : gp g 0 = 1 := by
          unfold gp
          rw [if_pos rfl, if_neg (by omega)]
        rw [this]
      · rw [if_neg (by rw [x_l1, x_le (by omega) (by decide)]; exact h1), x_ogT (x_inT hs16 (by omega)), x_l1, x_subN hg1, fin]
        have : gp g 0 = g - 1 := by
          unfold gp
          rw [if_pos rfl]
          split <;> omega
        rw [this]
    · rw [if_neg (by rw [x_l0, x_eq (by omega) (by decide)]; exact h0), fin, ht0 h0]
  unfold r_X8_ticks_b183
  rw [if_neg hp0, x_ogT (x_inT hp (by omega)), hst, ← he1, x_osS, x_ogT (x_inT hp (by omega)), a9, x_oiS, x_ogT (x_inT hs16 (by omega)), a5, x_l2, pk_mul]
  by_cases h16 : 16 ≤ 2 * g
  · rw [if_pos (by rw [x_l16, x_le (by decide) (by omega)]; exact h16), x_l16]
    refine b233 16 (fun h0 => ?_)
    unfold gp
    rw [if_neg h0, if_neg (by omega)]
  · rw [if_neg (by rw [x_l16, x_le (by decide) (by omega)]; exact h16), x_ogT (x_inT hs16 (by omega))]
    refine b233 (2 * g) (fun h0 => ?_)
    unfold gp
    rw [if_neg h0, if_pos (by omega)]
theorem PT.step (F : Nat) {c r a x y : Nat} {d d1 e eL eP : DS} (K : Int32 → Int32 → Int32 → CS → Option (Int32 × CS)) (hF : 1000 ≤ F) (hJ : JM c r d e) (hC : CE d d1) (hL : LV c r d d1 e eL (c * r * 5)) (h : PT c r d d1 eL eP a x) (hx : x < c * r * 5) (hs : sl c r d x ≠ 0) : ∃ eP' a', (x_og (x_in (nI x) 80) (x_oi (x_at (EM eP) 15 (nI x)) (fun x4_23 => if x4_23 < 0 then (r_X8_ticks_b183 K F (nI a) (nI y) (nI x) x4_23 (EM eP)) else (if (4 : Int32) ≤ (x_rem (nI x) (5 : Int32)) then (r_X8_ticks_b183 K F (nI a) (nI y) (nI x) x4_23 (EM eP)) else (x_ob (r_X8_neighbour F ((nI x) / (5 : Int32)) (x_rem (nI x) (5 : Int32)) (EM eP)) (fun v42 s41 => x_og (x_in x4_23 80) (x_ob (r_X8_bufferOf F v42 (x_rem (nI x) (5 : Int32)) (x_at s41 10 x4_23) s41) (fun v46 s45 => x_ob (r_X8_puts F v46 x4_23 s45) (fun _ s48 => x_og (x_in x4_23 80) (x_os (x_st s48 12 x4_23 v42) (fun s52 => x_og (x_in x4_23 80) (x_og (x_in x4_23 80) (x_os (x_st s52 13 x4_23 ((x_at s52 13 x4_23) + (1 : Int32))) (fun s55 => r_X8_ticks_b284 K F (nI a) (nI y) (nI x) s55)))))))))))))) = K (nI a') (nI y) (nI (x + 1)) (EM eP') ∧ PT c r d d1 eL eP' a' (x + 1) := by
  have hN := hJ.1.1.1.2.2.1
  have h16 := Gr16 hN
  have hM := MI.all hJ.1 hC x (by omega)
  have hP := hM.2.1 x (Nat.le_refl _) hx hs
  have hMV := hM.mv hx hs
  have s10 := sl_le hs
  have hP0 := ALLP.start hJ.1 (d1 := d) ⟨fun _ _ _ _ _ => rfl, fun _ _ => rfl, hJ.1.2.1.2⟩ x (Nat.zero_le _) hx hs
  obtain ⟨pw, po, pbw, p0, phd, pwt, pcr⟩ := hP0
  have hhead := hJ.1.head (w := x / 5) (j := sl c r d x - 1) pw (by omega) p0
  have hhd : hd d (x / 5 * 10 + (sl c r d x - 1)) = pk c r d x := rfl
  rw [hhd] at hhead
  obtain ⟨z1, z2, z3, z4, z5, z6, z7, z8⟩ := hhead
  have hsrc : x / 5 * 10 + (sl c r d x - 1) = src c r d x := rfl
  have hbl : src c r d x % 2 = (sl c r d x - 1) % 2 := by
    rw [← hsrc]
    omega
  obtain ⟨l1, l2, l3, l4, l5⟩ := hL
  obtain ⟨t1, t2, t3, t4, t5, t6⟩ := h
  obtain ⟨ji, ra, rb1, rp, rq, rl⟩ := hJ
  obtain ⟨y1, y2, y3, y4, y5, y6, y7⟩ := rp _ z1
  have hp80 : pk c r d x < 80 := by
    have := ji.1.2.2.2.2.2
    omega
  have e9 : eP 9 (pk c r d x) = d 6 (pk c r d x) := by
    rw [t1 9 (by decide) (by decide) (by decide) (by decide) (by decide), l1 9 (by decide) (by decide) (by decide) (by decide) (by decide) (by decide), y1]
  have e10 : eP 10 (pk c r d x) = src c r d x % 2 := by
    rw [t1 10 (by decide) (by decide) (by decide) (by decide) (by decide), l1 10 (by decide) (by decide) (by decide) (by decide) (by decide) (by decide), y3, hbl, z4]
  have e14 : eP 14 (pk c r d x) = d 13 (pk c r d x) := by
    rw [t1 14 (by decide) (by decide) (by decide) (by decide) (by decide), l1 14 (by decide) (by decide) (by decide) (by decide) (by decide) (by decide), y7]
  have e15 : eP 15 x = pk c r d x + 1 := by
    rw [t1 15 (by decide) (by decide) (by decide) (by decide) (by decide), l2 x hx, if_pos hx, if_neg hs]
  have hGP : GrM eP c r := by
    have e18 : eP 18 = e 18 := by rw [t1 18 (by decide) (by decide) (by decide) (by decide) (by decide), l1 18 (by decide) (by decide) (by decide) (by decide) (by decide) (by decide)]
    unfold GrM
    rw [e18]
    exact ⟨ra.1.trans ji.1.1.1, ra.2.1.trans ji.1.1.2.1, hN⟩
  have m6 : mst c r d d1 x 6 = d 6 := (hM.2.2.1 6 (by decide) (by decide) (by decide) (by decide) (by decide) (by decide) (by decide) (by decide) (by decide)).trans (hC.1 6 (by decide) (by decide) (by decide) (by decide))
  have m13 : mst c r d d1 x 13 = d 13 := (hM.2.2.1 13 (by decide) (by decide) (by decide) (by decide) (by decide) (by decide) (by decide) (by decide) (by decide)).trans (hC.1 13 (by decide) (by decide) (by decide) (by decide))
  have mnx := MI.all ji hC (x + 1) (by omega)
  obtain ⟨kk, f10, f11, f12, f14, f15, f16, f17, f18, f5, f8, f22⟩ := hMV
  by_cases h4 : x % 5 = 4
  · obtain ⟨u1, u2, u3, u4⟩ := hM.1.2.1.1 (d 6 (pk c r d x)) (by omega)
    have hk := k_out K F (p := pk c r d x) (s := d 6 (pk c r d x)) (a := a) (y := y) (x := x) (g := mst c r d d1 x 18 (d 6 (pk c r d x))) (mk := d 13 (pk c r d x)) (e := eP) hp80 e9 (by omega) (t3 _ (by omega)) u2 u3 e14 z8
    refine ⟨dset (dset eP 12 (pk c r d x) 0) 5 (d 6 (pk c r d x)) (gp (mst c r d d1 x 18 (d 6 (pk c r d x))) (d 13 (pk c r d x))), a + 1, ?_, fun k k0 k1 k2 k3 k4 => ?_, fun p hp => ?_, fun i hi => ?_, ?_, by omega, fun b hb => ?_⟩
    · have a15 : x_at (EM eP) 15 (nI x) = nI (pk c r d x) := by
        show EM eP 15 (nI x).toNatClampNeg = _
        rw [x_cl (by omega), EM_15, e15, mI_s]
      have hp0 : ¬ nI (pk c r d x) < 0 := nI_pos (by omega)
      rw [x_ogT (x_inT (by omega) (by omega)), a15, x_oiS, if_neg hp0, x_r5 (by omega), if_pos (by rw [h4]; decide)]
      exact hk
    · rw [← t1 k k0 k1 k2 k3 k4]
      funext i
      rw [dset_n _ _ _ _ k2, dset_n _ _ _ _ k3]
    · obtain ⟨g1, g2⟩ := t2 p hp
      rw [f10, f12, if_neg (show ¬ (p = pk c r d x ∧ x % 5 ≠ 4) from fun z => z.2 h4), ← g2, ← g1]
      refine ⟨?_, rfl⟩
      show dset eP 12 (pk c r d x) 0 12 p = _
      rw [dset_a]
      by_cases q : p = pk c r d x
      · rw [if_pos ⟨rfl, q⟩, if_pos q, if_pos h4]
      · rw [if_neg (fun z => q z.2), if_neg q]
    · rw [f18, m6, m13]
      show dset _ 5 (d 6 (pk c r d x)) _ 5 i = _
      rw [dset_a]
      by_cases q : i = d 6 (pk c r d x)
      · rw [if_pos ⟨rfl, q⟩, if_pos ⟨h4, q⟩]
      · rw [if_neg (fun z => q z.2), if_neg (fun z => q z.2)]
        exact t3 i hi
    · rw [f5, if_pos h4, t4]
      omega
    · rw [qa, if_neg (fun z => z.2.1 h4)]
      exact t6 b hb
  · have h44 : x % 5 < 4 := by omega
    have hnb := (pcr h44).1
    have hb1 := nb_lt (dir := x % 5) hN pw
    have hdv : dst c r d x = (nb c r (x / 5) (x % 5) - 1) * 10 + 2 * (x % 5) + src c r d x % 2 := rfl
    have hb9 : dst c r d x < 160 := by omega
    have cap : eP 1 (dst c r d x) < 3 := by
      have hfin := qv_M ji hC (c * r * 5) (Nat.le_refl _) _ hb9
      have hl1 := congrArg List.length hfin
      rw [qv_len, List.length_append] at hl1
      have hl2 := congrArg List.length (t6 _ hb9)
      rw [qv_len, List.length_append] at hl2
      have hmono := qa_mono c r d (dst c r d x) (x + 1) (c * r * 5 - (x + 1))
      rw [show x + 1 + (c * r * 5 - (x + 1)) = c * r * 5 by omega, qa, if_pos ⟨hs, h4, rfl⟩, List.length_append, List.length_singleton] at hmono
      have hMf := MI.all ji hC (c * r * 5) (Nat.le_refl _)
      have g1 := (hMf.1.2.2.2.1 _ hb9).1
      have g2 := hMf.1.1.2.2.1
      omega
    have hk := k_over K F (c := c) (r := r) (w := x / 5) (o := x % 5) (p := pk c r d x) (l := src c r d x % 2) (a := a) (y := y) (x := x) (e := eP) hF hGP pw h44 hp80 e10 (by omega) hnb cap rfl rfl e15
    refine ⟨_, a, hk, fun k k0 k1 k2 k3 k4 => ?_, fun p hp => ?_, fun i hi => ?_, ?_, by omega, fun b hb => ?_⟩
    · rw [← t1 k k0 k1 k2 k3 k4]
      funext i
      unfold ptM
      rw [dset_n _ _ _ _ k4, dset_n _ _ _ _ k3, dset_n _ _ _ _ k1, dset_n _ _ _ _ k0]
    · obtain ⟨g1, g2⟩ := t2 p hp
      obtain ⟨g3, g4⟩ := t2 _ z1
      rw [f10, f12, ← g1, ← g2, ← g4]
      refine ⟨?_, ?_⟩
      · show dset eP 12 (pk c r d x) (nb c r (x / 5) (x % 5)) 12 p = _
        rw [dset_a]
        by_cases q : p = pk c r d x
        · rw [if_pos ⟨rfl, q⟩, if_pos q, if_neg h4]
        · rw [if_neg (fun z => q z.2), if_neg q]
      · show dset eP 13 (pk c r d x) (eP 13 (pk c r d x) + 1) 13 p = _
        rw [dset_a]
        by_cases q : p = pk c r d x
        · rw [if_pos ⟨rfl, q⟩, if_pos ⟨q, h4⟩]
        · rw [if_neg (fun z => q z.2), if_neg (fun z => q z.1)]
    · rw [f18, if_neg (fun z => h4 z.1)]
      exact t3 i hi
    · rw [f5, if_neg h4]
      exact t4
    · have e1 : ∀ i, dset (dset (ptM eP (dst c r d x) (pk c r d x)) 12 (pk c r d x) (nb c r (x / 5) (x % 5))) 13 (pk c r d x) (eP 13 (pk c r d x) + 1) 1 i = if i = dst c r d x then eP 1 (dst c r d x) + 1 else eP 1 i := fun i => rfl
      have e0 : ∀ i, dset (dset (ptM eP (dst c r d x) (pk c r d x)) 12 (pk c r d x) (nb c r (x / 5) (x % 5))) 13 (pk c r d x) (eP 13 (pk c r d x) + 1) 0 i = if i = 3 * dst c r d x + eP 1 (dst c r d x) then pk c r d x else eP 0 i := fun i => rfl
      rw [qa]
      change qv (dset (dset (ptM eP (dst c r d x) (pk c r d x)) 12 (pk c r d x) (nb c r (x / 5) (x % 5))) 13 (pk c r d x) (eP 13 (pk c r d x) + 1) 0) (dset (dset (ptM eP (dst c r d x) (pk c r d x)) 12 (pk c r d x) (nb c r (x / 5) (x % 5))) 13 (pk c r d x) (eP 13 (pk c r d x) + 1) 1) b = _
      by_cases hb2 : dst c r d x = b
      · subst hb2
        rw [if_pos ⟨hs, h4, rfl⟩, ← List.append_assoc, ← t6 _ hb]
        refine qv_app (by rw [e1, if_pos rfl]) (fun j hj => ?_) (by rw [e0, if_pos rfl])
        rw [e0, if_neg (by omega)]
      · rw [if_neg (fun z => hb2 z.2.2), ← t6 _ hb]
        have hl2 := congrArg List.length (t6 _ hb)
        have hbs : eP 1 b ≤ 3 := by
          have hfin := qv_M ji hC (c * r * 5) (Nat.le_refl _) _ hb
          have hl1 := congrArg List.length hfin
          rw [qv_len, List.length_append] at hl1
          rw [qv_len, List.length_append] at hl2
          have hmono := qa_mono c r d b x (c * r * 5 - x)
          rw [show x + (c * r * 5 - x) = c * r * 5 by omega] at hmono
          have hMf := MI.all ji hC (c * r * 5) (Nat.le_refl _)
          have g1 := (hMf.1.2.2.2.1 _ hb).1
          have g2 := hMf.1.1.2.2.1
          omega
        refine qv_same (by rw [e1, if_neg (fun z => hb2 z.symm)]) (fun j hj => ?_)
        rw [e0, if_neg (by omega)]
theorem k_t102 (F : Nat) {c r : Nat} {d d1 e eL : DS} (hF : 1000 ≤ F) (hJ : JM c r d e) (hC : CE d d1) (hL : LV c r d d1 e eL (c * r * 5)) : ∀ (m n x a : Nat) (eP : DS), x + m = c * r * 5 → m + 1 ≤ n → PT c r d d1 eL eP a x → ∃ eP' a', r_X8_ticks_b102 F n (nI a) (nI (c * r * 5)) (nI x) (EM eP) = r_X8_ticks_b292 F F (nI a') (nI (c * r * 5)) (nI 0) (EM eP') ∧ PT c r d d1 eL eP' a' (c * r * 5) := by
  have h16 := Gr16 hJ.1.1.1.2.2.1
  intro m
  induction m with
  | zero =>
    intro n x a eP q1 q2 h
    obtain ⟨n, rfl⟩ : ∃ k, n = k + 1 := ⟨n - 1, by omega⟩
    obtain rfl : x = c * r * 5 := by omega
    refine ⟨eP, a, ?_, h⟩
    rw [r_X8_ticks_b102_s, if_pos (by rw [x_le (by omega) (by omega)]; omega)]
    rfl
  | succ m ih =>
    intro n x a eP q1 q2 h
    obtain ⟨n, rfl⟩ : ∃ k, n = k + 1 := ⟨n - 1, by omega⟩
    rw [r_X8_ticks_b102_s, if_neg (by rw [x_le (by omega) (by omega)]; omega)]
    by_cases hs : sl c r d x = 0
    · have a15 : x_at (EM eP) 15 (nI x) = mI 0 := by
        show EM eP 15 (nI x).toNatClampNeg = _
        rw [x_cl (by omega), EM_15, h.1 15 (by decide) (by decide) (by decide) (by decide) (by decide), hL.2.1 x (by omega), if_pos (by omega), if_pos hs]
      rw [x_ogT (x_inT (by omega) (by omega)), a15, x_oiS, if_pos (by decide)]
      unfold r_X8_ticks_b183 r_X8_ticks_b284
      rw [if_pos (by decide), x_l1, nI_add]
      refine ih n (x + 1) a eP (by omega) (by omega) ?_
      obtain ⟨t1, t2, t3, t4, t5, t6⟩ := h
      unfold PT
      rw [mst_0 hs]
      refine ⟨t1, t2, t3, t4, by omega, fun b hb => ?_⟩
      rw [qa, if_neg (fun z => z.1 hs)]
      exact t6 b hb
    · obtain ⟨eP', a', f1, f2⟩ := PT.step F (r_X8_ticks_b102 F n) (y := c * r * 5) hF hJ hC hL h (by omega) hs
      obtain ⟨e2, a2, g1, g2⟩ := ih n (x + 1) a' eP' (by omega) (by omega) f2
      exact ⟨e2, a2, f1.trans g1, g2⟩
