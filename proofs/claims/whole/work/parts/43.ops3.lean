/-! Operators by shapes: fillScan, putWithout, fillMinus -/

set_option maxHeartbeats 4000000 in
set_option maxRecDepth 100000 in
theorem ct_X2_fillScan (l : Launch) (D : va_G) (ids : Nat → ClassId) (H0 : Heap) (h : rl_H) (n : Nat) (o so a wd nd sc rc : Nat) (gp : Nat → Option Nat) (wf sf : Nat → Int32) (cf : Nat → Nat → Int32) (f0 f1 f2 f3 f4 f5 f6 f7 f8 : Int32) (ho : op_sh ids h o so gp) (ht : tb_ok ids h a wd) (hs : so_at ids h so wf sf cf sc rc) (hnd : h nd = some (.inr (1, [.int f0, .int f1, .int f2, .int f3, .int f4, .int f5, .int f6, .int f7, .int f8]))) (hoa : o + 22 ≤ a ∨ a + 402 ≤ o) (hso : so + 40 ≤ o ∨ o + 22 ≤ so) (hsa : so + 40 ≤ a ∨ a + 402 ≤ so) (hno : nd < o ∨ o + 22 ≤ nd) (hna : nd < a ∨ a + 402 ≤ nd) : rl_Met l (rl_e D ids H0) rl_BW rl_Ns yX2_fillScan cX2_fillScan 5 (some .boolean) ({ frames := 4, cells := 0, slots := 0, locals := 149 }) [.ref o, .ref nd, .ref so, .ref a] h n (fun v h' n' => ∃ x : Int32, v = some (.int x) ∧ n' = n ∧ (x = nI 0 ∨ x = nI 1) ∧ (∃ gp' : Nat → Option Nat, op_sh ids h' o so gp') ∧ tb_ok ids h' a wd ∧ rl_g2 h h' o (o + 22) a (a + 402)) := by
  refine rl_Met.of (by decide +kernel) (Nat.le_of_ble_eq_true rfl) ?_
  intro X hC hB
  have loop : ∀ (m r : Nat) (h1 : rl_H) (gp1 : Nat → Option Nat), r + m = rc → op_sh ids h1 o so gp1 → tb_ok ids h1 a wd → rl_g2 h h1 o (o + 22) a (a + 402) → rl_G X (rl_e D ids H0) 3 [some (.ref o), some (.ref nd), some (.ref so), some (.ref a), some (.int (nI r))] [] h1 n 0 0 := by
    intro m
    induction m with
    | zero =>
      intro r h1 gp1 hm ho1 ht1 hf
      obtain ⟨s1, s2, s3, s4, s5, s6, s7⟩ := hs.eqv (h' := h1) (fun q q1 q2 => hf q (by omega) (by omega))
      have o0 := ho1.1
      refine o_iload hC dX2_fillScan_3 (by rfl) ?_
      refine o_aload_n hC dX2_fillScan_5 (by rfl) ?_
      refine o_getf hC (fX2_80 hC rfl) dX2_fillScan_6 (by repeat (first | with_reducible assumption | (rw [rl_u_s]; done) | (rw [rl_u_s]; rfl) | rw [rl_u_n (by first | with_reducible assumption | omega)])) (by first | rfl | with_reducible assumption) ?_
      refine o_icmp_ge (tgt := 65) hC dX2_fillScan_9 (by decide) (fun c_9 => ?_) (fun c_9 => ?_)
      · refine o_iconst (v := nI 1) hC dX2_fillScan_65 (by decide +kernel) ?_
        refine o_zret hC hB dX2_fillScan_66 (by first | rfl | decide +kernel) (Nat.le_of_ble_eq_true rfl) (Nat.le_of_ble_eq_true rfl) ?_
        exact ⟨_, rfl, rfl, Or.inr rfl, ⟨_, ho1⟩, ht1, hf⟩
      · exact absurd (nI_le (by omega) (by omega)) c_9
    | succ m ih =>
      intro r h1 gp1 hm ho1 ht1 hf
      obtain ⟨s1, s2, s3, s4, s5, s6, s7⟩ := hs.eqv (h' := h1) (fun q q1 q2 => hf q (by omega) (by omega))
      obtain ⟨sz0, P0, S0, ht0⟩ := id ht1
      obtain ⟨o0, ⟨ds, od⟩, ⟨mf, mg, mk, om⟩, ⟨tp, o7, o7b⟩, o8, ⟨kc, o9⟩, ot⟩ := id ho1
      have n1 := (hf nd (by omega) (by omega)).trans hnd
      refine o_iload hC dX2_fillScan_3 (by rfl) ?_
      refine o_aload_n hC dX2_fillScan_5 (by rfl) ?_
      refine o_getf hC (fX2_80 hC rfl) dX2_fillScan_6 (by repeat (first | with_reducible assumption | (rw [rl_u_s]; done) | (rw [rl_u_s]; rfl) | rw [rl_u_n (by first | with_reducible assumption | omega)] | rw [p2 _ (by omega)])) (by first | rfl | with_reducible assumption) ?_
      refine o_icmp_ge (tgt := 65) hC dX2_fillScan_9 (by decide) (fun c_9 => ?_) (fun c_9 => ?_)
      · exact absurd c_9 (nI_ge (by omega) (by omega))
      · refine o_aload_n hC dX2_fillScan_12 (by rfl) ?_
        refine o_getf hC (fX2_85 hC rfl) dX2_fillScan_13 (by repeat (first | with_reducible assumption | (rw [rl_u_s]; done) | (rw [rl_u_s]; rfl) | rw [rl_u_n (by first | with_reducible assumption | omega)] | rw [p2 _ (by omega)])) (by first | rfl | with_reducible assumption) ?_
        refine o_iload hC dX2_fillScan_16 (by rfl) ?_
        refine o_ialdN (t0 := 0) hC rfl dX2_fillScan_18 (by repeat (first | with_reducible assumption | (rw [rl_u_s]; done) | (rw [rl_u_s]; rfl) | rw [rl_u_n (by first | with_reducible assumption | omega)] | rw [p2 _ (by omega)])) (by omega) (by decide) ?_
        refine o_aload_n hC dX2_fillScan_19 (by rfl) ?_
        refine o_getf hC (fX2_88 hC rfl) dX2_fillScan_20 (by repeat (first | with_reducible assumption | (rw [rl_u_s]; done) | (rw [rl_u_s]; rfl) | rw [rl_u_n (by first | with_reducible assumption | omega)] | rw [p2 _ (by omega)])) (by first | rfl | with_reducible assumption) ?_
        refine o_icmp_ne (tgt := 59) hC dX2_fillScan_23 (by decide) (fun c_23 => ?_) (fun c_23 => ?_)
        · refine o_iinc hC dX2_fillScan_59 (by rfl) (rl_inc _) (Nat.le_of_ble_eq_true rfl) ?_
          refine o_goto (tgt := 3) hC dX2_fillScan_62 (by decide) ?_
          first
          | exact ih (r + 1) _ _ (by omega) q1 q2 (hf.tr ((p2.wd (a' := o) (b' := o + 22) (by omega) (by omega)).g1.tr (q3.wd (by omega) (by omega) (Nat.le_refl _) (Nat.le_refl _))))
          | exact ih (r + 1) _ _ (by omega) ho1 ht1 hf
        · refine o_aload_n hC dX2_fillScan_26 (by rfl) ?_
          refine o_getf hC (fX2_21 hC rfl) dX2_fillScan_27 (by repeat (first | with_reducible assumption | (rw [rl_u_s]; done) | (rw [rl_u_s]; rfl) | rw [rl_u_n (by first | with_reducible assumption | omega)] | rw [p2 _ (by omega)])) (by first | rfl | with_reducible assumption) ?_
          refine o_lconst (v := 1) hC dX2_fillScan_30 (by decide +kernel) ?_
          refine o_iload hC dX2_fillScan_31 (by rfl) ?_
          refine o_lshl hC dX2_fillScan_33 ?_
          refine o_lconst (v := 0) hC dX2_fillScan_34 (by decide +kernel) ?_
          refine o_callV2 hC rl_BW_good rl_Ns_nw (by exact hB.2.2.2.2.2) YX6_becomeTerm IX6_becomeTerm VX6_becomeTerm (mX2_91 hC) (by rw [hB.1]; exact ct_X6_becomeTerm l D ids H0 _ _ (o + 4) _ _ _ _ _ om) (by exact om.1) rfl rfl (Nat.le_of_ble_eq_true rfl) (by rw [hB.2.1]; first | exact Nat.le_of_ble_eq_true rfl | (dsimp only; omega)) (by rw [hB.2.1]; first | exact Nat.le_of_ble_eq_true rfl | (dsimp only; omega)) (by rw [hB.2.1]; first | exact Nat.le_of_ble_eq_true rfl | (dsimp only; omega)) (by rw [hB.2.1]; first | exact Nat.le_of_ble_eq_true rfl | (dsimp only; omega)) dX2_fillScan_35 (fun v h_35 n_35 p_35 => ?_)
          obtain ⟨rfl, rfl, p1, p2⟩ := p_35
          have ho2 : op_sh ids h_35 o so gp1 := ho1.mk (ho1.2.1.eqv (fun q q1 q2 => p2 q (by omega))) ⟨_, _, _, p1⟩ (fun q q1 q2 q3 => p2 q (by omega))
          have ht2 := ht0.kept p2 (by omega)
          have e2 : h_35 (so + 4 + r) = some (.inl (ids 0, 6, .inl (cf r))) := by rw [p2 _ (by omega)]; exact s5 r (by omega)
          try dsimp only [Option.toList, List.cons_append, List.nil_append]
          refine o_aload_n hC dX2_fillScan_38 (by rfl) ?_
          refine o_aload_n hC dX2_fillScan_39 (by rfl) ?_
          refine o_aload_n hC dX2_fillScan_40 (by rfl) ?_
          refine o_getf hC (fX2_95 hC rfl) dX2_fillScan_41 (by repeat (first | with_reducible assumption | (rw [rl_u_s]; done) | (rw [rl_u_s]; rfl) | rw [rl_u_n (by first | with_reducible assumption | omega)] | rw [p2 _ (by omega)])) (by first | rfl | with_reducible assumption) ?_
          refine o_iload hC dX2_fillScan_44 (by rfl) ?_
          refine o_aaldA (t0 := 7) hC rfl dX2_fillScan_46 (by repeat (first | with_reducible assumption | (rw [rl_u_s]; done) | (rw [rl_u_s]; rfl) | rw [rl_u_n (by first | with_reducible assumption | omega)] | rw [p2 _ (by omega)])) (by omega) (by decide) ?_
          rw [if_pos (by omega)]
          show rl_G X _ _ _ (.ref _ :: _) _ _ _ _
          refine o_aload_n hC dX2_fillScan_47 (by rfl) ?_
          refine o_getf hC (fX2_21 hC rfl) dX2_fillScan_48 (by repeat (first | with_reducible assumption | (rw [rl_u_s]; done) | (rw [rl_u_s]; rfl) | rw [rl_u_n (by first | with_reducible assumption | omega)] | rw [p2 _ (by omega)])) (by first | rfl | with_reducible assumption) ?_
          refine o_callV3 hC rl_BW_good rl_Ns_nw (by exact hB.2.2.2.2.2) YX2_put IX2_put VX2_put (mX2_99 hC) (by rw [hB.1]; exact ct_X2_put l D ids H0 _ _ o so a (o + 4) (so + 4 + r) sz0 wd _ _ P0 S0 _ _ _ ho2 ht2 e2 p1 (by omega) (by omega) (by omega) (by omega)) (by exact ho2.1) rfl rfl (Nat.le_of_ble_eq_true rfl) (by rw [hB.2.1]; first | exact Nat.le_of_ble_eq_true rfl | (dsimp only; omega)) (by rw [hB.2.1]; first | exact Nat.le_of_ble_eq_true rfl | (dsimp only; omega)) (by rw [hB.2.1]; first | exact Nat.le_of_ble_eq_true rfl | (dsimp only; omega)) (by rw [hB.2.1]; first | exact Nat.le_of_ble_eq_true rfl | (dsimp only; omega)) dX2_fillScan_51 (fun v h_51 n_51 p_51 => ?_)
          obtain ⟨x, rfl, rfl, q0, q1, q2, q3⟩ := p_51
          try dsimp only [Option.toList, List.cons_append, List.nil_append]
          refine o_if_ne (tgt := 59) hC dX2_fillScan_54 (by decide) (fun c_54 => ?_) (fun c_54 => ?_)
          · refine o_iinc hC dX2_fillScan_59 (by rfl) (rl_inc _) (Nat.le_of_ble_eq_true rfl) ?_
            refine o_goto (tgt := 3) hC dX2_fillScan_62 (by decide) ?_
            first
            | exact ih (r + 1) _ _ (by omega) q1 q2 (hf.tr ((p2.wd (a' := o) (b' := o + 22) (by omega) (by omega)).g1.tr (q3.wd (by omega) (by omega) (Nat.le_refl _) (Nat.le_refl _))))
            | exact ih (r + 1) _ _ (by omega) ho1 ht1 hf
          · refine o_iconst (v := nI 0) hC dX2_fillScan_57 (by decide +kernel) ?_
            refine o_zret hC hB dX2_fillScan_58 (by first | rfl | decide +kernel) (Nat.le_of_ble_eq_true rfl) (Nat.le_of_ble_eq_true rfl) ?_
            exact ⟨_, rfl, rfl, Or.inl rfl, ⟨_, q1⟩, q2, hf.tr ((p2.wd (a' := o) (b' := o + 22) (by omega) (by omega)).g1.tr (q3.wd (by omega) (by omega) (Nat.le_refl _) (Nat.le_refl _)))⟩
  show rl_G X (rl_e D ids H0) 0 [some (.ref o), some (.ref nd), some (.ref so), some (.ref a), none] [] h n 0 0
  refine o_iconst (v := nI 0) hC dX2_fillScan_0 (by decide +kernel) ?_
  refine o_istore hC dX2_fillScan_1 (Nat.le_of_ble_eq_true rfl) ?_
  exact loop rc 0 h gp (by omega) ho ht rl_g2.rf

set_option maxHeartbeats 4000000 in
set_option maxRecDepth 100000 in
theorem ct_X2_putWithout (l : Launch) (D : va_G) (ids : Nat → ClassId) (H0 : Heap) (h : rl_H) (n : Nat) (o so a wd tu tk uk kk : Nat) (gp : Nat → Option Nat) (uc kc2 : Nat → Int32) (uf ug kf kg : Nat → Int64) (ho : op_sh ids h o so gp) (ht : tb_ok ids h a wd) (hu : tp_at ids h tu uc uf ug uk) (hk : tp_at ids h tk kc2 kf kg kk) (hoa : o + 22 ≤ a ∨ a + 402 ≤ o) (huo : tu + 5 ≤ o ∨ o + 22 ≤ tu) (hua : tu + 5 ≤ a ∨ a + 402 ≤ tu) (hko : tk + 5 ≤ o ∨ o + 22 ≤ tk) (hka : tk + 5 ≤ a ∨ a + 402 ≤ tk) : rl_Met l (rl_e D ids H0) rl_BW rl_Ns yX2_putWithout cX2_putWithout 4 (some .boolean) ({ frames := 4, cells := 0, slots := 0, locals := 149 }) [.ref o, .ref tu, .ref tk, .ref a] h n (fun v h' n' => ∃ x : Int32, v = some (.int x) ∧ n' = n ∧ (x = nI 0 ∨ x = nI 1) ∧ (∃ gp' : Nat → Option Nat, op_sh ids h' o so gp') ∧ tb_ok ids h' a wd ∧ rl_g2 h h' o (o + 22) a (a + 402)) := by
  obtain ⟨o0, ⟨ds, od⟩, ⟨mf, mg, mk, om⟩, ⟨tp, o7, o7b⟩, o8, ⟨kc, o9⟩, ot⟩ := id ho
  obtain ⟨sz0, P0, S0, ht0⟩ := id ht
  obtain ⟨w1, w2, w3⟩ := id hu
  obtain ⟨w4, w5, w6⟩ := id hk
  refine rl_Met.of (by decide +kernel) (Nat.le_of_ble_eq_true rfl) ?_
  intro X hC hB
  show rl_G X (rl_e D ids H0) 0 [some (.ref o), some (.ref tu), some (.ref tk), some (.ref a)] [] h n 0 0
  refine o_aload_n hC dX2_putWithout_0 (by rfl) ?_
  refine o_getf hC (fX2_12 hC rfl) dX2_putWithout_1 (by repeat (first | with_reducible assumption | (rw [rl_u_s]; done) | (rw [rl_u_s]; rfl) | rw [rl_u_n (by first | with_reducible assumption | omega)])) (by first | rfl | with_reducible assumption) ?_
  refine o_aload_n hC dX2_putWithout_4 (by rfl) ?_
  refine o_getf hC (fX2_116 hC rfl) dX2_putWithout_5 (by repeat (first | with_reducible assumption | (rw [rl_u_s]; done) | (rw [rl_u_s]; rfl) | rw [rl_u_n (by first | with_reducible assumption | omega)])) (by first | rfl | with_reducible assumption) ?_
  refine o_aload_n hC dX2_putWithout_8 (by rfl) ?_
  refine o_getf hC (fX2_21 hC rfl) dX2_putWithout_9 (by repeat (first | with_reducible assumption | (rw [rl_u_s]; done) | (rw [rl_u_s]; rfl) | rw [rl_u_n (by first | with_reducible assumption | omega)])) (by first | rfl | with_reducible assumption) ?_
  refine o_callV2 hC rl_BW_good rl_Ns_nw (by exact hB.2.2.2.2.2) YX0_not IX0_not VX0_not (mX2_151 hC) (by rw [hB.1]; exact ct_X0_not l D ids H0 _ _ (o + 1) (tk + 2) (o + 4) _ _ ds _ _ mf mg od hk.2.2 om (by omega) (by omega) (by omega)) (by exact od.1) rfl rfl (Nat.le_of_ble_eq_true rfl) (by rw [hB.2.1]; first | exact Nat.le_of_ble_eq_true rfl | (dsimp only; omega)) (by rw [hB.2.1]; first | exact Nat.le_of_ble_eq_true rfl | (dsimp only; omega)) (by rw [hB.2.1]; first | exact Nat.le_of_ble_eq_true rfl | (dsimp only; omega)) (by rw [hB.2.1]; first | exact Nat.le_of_ble_eq_true rfl | (dsimp only; omega)) dX2_putWithout_12 (fun v h_12 n_12 p_12 => ?_)
  obtain ⟨x1, rfl, rfl, -, r1, r2, r3⟩ := p_12
  have ho2 : op_sh ids h_12 o so gp := ho.mk ⟨_, r1⟩ ⟨_, _, _, r2⟩ (fun q q1 q2 q3 => r3 q (by omega) (by omega))
  have u2 : tp_at ids h_12 tu uc uf ug uk := hu.eqv (fun q q1 q2 => r3 q (by omega) (by omega))
  obtain ⟨v1, v2, v3⟩ := id u2
  have o2 := ho2.1
  try dsimp only [Option.toList, List.cons_append, List.nil_append]
  refine o_if_eq (tgt := 60) hC dX2_putWithout_15 (by decide) (fun c_15 => ?_) (fun c_15 => ?_)
  · refine o_iconst (v := nI 0) hC dX2_putWithout_60 (by decide +kernel) ?_
    refine o_zret hC hB dX2_putWithout_61 (by first | rfl | decide +kernel) (Nat.le_of_ble_eq_true rfl) (Nat.le_of_ble_eq_true rfl) ?_
    first
    | exact ⟨_, rfl, rfl, (by first | exact Or.inl rfl | exact Or.inr rfl), ⟨_, q1⟩, q2, fun q z1 z2 => (q3 q (by omega) (by omega)).trans ((s2 q (by omega) (by omega)).trans (r3 q (by omega) (by omega)))⟩
    | exact ⟨_, rfl, rfl, Or.inl rfl, ⟨_, ho3⟩, ⟨_, _, _, ht3⟩, fun q z1 z2 => (s2 q (by omega) (by omega)).trans (r3 q (by omega) (by omega))⟩
    | exact ⟨_, rfl, rfl, Or.inl rfl, ⟨_, ho2⟩, ht.eqv (fun q z1 z2 => r3 q (by omega) (by omega)), fun q z1 z2 => r3 q (by omega) (by omega)⟩
  · refine o_aload_n hC dX2_putWithout_18 (by rfl) ?_
    refine o_getf hC (fX2_12 hC rfl) dX2_putWithout_19 (by repeat (first | with_reducible assumption | (rw [rl_u_s]; done) | (rw [rl_u_s]; rfl) | rw [rl_u_n (by first | with_reducible assumption | omega)])) (by first | rfl | with_reducible assumption) ?_
    refine o_aload_n hC dX2_putWithout_22 (by rfl) ?_
    refine o_getf hC (fX2_116 hC rfl) dX2_putWithout_23 (by repeat (first | with_reducible assumption | (rw [rl_u_s]; done) | (rw [rl_u_s]; rfl) | rw [rl_u_n (by first | with_reducible assumption | omega)])) (by first | rfl | with_reducible assumption) ?_
    refine o_aload_n hC dX2_putWithout_26 (by rfl) ?_
    refine o_getf hC (fX2_21 hC rfl) dX2_putWithout_27 (by repeat (first | with_reducible assumption | (rw [rl_u_s]; done) | (rw [rl_u_s]; rfl) | rw [rl_u_n (by first | with_reducible assumption | omega)])) (by first | rfl | with_reducible assumption) ?_
    refine o_aload_n hC dX2_putWithout_30 (by rfl) ?_
    refine o_getf hC (fX2_21 hC rfl) dX2_putWithout_31 (by repeat (first | with_reducible assumption | (rw [rl_u_s]; done) | (rw [rl_u_s]; rfl) | rw [rl_u_n (by first | with_reducible assumption | omega)])) (by first | rfl | with_reducible assumption) ?_
    refine o_callV3 hC rl_BW_good rl_Ns_nw (by exact hB.2.2.2.2.2) YX0_both IX0_both VX0_both (mX2_139 hC) (by rw [hB.1]; exact ct_X0_both l D ids H0 _ _ (o + 1) (tu + 2) (o + 4) (o + 4) _ _ _ _ _ _ _ _ _ _ r1 v3 r2 r2 (by omega) (by omega) (by omega)) (by exact r1.1) rfl rfl (Nat.le_of_ble_eq_true rfl) (by rw [hB.2.1]; first | exact Nat.le_of_ble_eq_true rfl | (dsimp only; omega)) (by rw [hB.2.1]; first | exact Nat.le_of_ble_eq_true rfl | (dsimp only; omega)) (by rw [hB.2.1]; first | exact Nat.le_of_ble_eq_true rfl | (dsimp only; omega)) (by rw [hB.2.1]; first | exact Nat.le_of_ble_eq_true rfl | (dsimp only; omega)) dX2_putWithout_34 (fun v h_34 n_34 p_34 => ?_)
    obtain ⟨x2, rfl, rfl, s1⟩ := p_34
    have s2 := s1.f2
    have s3 := s1.ws r2 (by omega)
    have ho3 : op_sh ids h_34 o so gp := ho2.mk ⟨_, s1.1⟩ s3 (fun q q1 q2 q3 => s2 q (by omega) (by omega))
    have u3 : tp_at ids h_34 tu uc uf ug uk := u2.eqv (fun q q1 q2 => s2 q (by omega) (by omega))
    obtain ⟨v4, v5, v6⟩ := id u3
    obtain ⟨mf3, mg3, mk3, s4⟩ := s3
    have ht3 : tb_at ids h_34 a sz0 wd P0 S0 := ht0.eqv (fun q q1 q2 => (s2 q (by omega) (by omega)).trans (r3 q (by omega) (by omega)))
    have o3 := ho3.1
    try dsimp only [Option.toList, List.cons_append, List.nil_append]
    refine o_if_eq (tgt := 60) hC dX2_putWithout_37 (by decide) (fun c_37 => ?_) (fun c_37 => ?_)
    · refine o_iconst (v := nI 0) hC dX2_putWithout_60 (by decide +kernel) ?_
      refine o_zret hC hB dX2_putWithout_61 (by first | rfl | decide +kernel) (Nat.le_of_ble_eq_true rfl) (Nat.le_of_ble_eq_true rfl) ?_
      first
      | exact ⟨_, rfl, rfl, (by first | exact Or.inl rfl | exact Or.inr rfl), ⟨_, q1⟩, q2, fun q z1 z2 => (q3 q (by omega) (by omega)).trans ((s2 q (by omega) (by omega)).trans (r3 q (by omega) (by omega)))⟩
      | exact ⟨_, rfl, rfl, Or.inl rfl, ⟨_, ho3⟩, ⟨_, _, _, ht3⟩, fun q z1 z2 => (s2 q (by omega) (by omega)).trans (r3 q (by omega) (by omega))⟩
      | exact ⟨_, rfl, rfl, Or.inl rfl, ⟨_, ho2⟩, ht.eqv (fun q z1 z2 => r3 q (by omega) (by omega)), fun q z1 z2 => r3 q (by omega) (by omega)⟩
    · refine o_aload_n hC dX2_putWithout_40 (by rfl) ?_
      refine o_aload_n hC dX2_putWithout_41 (by rfl) ?_
      refine o_aload_n hC dX2_putWithout_42 (by rfl) ?_
      refine o_getf hC (fX2_109 hC rfl) dX2_putWithout_43 (by repeat (first | with_reducible assumption | (rw [rl_u_s]; done) | (rw [rl_u_s]; rfl) | rw [rl_u_n (by first | with_reducible assumption | omega)])) (by first | rfl | with_reducible assumption) ?_
      refine o_aload_n hC dX2_putWithout_46 (by rfl) ?_
      refine o_getf hC (fX2_21 hC rfl) dX2_putWithout_47 (by repeat (first | with_reducible assumption | (rw [rl_u_s]; done) | (rw [rl_u_s]; rfl) | rw [rl_u_n (by first | with_reducible assumption | omega)])) (by first | rfl | with_reducible assumption) ?_
      refine o_callV3 hC rl_BW_good rl_Ns_nw (by exact hB.2.2.2.2.2) YX2_put IX2_put VX2_put (mX2_99 hC) (by rw [hB.1]; exact ct_X2_put l D ids H0 _ _ o so a (o + 4) (tu + 1) sz0 wd _ _ P0 S0 _ _ _ ho3 ht3 v5 s4 (by omega) (by omega) (by omega) (by omega)) (by exact ho3.1) rfl rfl (Nat.le_of_ble_eq_true rfl) (by rw [hB.2.1]; first | exact Nat.le_of_ble_eq_true rfl | (dsimp only; omega)) (by rw [hB.2.1]; first | exact Nat.le_of_ble_eq_true rfl | (dsimp only; omega)) (by rw [hB.2.1]; first | exact Nat.le_of_ble_eq_true rfl | (dsimp only; omega)) (by rw [hB.2.1]; first | exact Nat.le_of_ble_eq_true rfl | (dsimp only; omega)) dX2_putWithout_50 (fun v h_50 n_50 p_50 => ?_)
      obtain ⟨x, rfl, rfl, q0, q1, q2, q3⟩ := p_50
      try dsimp only [Option.toList, List.cons_append, List.nil_append]
      refine o_if_eq (tgt := 60) hC dX2_putWithout_53 (by decide) (fun c_53 => ?_) (fun c_53 => ?_)
      · refine o_iconst (v := nI 0) hC dX2_putWithout_60 (by decide +kernel) ?_
        refine o_zret hC hB dX2_putWithout_61 (by first | rfl | decide +kernel) (Nat.le_of_ble_eq_true rfl) (Nat.le_of_ble_eq_true rfl) ?_
        first
        | exact ⟨_, rfl, rfl, (by first | exact Or.inl rfl | exact Or.inr rfl), ⟨_, q1⟩, q2, fun q z1 z2 => (q3 q (by omega) (by omega)).trans ((s2 q (by omega) (by omega)).trans (r3 q (by omega) (by omega)))⟩
        | exact ⟨_, rfl, rfl, Or.inl rfl, ⟨_, ho3⟩, ⟨_, _, _, ht3⟩, fun q z1 z2 => (s2 q (by omega) (by omega)).trans (r3 q (by omega) (by omega))⟩
        | exact ⟨_, rfl, rfl, Or.inl rfl, ⟨_, ho2⟩, ht.eqv (fun q z1 z2 => r3 q (by omega) (by omega)), fun q z1 z2 => r3 q (by omega) (by omega)⟩
      · refine o_iconst (v := nI 1) hC dX2_putWithout_56 (by decide +kernel) ?_
        refine o_goto (tgt := 61) hC dX2_putWithout_57 (by decide) ?_
        refine o_zret hC hB dX2_putWithout_61 (by first | rfl | decide +kernel) (Nat.le_of_ble_eq_true rfl) (Nat.le_of_ble_eq_true rfl) ?_
        first
        | exact ⟨_, rfl, rfl, (by first | exact Or.inl rfl | exact Or.inr rfl), ⟨_, q1⟩, q2, fun q z1 z2 => (q3 q (by omega) (by omega)).trans ((s2 q (by omega) (by omega)).trans (r3 q (by omega) (by omega)))⟩
        | exact ⟨_, rfl, rfl, Or.inl rfl, ⟨_, ho3⟩, ⟨_, _, _, ht3⟩, fun q z1 z2 => (s2 q (by omega) (by omega)).trans (r3 q (by omega) (by omega))⟩
        | exact ⟨_, rfl, rfl, Or.inl rfl, ⟨_, ho2⟩, ht.eqv (fun q z1 z2 => r3 q (by omega) (by omega)), fun q z1 z2 => r3 q (by omega) (by omega)⟩

set_option maxHeartbeats 4000000 in
set_option maxRecDepth 100000 in
theorem ct_X2_fillMinus (l : Launch) (D : va_G) (ids : Nat → ClassId) (H0 : Heap) (h : rl_H) (n : Nat) (o so a a1 sz1 wd wd1 : Nat) (gp : Nat → Option Nat) (P1 : Nat → Nat) (S1 : tb_S) (a2 sz2 wd2 : Nat) (P2 : Nat → Nat) (S2 : tb_S) (ho : op_sh ids h o so gp) (ht : tb_ok ids h a wd) (hi : tb_at ids h a1 sz1 wd1 P1 S1) (hoa : o + 22 ≤ a ∨ a + 402 ≤ o) (hoi : o + 22 ≤ a1 ∨ a1 + 402 ≤ o) (hia : a1 + 402 ≤ a ∨ a + 402 ≤ a1) (hj : tb_at ids h a2 sz2 wd2 P2 S2) (hoj : o + 22 ≤ a2 ∨ a2 + 402 ≤ o) (hja : a2 + 402 ≤ a ∨ a + 402 ≤ a2) : rl_Met l (rl_e D ids H0) rl_BW rl_Ns yX2_fillMinus cX2_fillMinus 8 (some .boolean) ({ frames := 5, cells := 0, slots := 0, locals := 172 }) [.ref o, .ref a1, .ref a2, .ref a] h n (fun v h' n' => ∃ x : Int32, v = some (.int x) ∧ n' = n ∧ (x = nI 0 ∨ x = nI 1) ∧ (∃ gp' : Nat → Option Nat, op_sh ids h' o so gp') ∧ tb_ok ids h' a wd ∧ rl_g2 h h' o (o + 22) a (a + 402)) := by
  refine rl_Met.of (by decide +kernel) (Nat.le_of_ble_eq_true rfl) ?_
  intro X hC hB
  have loop : ∀ (m t : Nat) (o5 o6 o7 : Option Value) (h1 : rl_H) (gp1 : Nat → Option Nat), t + m = sz1 → op_sh ids h1 o so gp1 → tb_ok ids h1 a wd → rl_g2 h h1 o (o + 22) a (a + 402) → rl_G X (rl_e D ids H0) 3 [some (.ref o), some (.ref a1), some (.ref a2), some (.ref a), some (.int (nI t)), o5, o6, o7] [] h1 n 0 0 := by
    intro m
    induction m with
    | zero =>
      intro t o5 o6 o7 h1 gp1 hm ho1 ht1 hf
      obtain ⟨t1, ⟨tf, t2, t3⟩, t4, t5, t6, t7⟩ := hi.eqv (h' := h1) (fun q q1 q2 => hf q (by omega) (by omega))
      refine o_iload hC dX2_fillMinus_3 (by rfl) ?_
      refine o_aload_n hC dX2_fillMinus_5 (by rfl) ?_
      refine o_getf hC (fX2_103 hC rfl) dX2_fillMinus_6 (by repeat (first | with_reducible assumption | (rw [rl_u_s]; done) | (rw [rl_u_s]; rfl) | rw [rl_u_n (by first | with_reducible assumption | omega)])) (by first | rfl | with_reducible assumption) ?_
      refine o_icmp_ge (tgt := 79) hC dX2_fillMinus_9 (by decide) (fun c_9 => ?_) (fun c_9 => ?_)
      · refine o_iconst (v := nI 1) hC dX2_fillMinus_79 (by decide +kernel) ?_
        refine o_zret hC hB dX2_fillMinus_80 (by first | rfl | decide +kernel) (Nat.le_of_ble_eq_true rfl) (Nat.le_of_ble_eq_true rfl) ?_
        exact ⟨_, rfl, rfl, Or.inr rfl, ⟨_, ho1⟩, ht1, hf⟩
      · exact absurd (nI_le (by omega) (by omega)) c_9
    | succ m ih =>
      intro t o5 o6 o7 h1 gp1 hm ho1 ht1 hf
      obtain ⟨t1, ⟨tf, t2, t3⟩, t4, t5, t6, t7⟩ := hi.eqv (h' := h1) (fun q q1 q2 => hf q (by omega) (by omega))
      have hj1 := hj.eqv (h' := h1) (fun q q1 q2 => hf q (by omega) (by omega))
      obtain ⟨sz0, P0, S0, ht0⟩ := id ht1
      have hb := t4 t (by omega)
      have e0 := t5 (P1 t) hb
      obtain ⟨e1, e2, e3⟩ := id e0
      refine o_iload hC dX2_fillMinus_3 (by rfl) ?_
      refine o_aload_n hC dX2_fillMinus_5 (by rfl) ?_
      refine o_getf hC (fX2_103 hC rfl) dX2_fillMinus_6 (by repeat (first | with_reducible assumption | (rw [rl_u_s]; done) | (rw [rl_u_s]; rfl) | rw [rl_u_n (by first | with_reducible assumption | omega)])) (by first | rfl | with_reducible assumption) ?_
      refine o_icmp_ge (tgt := 79) hC dX2_fillMinus_9 (by decide) (fun c_9 => ?_) (fun c_9 => ?_)
      · exact absurd c_9 (nI_ge (by omega) (by omega))
      · refine o_aload_n hC dX2_fillMinus_12 (by rfl) ?_
        refine o_getf hC (fX2_106 hC rfl) dX2_fillMinus_13 (by repeat (first | with_reducible assumption | (rw [rl_u_s]; done) | (rw [rl_u_s]; rfl) | rw [rl_u_n (by first | with_reducible assumption | omega)])) (by first | rfl | with_reducible assumption) ?_
        refine o_iload hC dX2_fillMinus_16 (by rfl) ?_
        refine o_aaldN (t0 := 3) hC rfl dX2_fillMinus_18 (by repeat (first | with_reducible assumption | (rw [rl_u_s]; done) | (rw [rl_u_s]; rfl) | rw [rl_u_n (by first | with_reducible assumption | omega)])) (by omega) (by decide) ?_
        rw [t3 _ (by omega)]
        show rl_G X _ _ _ (.ref _ :: _) _ _ _ _
        refine o_astore hC dX2_fillMinus_19 (Nat.le_of_ble_eq_true rfl) ?_
        refine o_aload_n hC dX2_fillMinus_21 (by rfl) ?_
        refine o_aload hC dX2_fillMinus_22 (by rfl) ?_
        refine o_getf hC (fX2_109 hC rfl) dX2_fillMinus_24 (by repeat (first | with_reducible assumption | (rw [rl_u_s]; done) | (rw [rl_u_s]; rfl) | rw [rl_u_n (by first | with_reducible assumption | omega)])) (by first | rfl | with_reducible assumption) ?_
        refine o_callV1 hC rl_BW_good rl_Ns_nw (by exact hB.2.2.2.2.2) YX4_find IX4_find VX4_find (mX2_143 hC) (by rw [hB.1]; exact ct_X4_find l D ids H0 _ _ a2 sz2 wd2 (a1 + 2 + 5 * P1 t + 1) P2 S2 _ hj1 e2) (by exact hj1.1) rfl rfl (Nat.le_of_ble_eq_true rfl) (by rw [hB.2.1]; first | exact Nat.le_of_ble_eq_true rfl | (dsimp only; omega)) (by rw [hB.2.1]; first | exact Nat.le_of_ble_eq_true rfl | (dsimp only; omega)) (by rw [hB.2.1]; first | exact Nat.le_of_ble_eq_true rfl | (dsimp only; omega)) (by rw [hB.2.1]; first | exact Nat.le_of_ble_eq_true rfl | (dsimp only; omega)) dX2_fillMinus_27 (fun v h_27 n_27 p_27 => ?_)
        obtain ⟨e9, rfl, rfl⟩ := p_27
        try dsimp only [Option.toList, List.cons_append, List.nil_append]
        split at e9
        · obtain ⟨i2, hi2, rfl⟩ : ∃ i2 : Nat, i2 < 80 ∧ v = some (.ref (a2 + 2 + 5 * i2)) := ⟨_, hj1.2.2.1 _ (by have := tb_fb_le (tb_o S2 P2 (S1.1 (P1 t)) wd2) sz2; have := hj1.2.2.2.2.1; omega), e9⟩
          try dsimp only [Option.toList, List.cons_append, List.nil_append]
          refine o_astore hC dX2_fillMinus_30 (Nat.le_of_ble_eq_true rfl) ?_
          refine o_aload hC dX2_fillMinus_32 (by rfl) ?_
          refine o_ifnonnull (tgt := 55) hC dX2_fillMinus_34 (by decide) ?_
          refine o_aload_n hC dX2_fillMinus_55 (by rfl) ?_
          refine o_aload hC dX2_fillMinus_56 (by rfl) ?_
          refine o_aload hC dX2_fillMinus_58 (by rfl) ?_
          refine o_aload_n hC dX2_fillMinus_60 (by rfl) ?_
          refine o_callV3 hC rl_BW_good rl_Ns_nw (by exact hB.2.2.2.2.2) YX2_putWithout IX2_putWithout VX2_putWithout (mX2_147 hC) (by rw [hB.1]; exact ct_X2_putWithout l D ids H0 _ _ o so a wd (a1 + 2 + 5 * P1 t) (a2 + 2 + 5 * i2) _ _ _ _ _ _ _ _ _ ho1 ht1 e0 (hj1.2.2.2.1 i2 hi2) (by omega) (by omega) (by omega) (by omega) (by omega)) (by exact ho1.1) rfl rfl (Nat.le_of_ble_eq_true rfl) (by rw [hB.2.1]; first | exact Nat.le_of_ble_eq_true rfl | (dsimp only; omega)) (by rw [hB.2.1]; first | exact Nat.le_of_ble_eq_true rfl | (dsimp only; omega)) (by rw [hB.2.1]; first | exact Nat.le_of_ble_eq_true rfl | (dsimp only; omega)) (by rw [hB.2.1]; first | exact Nat.le_of_ble_eq_true rfl | (dsimp only; omega)) dX2_fillMinus_61 (fun v h_61 n_61 p_61 => ?_)
          obtain ⟨x, rfl, rfl, q0, ⟨gp2, q1⟩, q2, q3⟩ := p_61
          try dsimp only [Option.toList, List.cons_append, List.nil_append]
          refine o_istore hC dX2_fillMinus_64 (Nat.le_of_ble_eq_true rfl) ?_
          refine o_iload hC dX2_fillMinus_66 (by rfl) ?_
          refine o_if_ne (tgt := 73) hC dX2_fillMinus_68 (by decide) (fun c_68 => ?_) (fun c_68 => ?_)
          · refine o_iinc hC dX2_fillMinus_73 (by rfl) (rl_inc _) (Nat.le_of_ble_eq_true rfl) ?_
            refine o_goto (tgt := 3) hC dX2_fillMinus_76 (by decide) ?_
            exact ih (t + 1) _ _ _ _ _ (by omega) q1 q2 (hf.tr (q3.wd (by omega) (by omega) (Nat.le_refl _) (Nat.le_refl _)))
          · refine o_iconst (v := nI 0) hC dX2_fillMinus_71 (by decide +kernel) ?_
            refine o_zret hC hB dX2_fillMinus_72 (by first | rfl | decide +kernel) (Nat.le_of_ble_eq_true rfl) (Nat.le_of_ble_eq_true rfl) ?_
            exact ⟨_, rfl, rfl, Or.inl rfl, ⟨_, q1⟩, q2, hf.tr (q3.wd (by omega) (by omega) (Nat.le_refl _) (Nat.le_refl _))⟩
        · obtain rfl : v = some .null := e9
          try dsimp only [Option.toList, List.cons_append, List.nil_append]
          refine o_astoreN hC dX2_fillMinus_30 (Nat.le_of_ble_eq_true rfl) ?_
          refine o_aloadN hC dX2_fillMinus_32 (by rfl) ?_
          refine o_ifnonnullN hC dX2_fillMinus_34 ?_
          refine o_aload_n hC dX2_fillMinus_37 (by rfl) ?_
          refine o_aload_n hC dX2_fillMinus_38 (by rfl) ?_
          refine o_aload hC dX2_fillMinus_39 (by rfl) ?_
          refine o_getf hC (fX2_109 hC rfl) dX2_fillMinus_41 (by repeat (first | with_reducible assumption | (rw [rl_u_s]; done) | (rw [rl_u_s]; rfl) | rw [rl_u_n (by first | with_reducible assumption | omega)])) (by first | rfl | with_reducible assumption) ?_
          refine o_aload hC dX2_fillMinus_44 (by rfl) ?_
          refine o_getf hC (fX2_116 hC rfl) dX2_fillMinus_46 (by repeat (first | with_reducible assumption | (rw [rl_u_s]; done) | (rw [rl_u_s]; rfl) | rw [rl_u_n (by first | with_reducible assumption | omega)])) (by first | rfl | with_reducible assumption) ?_
          refine o_callV3 hC rl_BW_good rl_Ns_nw (by exact hB.2.2.2.2.2) YX2_put IX2_put VX2_put (mX2_99 hC) (by rw [hB.1]; exact ct_X2_put l D ids H0 _ _ o so a (a1 + 2 + 5 * P1 t + 2) (a1 + 2 + 5 * P1 t + 1) sz0 wd _ _ P0 S0 _ _ _ ho1 ht0 e2 e3 (by omega) (by omega) (by omega) (by omega)) (by exact ho1.1) rfl rfl (Nat.le_of_ble_eq_true rfl) (by rw [hB.2.1]; first | exact Nat.le_of_ble_eq_true rfl | (dsimp only; omega)) (by rw [hB.2.1]; first | exact Nat.le_of_ble_eq_true rfl | (dsimp only; omega)) (by rw [hB.2.1]; first | exact Nat.le_of_ble_eq_true rfl | (dsimp only; omega)) (by rw [hB.2.1]; first | exact Nat.le_of_ble_eq_true rfl | (dsimp only; omega)) dX2_fillMinus_49 (fun v h_49 n_49 p_49 => ?_)
          obtain ⟨x, rfl, rfl, q0, q1, q2, q3⟩ := p_49
          try dsimp only [Option.toList, List.cons_append, List.nil_append]
          refine o_goto (tgt := 64) hC dX2_fillMinus_52 (by decide) ?_
          refine o_istore hC dX2_fillMinus_64 (Nat.le_of_ble_eq_true rfl) ?_
          refine o_iload hC dX2_fillMinus_66 (by rfl) ?_
          refine o_if_ne (tgt := 73) hC dX2_fillMinus_68 (by decide) (fun c_68 => ?_) (fun c_68 => ?_)
          · refine o_iinc hC dX2_fillMinus_73 (by rfl) (rl_inc _) (Nat.le_of_ble_eq_true rfl) ?_
            refine o_goto (tgt := 3) hC dX2_fillMinus_76 (by decide) ?_
            exact ih (t + 1) _ _ _ _ _ (by omega) q1 q2 (hf.tr (q3.wd (by omega) (by omega) (Nat.le_refl _) (Nat.le_refl _)))
          · refine o_iconst (v := nI 0) hC dX2_fillMinus_71 (by decide +kernel) ?_
            refine o_zret hC hB dX2_fillMinus_72 (by first | rfl | decide +kernel) (Nat.le_of_ble_eq_true rfl) (Nat.le_of_ble_eq_true rfl) ?_
            exact ⟨_, rfl, rfl, Or.inl rfl, ⟨_, q1⟩, q2, hf.tr (q3.wd (by omega) (by omega) (Nat.le_refl _) (Nat.le_refl _))⟩
  show rl_G X (rl_e D ids H0) 0 [some (.ref o), some (.ref a1), some (.ref a2), some (.ref a), none, none, none, none] [] h n 0 0
  refine o_iconst (v := nI 0) hC dX2_fillMinus_0 (by decide +kernel) ?_
  refine o_istore hC dX2_fillMinus_1 (Nat.le_of_ble_eq_true rfl) ?_
  exact loop sz1 0 _ _ _ h gp (by omega) ho ht rl_g2.rf
