/-! Operators by shapes: putPair, fillJoin, fillCols -/
/-- the key is another -/
theorem op_sh.ky {ids : Nat → ClassId} {h h' : rl_H} {o so : Nat} {gp : Nat → Option Nat} {kc : Nat → Int32} (H : op_sh ids h o so gp) (hk : h' (o + 9) = some (.inl (ids 0, 6, .inl kc))) (he : ∀ q, o ≤ q → q < o + 22 → q ≠ o + 9 → h' q = h q) : op_sh ids h' o so gp := by
  obtain ⟨h1, h2, h3, ⟨tp, h4, h5⟩, h6, h7, h8⟩ := H
  exact ⟨by rw [he o (by omega) (by omega) (by omega)]; exact h1, h2.eqv (fun q a b => he q (by omega) (by omega) (by omega)), h3.eqv (fun q a b => he q (by omega) (by omega) (by omega)), ⟨tp, by rw [he (o + 7) (by omega) (by omega) (by omega)]; exact h4, h5⟩, by rw [he (o + 8) (by omega) (by omega) (by omega)]; exact h6, ⟨_, hk⟩, fun m hm => (h8 m hm).eqv (fun q a b => he q (by omega) (by omega) (by omega))⟩

set_option maxHeartbeats 4000000 in
set_option maxRecDepth 100000 in
theorem ct_X2_putPair (l : Launch) (D : va_G) (ids : Nat → ClassId) (H0 : Heap) (h : rl_H) (n : Nat) (o so a a1 sz1 wd wd1 : Nat) (gp : Nat → Option Nat) (P1 : Nat → Nat) (S1 : tb_S) (a2 sz2 wd2 t u : Nat) (P2 : Nat → Nat) (S2 : tb_S) (ho : op_sh ids h o so gp) (ht : tb_ok ids h a wd) (hi : tb_at ids h a1 sz1 wd1 P1 S1) (hoa : o + 22 ≤ a ∨ a + 402 ≤ o) (hoi : o + 22 ≤ a1 ∨ a1 + 402 ≤ o) (hia : a1 + 402 ≤ a ∨ a + 402 ≤ a1) (hj : tb_at ids h a2 sz2 wd2 P2 S2) (hoj : o + 22 ≤ a2 ∨ a2 + 402 ≤ o) (hja : a2 + 402 ≤ a ∨ a + 402 ≤ a2) (ht1 : t < sz1) (hu1 : u < sz2) (hwd : wd1 + wd2 ≤ 6) : rl_Met l (rl_e D ids H0) rl_BW rl_Ns yX2_putPair cX2_putPair 6 (some .boolean) ({ frames := 4, cells := 0, slots := 0, locals := 149 }) [.ref o, .ref a1, .int (nI t), .ref a2, .int (nI u), .ref a] h n (fun v h' n' => ∃ x : Int32, v = some (.int x) ∧ n' = n ∧ (x = nI 0 ∨ x = nI 1) ∧ (∃ gp' : Nat → Option Nat, op_sh ids h' o so gp') ∧ tb_ok ids h' a wd ∧ rl_g2 h h' o (o + 22) a (a + 402)) := by
  obtain ⟨o0, ⟨ds, od⟩, ⟨mf, mg, mk, om⟩, ⟨tp, o7, o7b⟩, o8, ⟨kc, o9⟩, ot⟩ := id ho
  obtain ⟨sz0, P0, S0, ht0⟩ := id ht
  obtain ⟨t1, ⟨tf, t2, t3⟩, t4, t5, t6, t7⟩ := id hi
  obtain ⟨j1, ⟨jf, j2, j3⟩, j4, j5, j6, j7⟩ := id hj
  have hb := t4 t (by omega)
  have hb2 := j4 u (by omega)
  obtain ⟨e1, e2, e3⟩ := t5 (P1 t) hb
  obtain ⟨g1, g2, g3⟩ := j5 (P2 u) hb2
  refine rl_Met.of (by decide +kernel) (Nat.le_of_ble_eq_true rfl) ?_
  intro X hC hB
  show rl_G X (rl_e D ids H0) 0 [some (.ref o), some (.ref a1), some (.int (nI t)), some (.ref a2), some (.int (nI u)), some (.ref a)] [] h n 0 0
  refine o_aload_n hC dX2_putPair_0 (by rfl) ?_
  refine o_getf hC (fX2_106 hC rfl) dX2_putPair_1 (by repeat (first | with_reducible assumption | (rw [rl_u_s]; done) | (rw [rl_u_s]; rfl) | rw [rl_u_n (by first | with_reducible assumption | omega)])) (by first | rfl | with_reducible assumption) ?_
  refine o_iload_n hC dX2_putPair_4 (by rfl) ?_
  refine o_aaldN (t0 := 3) hC rfl dX2_putPair_5 (by repeat (first | with_reducible assumption | (rw [rl_u_s]; done) | (rw [rl_u_s]; rfl) | rw [rl_u_n (by first | with_reducible assumption | omega)])) (by omega) (by decide) ?_
  rw [t3 _ (by omega)]
  show rl_G X _ _ _ (.ref _ :: _) _ _ _ _
  refine o_getf hC (fX2_109 hC rfl) dX2_putPair_6 (by repeat (first | with_reducible assumption | (rw [rl_u_s]; done) | (rw [rl_u_s]; rfl) | rw [rl_u_n (by first | with_reducible assumption | omega)])) (by first | rfl | with_reducible assumption) ?_
  refine o_iconst (v := nI 0) hC dX2_putPair_9 (by decide +kernel) ?_
  refine o_aload_n hC dX2_putPair_10 (by rfl) ?_
  refine o_getf hC (fX2_35 hC rfl) dX2_putPair_11 (by repeat (first | with_reducible assumption | (rw [rl_u_s]; done) | (rw [rl_u_s]; rfl) | rw [rl_u_n (by first | with_reducible assumption | omega)])) (by first | rfl | with_reducible assumption) ?_
  refine o_iconst (v := nI 0) hC dX2_putPair_14 (by decide +kernel) ?_
  refine o_aload_n hC dX2_putPair_15 (by rfl) ?_
  refine o_getf hC (fX2_132 hC rfl) dX2_putPair_16 (by repeat (first | with_reducible assumption | (rw [rl_u_s]; done) | (rw [rl_u_s]; rfl) | rw [rl_u_n (by first | with_reducible assumption | omega)])) (by first | rfl | with_reducible assumption) ?_
  refine o_copyi (t0 := 0) (sp := 0) (dp := 0) (k := wd1) hC (by exact hB.2.2.2.2.2) acX2_133 w_acN w_acS w_acI rfl rfl dX2_putPair_19 e2 o9 (by omega) (by omega) (by decide) (by decide) (by rw [hB.2.1]; first | exact Nat.le_of_ble_eq_true rfl | (dsimp only; omega)) (by rw [hB.2.1]; first | exact Nat.le_of_ble_eq_true rfl | (dsimp only; omega)) ?_
  refine o_aload_n hC dX2_putPair_22 (by rfl) ?_
  refine o_getf hC (fX2_106 hC rfl) dX2_putPair_23 (by repeat (first | with_reducible assumption | (rw [rl_u_s]; done) | (rw [rl_u_s]; rfl) | rw [rl_u_n (by first | with_reducible assumption | omega)])) (by first | rfl | with_reducible assumption) ?_
  refine o_iload hC dX2_putPair_26 (by rfl) ?_
  refine o_aaldN (t0 := 3) hC rfl dX2_putPair_28 (by repeat (first | with_reducible assumption | (rw [rl_u_s]; done) | (rw [rl_u_s]; rfl) | rw [rl_u_n (by first | with_reducible assumption | omega)])) (by omega) (by decide) ?_
  rw [j3 _ (by omega)]
  show rl_G X _ _ _ (.ref _ :: _) _ _ _ _
  refine o_getf hC (fX2_109 hC rfl) dX2_putPair_29 (by repeat (first | with_reducible assumption | (rw [rl_u_s]; done) | (rw [rl_u_s]; rfl) | rw [rl_u_n (by first | with_reducible assumption | omega)])) (by first | rfl | with_reducible assumption) ?_
  refine o_iconst (v := nI 0) hC dX2_putPair_32 (by decide +kernel) ?_
  refine o_aload_n hC dX2_putPair_33 (by rfl) ?_
  refine o_getf hC (fX2_35 hC rfl) dX2_putPair_34 (by repeat (first | with_reducible assumption | (rw [rl_u_s]; done) | (rw [rl_u_s]; rfl) | rw [rl_u_n (by first | with_reducible assumption | omega)])) (by first | rfl | with_reducible assumption) ?_
  refine o_aload_n hC dX2_putPair_37 (by rfl) ?_
  refine o_getf hC (fX2_132 hC rfl) dX2_putPair_38 (by repeat (first | with_reducible assumption | (rw [rl_u_s]; done) | (rw [rl_u_s]; rfl) | rw [rl_u_n (by first | with_reducible assumption | omega)])) (by first | rfl | with_reducible assumption) ?_
  refine o_aload_n hC dX2_putPair_41 (by rfl) ?_
  refine o_getf hC (fX2_132 hC rfl) dX2_putPair_42 (by repeat (first | with_reducible assumption | (rw [rl_u_s]; done) | (rw [rl_u_s]; rfl) | rw [rl_u_n (by first | with_reducible assumption | omega)])) (by first | rfl | with_reducible assumption) ?_
  refine o_copyi (t0 := 0) (sp := 0) (dp := wd1) (k := wd2) hC (by exact hB.2.2.2.2.2) acX2_133 w_acN w_acS w_acI rfl rfl dX2_putPair_45 (by repeat (first | with_reducible assumption | (rw [rl_u_s]; done) | (rw [rl_u_s]; rfl) | rw [rl_u_n (by first | with_reducible assumption | omega)])) rl_u_s (by omega) (by omega) (by decide) (by decide) (by rw [hB.2.1]; first | exact Nat.le_of_ble_eq_true rfl | (dsimp only; omega)) (by rw [hB.2.1]; first | exact Nat.le_of_ble_eq_true rfl | (dsimp only; omega)) ?_
  have f9 : ∀ q, q ≠ o + 9 → (rl_u (rl_u h (o + 9) (.inl (ids 0, 6, .inl (va_cpy (S1.1 (P1 t)) kc 0 0 wd1)))) (o + 9) (.inl (ids 0, 6, .inl (va_cpy (S2.1 (P2 u)) (va_cpy (S1.1 (P1 t)) kc 0 0 wd1) 0 wd1 wd2)))) q = h q := fun q hq => by rw [rl_u_n hq, rl_u_n hq]
  have k9 : (rl_u (rl_u h (o + 9) (.inl (ids 0, 6, .inl (va_cpy (S1.1 (P1 t)) kc 0 0 wd1)))) (o + 9) (.inl (ids 0, 6, .inl (va_cpy (S2.1 (P2 u)) (va_cpy (S1.1 (P1 t)) kc 0 0 wd1) 0 wd1 wd2)))) (o + 9) = some (.inl (ids 0, 6, .inl (va_cpy (S2.1 (P2 u)) (va_cpy (S1.1 (P1 t)) kc 0 0 wd1) 0 wd1 wd2))) := rl_u_s
  generalize (rl_u (rl_u h (o + 9) (.inl (ids 0, 6, .inl (va_cpy (S1.1 (P1 t)) kc 0 0 wd1)))) (o + 9) (.inl (ids 0, 6, .inl (va_cpy (S2.1 (P2 u)) (va_cpy (S1.1 (P1 t)) kc 0 0 wd1) 0 wd1 wd2)))) = hh at f9 k9 ⊢
  have ho2 : op_sh ids hh o so gp := ho.ky k9 (fun q q1 q2 q3 => f9 q q3)
  obtain ⟨z0, ⟨zs, zd⟩, ⟨zf, zg, zk, zm⟩, -, -, -, -⟩ := id ho2
  have ht2 : tb_at ids hh a sz0 wd P0 S0 := ht0.eqv (fun q q1 q2 => f9 q (by omega))
  obtain ⟨b1, ⟨bf, b2, b3⟩, b4, b5, -⟩ := hi.eqv (h' := hh) (fun q q1 q2 => f9 q (by omega))
  obtain ⟨d1, ⟨df, d2, d3⟩, d4, d5, -⟩ := hj.eqv (h' := hh) (fun q q1 q2 => f9 q (by omega))
  obtain ⟨x1, x2, x3⟩ := b5 (P1 t) hb
  obtain ⟨y1, y2, y3⟩ := d5 (P2 u) hb2
  refine o_aload_n hC dX2_putPair_48 (by rfl) ?_
  refine o_getf hC (fX2_12 hC rfl) dX2_putPair_49 (by repeat (first | with_reducible assumption | (rw [rl_u_s]; done) | (rw [rl_u_s]; rfl) | rw [rl_u_n (by first | with_reducible assumption | omega)])) (by first | rfl | with_reducible assumption) ?_
  refine o_aload_n hC dX2_putPair_52 (by rfl) ?_
  refine o_getf hC (fX2_106 hC rfl) dX2_putPair_53 (by repeat (first | with_reducible assumption | (rw [rl_u_s]; done) | (rw [rl_u_s]; rfl) | rw [rl_u_n (by first | with_reducible assumption | omega)])) (by first | rfl | with_reducible assumption) ?_
  refine o_iload_n hC dX2_putPair_56 (by rfl) ?_
  refine o_aaldN (t0 := 3) hC rfl dX2_putPair_57 (by repeat (first | with_reducible assumption | (rw [rl_u_s]; done) | (rw [rl_u_s]; rfl) | rw [rl_u_n (by first | with_reducible assumption | omega)])) (by omega) (by decide) ?_
  rw [b3 _ (by omega)]
  show rl_G X _ _ _ (.ref _ :: _) _ _ _ _
  refine o_getf hC (fX2_116 hC rfl) dX2_putPair_58 (by repeat (first | with_reducible assumption | (rw [rl_u_s]; done) | (rw [rl_u_s]; rfl) | rw [rl_u_n (by first | with_reducible assumption | omega)])) (by first | rfl | with_reducible assumption) ?_
  refine o_aload_n hC dX2_putPair_61 (by rfl) ?_
  refine o_getf hC (fX2_106 hC rfl) dX2_putPair_62 (by repeat (first | with_reducible assumption | (rw [rl_u_s]; done) | (rw [rl_u_s]; rfl) | rw [rl_u_n (by first | with_reducible assumption | omega)])) (by first | rfl | with_reducible assumption) ?_
  refine o_iload hC dX2_putPair_65 (by rfl) ?_
  refine o_aaldN (t0 := 3) hC rfl dX2_putPair_67 (by repeat (first | with_reducible assumption | (rw [rl_u_s]; done) | (rw [rl_u_s]; rfl) | rw [rl_u_n (by first | with_reducible assumption | omega)])) (by omega) (by decide) ?_
  rw [d3 _ (by omega)]
  show rl_G X _ _ _ (.ref _ :: _) _ _ _ _
  refine o_getf hC (fX2_116 hC rfl) dX2_putPair_68 (by repeat (first | with_reducible assumption | (rw [rl_u_s]; done) | (rw [rl_u_s]; rfl) | rw [rl_u_n (by first | with_reducible assumption | omega)])) (by first | rfl | with_reducible assumption) ?_
  refine o_aload_n hC dX2_putPair_71 (by rfl) ?_
  refine o_getf hC (fX2_21 hC rfl) dX2_putPair_72 (by repeat (first | with_reducible assumption | (rw [rl_u_s]; done) | (rw [rl_u_s]; rfl) | rw [rl_u_n (by first | with_reducible assumption | omega)])) (by first | rfl | with_reducible assumption) ?_
  refine o_callV3 hC rl_BW_good rl_Ns_nw (by exact hB.2.2.2.2.2) YX0_both IX0_both VX0_both (mX2_139 hC) (by rw [hB.1]; exact ct_X0_both l D ids H0 _ _ (o + 1) (a1 + 2 + 5 * P1 t + 2) (a2 + 2 + 5 * P2 u + 2) (o + 4) _ _ _ _ _ _ _ _ _ _ zd x3 y3 zm (by omega) (by omega) (by omega)) (by exact zd.1) rfl rfl (Nat.le_of_ble_eq_true rfl) (by rw [hB.2.1]; first | exact Nat.le_of_ble_eq_true rfl | (dsimp only; omega)) (by rw [hB.2.1]; first | exact Nat.le_of_ble_eq_true rfl | (dsimp only; omega)) (by rw [hB.2.1]; first | exact Nat.le_of_ble_eq_true rfl | (dsimp only; omega)) (by rw [hB.2.1]; first | exact Nat.le_of_ble_eq_true rfl | (dsimp only; omega)) dX2_putPair_75 (fun v h_75 n_75 p_75 => ?_)
  obtain ⟨x0, rfl, rfl, s1⟩ := p_75
  have s2 := s1.f2
  have s3 := s1.ws zm (by omega)
  have ho3 : op_sh ids h_75 o so gp := ho2.mk ⟨_, s1.1⟩ s3 (fun q q1 q2 q3 => s2 q (by omega) (by omega))
  obtain ⟨mf3, mg3, mk3, s4⟩ := s3
  have ht3 : tb_at ids h_75 a sz0 wd P0 S0 := ht2.eqv (fun q q1 q2 => s2 q (by omega) (by omega))
  have o3 := ho3.1
  have k3 := (s2 (o + 9) (by omega) (by omega)).trans k9
  try dsimp only [Option.toList, List.cons_append, List.nil_append]
  refine o_if_eq (tgt := 102) hC dX2_putPair_78 (by decide) (fun c_78 => ?_) (fun c_78 => ?_)
  · refine o_iconst (v := nI 0) hC dX2_putPair_102 (by decide +kernel) ?_
    refine o_zret hC hB dX2_putPair_103 (by first | rfl | decide +kernel) (Nat.le_of_ble_eq_true rfl) (Nat.le_of_ble_eq_true rfl) ?_
    first
    | exact ⟨_, rfl, rfl, (by first | exact Or.inl rfl | exact Or.inr rfl), ⟨_, q1⟩, q2, fun q z1 z2 => (q3 q (by omega) (by omega)).trans ((s2 q (by omega) (by omega)).trans (f9 q (by omega)))⟩
    | exact ⟨_, rfl, rfl, Or.inl rfl, ⟨_, ho3⟩, ⟨_, _, _, ht3⟩, fun q z1 z2 => (s2 q (by omega) (by omega)).trans (f9 q (by omega))⟩
  · refine o_aload_n hC dX2_putPair_81 (by rfl) ?_
    refine o_aload hC dX2_putPair_82 (by rfl) ?_
    refine o_aload_n hC dX2_putPair_84 (by rfl) ?_
    refine o_getf hC (fX2_35 hC rfl) dX2_putPair_85 (by repeat (first | with_reducible assumption | (rw [rl_u_s]; done) | (rw [rl_u_s]; rfl) | rw [rl_u_n (by first | with_reducible assumption | omega)])) (by first | rfl | with_reducible assumption) ?_
    refine o_aload_n hC dX2_putPair_88 (by rfl) ?_
    refine o_getf hC (fX2_21 hC rfl) dX2_putPair_89 (by repeat (first | with_reducible assumption | (rw [rl_u_s]; done) | (rw [rl_u_s]; rfl) | rw [rl_u_n (by first | with_reducible assumption | omega)])) (by first | rfl | with_reducible assumption) ?_
    refine o_callV3 hC rl_BW_good rl_Ns_nw (by exact hB.2.2.2.2.2) YX2_put IX2_put VX2_put (mX2_99 hC) (by rw [hB.1]; exact ct_X2_put l D ids H0 _ _ o so a (o + 4) (o + 9) sz0 wd _ _ P0 S0 _ _ _ ho3 ht3 k3 s4 (by omega) (by omega) (by omega) (by omega)) (by exact ho3.1) rfl rfl (Nat.le_of_ble_eq_true rfl) (by rw [hB.2.1]; first | exact Nat.le_of_ble_eq_true rfl | (dsimp only; omega)) (by rw [hB.2.1]; first | exact Nat.le_of_ble_eq_true rfl | (dsimp only; omega)) (by rw [hB.2.1]; first | exact Nat.le_of_ble_eq_true rfl | (dsimp only; omega)) (by rw [hB.2.1]; first | exact Nat.le_of_ble_eq_true rfl | (dsimp only; omega)) dX2_putPair_92 (fun v h_92 n_92 p_92 => ?_)
    obtain ⟨x, rfl, rfl, q0, q1, q2, q3⟩ := p_92
    try dsimp only [Option.toList, List.cons_append, List.nil_append]
    refine o_if_eq (tgt := 102) hC dX2_putPair_95 (by decide) (fun c_95 => ?_) (fun c_95 => ?_)
    · refine o_iconst (v := nI 0) hC dX2_putPair_102 (by decide +kernel) ?_
      refine o_zret hC hB dX2_putPair_103 (by first | rfl | decide +kernel) (Nat.le_of_ble_eq_true rfl) (Nat.le_of_ble_eq_true rfl) ?_
      first
      | exact ⟨_, rfl, rfl, (by first | exact Or.inl rfl | exact Or.inr rfl), ⟨_, q1⟩, q2, fun q z1 z2 => (q3 q (by omega) (by omega)).trans ((s2 q (by omega) (by omega)).trans (f9 q (by omega)))⟩
      | exact ⟨_, rfl, rfl, Or.inl rfl, ⟨_, ho3⟩, ⟨_, _, _, ht3⟩, fun q z1 z2 => (s2 q (by omega) (by omega)).trans (f9 q (by omega))⟩
    · refine o_iconst (v := nI 1) hC dX2_putPair_98 (by decide +kernel) ?_
      refine o_goto (tgt := 103) hC dX2_putPair_99 (by decide) ?_
      refine o_zret hC hB dX2_putPair_103 (by first | rfl | decide +kernel) (Nat.le_of_ble_eq_true rfl) (Nat.le_of_ble_eq_true rfl) ?_
      first
      | exact ⟨_, rfl, rfl, (by first | exact Or.inl rfl | exact Or.inr rfl), ⟨_, q1⟩, q2, fun q z1 z2 => (q3 q (by omega) (by omega)).trans ((s2 q (by omega) (by omega)).trans (f9 q (by omega)))⟩
      | exact ⟨_, rfl, rfl, Or.inl rfl, ⟨_, ho3⟩, ⟨_, _, _, ht3⟩, fun q z1 z2 => (s2 q (by omega) (by omega)).trans (f9 q (by omega))⟩

set_option maxHeartbeats 4000000 in
set_option maxRecDepth 100000 in
theorem ct_X2_fillJoin (l : Launch) (D : va_G) (ids : Nat → ClassId) (H0 : Heap) (h : rl_H) (n : Nat) (o so a a1 sz1 wd wd1 : Nat) (gp : Nat → Option Nat) (P1 : Nat → Nat) (S1 : tb_S) (a2 sz2 wd2 nd c4 c5 : Nat) (P2 : Nat → Nat) (S2 : tb_S) (f0 f1 f2 f3 f6 f7 f8 : Int32) (ho : op_sh ids h o so gp) (ht : tb_ok ids h a wd) (hi : tb_at ids h a1 sz1 wd1 P1 S1) (hoa : o + 22 ≤ a ∨ a + 402 ≤ o) (hoi : o + 22 ≤ a1 ∨ a1 + 402 ≤ o) (hia : a1 + 402 ≤ a ∨ a + 402 ≤ a1) (hj : tb_at ids h a2 sz2 wd2 P2 S2) (hoj : o + 22 ≤ a2 ∨ a2 + 402 ≤ o) (hja : a2 + 402 ≤ a ∨ a + 402 ≤ a2) (hnd : h nd = some (.inr (1, [.int f0, .int f1, .int f2, .int f3, .int (nI c4), .int (nI c5), .int f6, .int f7, .int f8]))) (h4 : c4 < 6) (h5 : c5 < 6) (hno : nd < o ∨ o + 22 ≤ nd) (hna : nd < a ∨ a + 402 ≤ nd) (hwd : wd1 + wd2 ≤ 6) : rl_Met l (rl_e D ids H0) rl_BW rl_Ns yX2_fillJoin cX2_fillJoin 8 (some .boolean) ({ frames := 5, cells := 0, slots := 0, locals := 174 }) [.ref o, .ref nd, .ref a1, .ref a2, .ref a] h n (fun v h' n' => ∃ x : Int32, v = some (.int x) ∧ n' = n ∧ (x = nI 0 ∨ x = nI 1) ∧ (∃ gp' : Nat → Option Nat, op_sh ids h' o so gp') ∧ tb_ok ids h' a wd ∧ rl_g2 h h' o (o + 22) a (a + 402)) := by
  refine rl_Met.of (by decide +kernel) (Nat.le_of_ble_eq_true rfl) ?_
  intro X hC hB
  have loop : ∀ (m t : Nat) (o6 o7 : Option Value) (h1 : rl_H) (gp1 : Nat → Option Nat), t + m = sz1 → op_sh ids h1 o so gp1 → tb_ok ids h1 a wd → rl_g2 h h1 o (o + 22) a (a + 402) → rl_G X (rl_e D ids H0) 3 [some (.ref o), some (.ref nd), some (.ref a1), some (.ref a2), some (.ref a), some (.int (nI t)), o6, o7] [] h1 n 0 0 := by
    intro m
    induction m with
    | zero =>
      intro t o6 o7 h1 gp1 hm ho1 ht1 hf
      obtain ⟨t1, ⟨tf, t2, t3⟩, t4, t5, t6, t7⟩ := hi.eqv (h' := h1) (fun q q1 q2 => hf q (by omega) (by omega))
      refine o_iload hC dX2_fillJoin_3 (by rfl) ?_
      refine o_aload_n hC dX2_fillJoin_5 (by rfl) ?_
      refine o_getf hC (fX2_103 hC rfl) dX2_fillJoin_6 (by repeat (first | with_reducible assumption | (rw [rl_u_s]; done) | (rw [rl_u_s]; rfl) | rw [rl_u_n (by first | with_reducible assumption | omega)])) (by first | rfl | with_reducible assumption) ?_
      refine o_icmp_ge (tgt := 98) hC dX2_fillJoin_9 (by decide) (fun c_9 => ?_) (fun c_9 => ?_)
      · refine o_iconst (v := nI 1) hC dX2_fillJoin_98 (by decide +kernel) ?_
        refine o_zret hC hB dX2_fillJoin_99 (by first | rfl | decide +kernel) (Nat.le_of_ble_eq_true rfl) (Nat.le_of_ble_eq_true rfl) ?_
        exact ⟨_, rfl, rfl, Or.inr rfl, ⟨_, ho1⟩, ht1, hf⟩
      · exact absurd (nI_le (by omega) (by omega)) c_9
    | succ m ih =>
      intro t o6 o7 h9 gp9 hm ho9 ht9 hf9
      have loop2 : ∀ (m2 u : Nat) (o7 : Option Value) (h1 : rl_H) (gp1 : Nat → Option Nat), u + m2 = sz2 → op_sh ids h1 o so gp1 → tb_ok ids h1 a wd → rl_g2 h h1 o (o + 22) a (a + 402) → rl_G X (rl_e D ids H0) 15 [some (.ref o), some (.ref nd), some (.ref a1), some (.ref a2), some (.ref a), some (.int (nI t)), some (.int (nI u)), o7] [] h1 n 0 0 := by
        intro m2
        induction m2 with
        | zero =>
          intro u o7 h1 gp1 hm2 ho1 ht1 hf
          obtain ⟨j1, ⟨jf, j2, j3⟩, j4, j5, j6, j7⟩ := hj.eqv (h' := h1) (fun q q1 q2 => hf q (by omega) (by omega))
          refine o_iload hC dX2_fillJoin_15 (by rfl) ?_
          refine o_aload_n hC dX2_fillJoin_17 (by rfl) ?_
          refine o_getf hC (fX2_103 hC rfl) dX2_fillJoin_18 (by repeat (first | with_reducible assumption | (rw [rl_u_s]; done) | (rw [rl_u_s]; rfl) | rw [rl_u_n (by first | with_reducible assumption | omega)])) (by first | rfl | with_reducible assumption) ?_
          refine o_icmp_ge (tgt := 92) hC dX2_fillJoin_21 (by decide) (fun c_21 => ?_) (fun c_21 => ?_)
          · refine o_iinc hC dX2_fillJoin_92 (by rfl) (rl_inc _) (Nat.le_of_ble_eq_true rfl) ?_
            refine o_goto (tgt := 3) hC dX2_fillJoin_95 (by decide) ?_
            exact ih (t + 1) _ _ _ _ (by omega) ho1 ht1 hf
          · exact absurd (nI_le (by omega) (by omega)) c_21
        | succ m2 ih2 =>
          intro u o7 h1 gp1 hm2 ho1 ht1 hf
          obtain ⟨t1, ⟨tf, t2, t3⟩, t4, t5, t6, t7⟩ := hi.eqv (h' := h1) (fun q q1 q2 => hf q (by omega) (by omega))
          obtain ⟨j1, ⟨jf, j2, j3⟩, j4, j5, j6, j7⟩ := hj.eqv (h' := h1) (fun q q1 q2 => hf q (by omega) (by omega))
          have n1 := (hf nd (by omega) (by omega)).trans hnd
          have hb := t4 t (by omega)
          have hb2 := j4 u (by omega)
          obtain ⟨e1, e2, e3⟩ := t5 (P1 t) hb
          obtain ⟨g1, g2, g3⟩ := j5 (P2 u) hb2
          refine o_iload hC dX2_fillJoin_15 (by rfl) ?_
          refine o_aload_n hC dX2_fillJoin_17 (by rfl) ?_
          refine o_getf hC (fX2_103 hC rfl) dX2_fillJoin_18 (by repeat (first | with_reducible assumption | (rw [rl_u_s]; done) | (rw [rl_u_s]; rfl) | rw [rl_u_n (by first | with_reducible assumption | omega)])) (by first | rfl | with_reducible assumption) ?_
          refine o_icmp_ge (tgt := 92) hC dX2_fillJoin_21 (by decide) (fun c_21 => ?_) (fun c_21 => ?_)
          · exact absurd c_21 (nI_ge (by omega) (by omega))
          · refine o_aload_n hC dX2_fillJoin_24 (by rfl) ?_
            refine o_getf hC (fX2_106 hC rfl) dX2_fillJoin_25 (by repeat (first | with_reducible assumption | (rw [rl_u_s]; done) | (rw [rl_u_s]; rfl) | rw [rl_u_n (by first | with_reducible assumption | omega)])) (by first | rfl | with_reducible assumption) ?_
            refine o_iload hC dX2_fillJoin_28 (by rfl) ?_
            refine o_aaldN (t0 := 3) hC rfl dX2_fillJoin_30 (by repeat (first | with_reducible assumption | (rw [rl_u_s]; done) | (rw [rl_u_s]; rfl) | rw [rl_u_n (by first | with_reducible assumption | omega)])) (by omega) (by decide) ?_
            rw [t3 _ (by omega)]
            show rl_G X _ _ _ (.ref _ :: _) _ _ _ _
            refine o_getf hC (fX2_109 hC rfl) dX2_fillJoin_31 (by repeat (first | with_reducible assumption | (rw [rl_u_s]; done) | (rw [rl_u_s]; rfl) | rw [rl_u_n (by first | with_reducible assumption | omega)])) (by first | rfl | with_reducible assumption) ?_
            refine o_aload_n hC dX2_fillJoin_34 (by rfl) ?_
            refine o_getf hC (fX2_119 hC rfl) dX2_fillJoin_35 (by repeat (first | with_reducible assumption | (rw [rl_u_s]; done) | (rw [rl_u_s]; rfl) | rw [rl_u_n (by first | with_reducible assumption | omega)])) (by first | rfl | with_reducible assumption) ?_
            refine o_ialdN (t0 := 0) (k := c4) hC rfl dX2_fillJoin_38 e2 (by omega) (by decide) ?_
            refine o_aload_n hC dX2_fillJoin_39 (by rfl) ?_
            refine o_getf hC (fX2_106 hC rfl) dX2_fillJoin_40 (by repeat (first | with_reducible assumption | (rw [rl_u_s]; done) | (rw [rl_u_s]; rfl) | rw [rl_u_n (by first | with_reducible assumption | omega)])) (by first | rfl | with_reducible assumption) ?_
            refine o_iload hC dX2_fillJoin_43 (by rfl) ?_
            refine o_aaldN (t0 := 3) hC rfl dX2_fillJoin_45 (by repeat (first | with_reducible assumption | (rw [rl_u_s]; done) | (rw [rl_u_s]; rfl) | rw [rl_u_n (by first | with_reducible assumption | omega)])) (by omega) (by decide) ?_
            rw [j3 _ (by omega)]
            show rl_G X _ _ _ (.ref _ :: _) _ _ _ _
            refine o_getf hC (fX2_109 hC rfl) dX2_fillJoin_46 (by repeat (first | with_reducible assumption | (rw [rl_u_s]; done) | (rw [rl_u_s]; rfl) | rw [rl_u_n (by first | with_reducible assumption | omega)])) (by first | rfl | with_reducible assumption) ?_
            refine o_aload_n hC dX2_fillJoin_49 (by rfl) ?_
            refine o_getf hC (fX2_122 hC rfl) dX2_fillJoin_50 (by repeat (first | with_reducible assumption | (rw [rl_u_s]; done) | (rw [rl_u_s]; rfl) | rw [rl_u_n (by first | with_reducible assumption | omega)])) (by first | rfl | with_reducible assumption) ?_
            refine o_ialdN (t0 := 0) (k := c5) hC rfl dX2_fillJoin_53 g2 (by omega) (by decide) ?_
            refine o_icmp_ne (tgt := 61) hC dX2_fillJoin_54 (by decide) (fun c_54 => ?_) (fun c_54 => ?_)
            · refine o_iconst (v := nI 0) hC dX2_fillJoin_61 (by decide +kernel) ?_
              refine o_istore hC dX2_fillJoin_62 (Nat.le_of_ble_eq_true rfl) ?_
              refine o_iload hC dX2_fillJoin_64 (by rfl) ?_
              refine o_if_eq (tgt := 86) hC dX2_fillJoin_66 (by decide) (fun c_66 => ?_) (fun c_66 => ?_)
              · refine o_iinc hC dX2_fillJoin_86 (by rfl) (rl_inc _) (Nat.le_of_ble_eq_true rfl) ?_
                refine o_goto (tgt := 15) hC dX2_fillJoin_89 (by decide) ?_
                first
                | exact ih2 (u + 1) _ _ _ (by omega) q1 q2 (hf.tr (q3.wd (by omega) (by omega) (Nat.le_refl _) (Nat.le_refl _)))
                | exact ih2 (u + 1) _ _ _ (by omega) ho1 ht1 hf
              · refine o_aload_n hC dX2_fillJoin_69 (by rfl) ?_
                refine o_aload_n hC dX2_fillJoin_70 (by rfl) ?_
                refine o_iload hC dX2_fillJoin_71 (by rfl) ?_
                refine o_aload_n hC dX2_fillJoin_73 (by rfl) ?_
                refine o_iload hC dX2_fillJoin_74 (by rfl) ?_
                refine o_aload hC dX2_fillJoin_76 (by rfl) ?_
                refine o_callV5 hC rl_BW_good rl_Ns_nw (by exact hB.2.2.2.2.2) YX2_putPair IX2_putPair VX2_putPair (mX2_128 hC) (by rw [hB.1]; exact ct_X2_putPair l D ids H0 _ _ o so a a1 sz1 wd wd1 _ P1 S1 a2 sz2 wd2 t u P2 S2 ho1 ht1 (hi.eqv (h' := h1) (fun q q1 q2 => hf q (by omega) (by omega))) (by omega) (by omega) (by omega) (hj.eqv (h' := h1) (fun q q1 q2 => hf q (by omega) (by omega))) (by omega) (by omega) (by omega) (by omega) (by omega)) (by exact ho1.1) rfl rfl (Nat.le_of_ble_eq_true rfl) (by rw [hB.2.1]; first | exact Nat.le_of_ble_eq_true rfl | (dsimp only; omega)) (by rw [hB.2.1]; first | exact Nat.le_of_ble_eq_true rfl | (dsimp only; omega)) (by rw [hB.2.1]; first | exact Nat.le_of_ble_eq_true rfl | (dsimp only; omega)) (by rw [hB.2.1]; first | exact Nat.le_of_ble_eq_true rfl | (dsimp only; omega)) dX2_fillJoin_78 (fun v h_78 n_78 p_78 => ?_)
                obtain ⟨x, rfl, rfl, q0, ⟨gp2, q1⟩, q2, q3⟩ := p_78
                try dsimp only [Option.toList, List.cons_append, List.nil_append]
                refine o_if_ne (tgt := 86) hC dX2_fillJoin_81 (by decide) (fun c_81 => ?_) (fun c_81 => ?_)
                · refine o_iinc hC dX2_fillJoin_86 (by rfl) (rl_inc _) (Nat.le_of_ble_eq_true rfl) ?_
                  refine o_goto (tgt := 15) hC dX2_fillJoin_89 (by decide) ?_
                  first
                  | exact ih2 (u + 1) _ _ _ (by omega) q1 q2 (hf.tr (q3.wd (by omega) (by omega) (Nat.le_refl _) (Nat.le_refl _)))
                  | exact ih2 (u + 1) _ _ _ (by omega) ho1 ht1 hf
                · refine o_iconst (v := nI 0) hC dX2_fillJoin_84 (by decide +kernel) ?_
                  refine o_zret hC hB dX2_fillJoin_85 (by first | rfl | decide +kernel) (Nat.le_of_ble_eq_true rfl) (Nat.le_of_ble_eq_true rfl) ?_
                  exact ⟨_, rfl, rfl, Or.inl rfl, ⟨_, q1⟩, q2, hf.tr (q3.wd (by omega) (by omega) (Nat.le_refl _) (Nat.le_refl _))⟩
            · refine o_iconst (v := nI 1) hC dX2_fillJoin_57 (by decide +kernel) ?_
              refine o_goto (tgt := 62) hC dX2_fillJoin_58 (by decide) ?_
              refine o_istore hC dX2_fillJoin_62 (Nat.le_of_ble_eq_true rfl) ?_
              refine o_iload hC dX2_fillJoin_64 (by rfl) ?_
              refine o_if_eq (tgt := 86) hC dX2_fillJoin_66 (by decide) (fun c_66 => ?_) (fun c_66 => ?_)
              · refine o_iinc hC dX2_fillJoin_86 (by rfl) (rl_inc _) (Nat.le_of_ble_eq_true rfl) ?_
                refine o_goto (tgt := 15) hC dX2_fillJoin_89 (by decide) ?_
                first
                | exact ih2 (u + 1) _ _ _ (by omega) q1 q2 (hf.tr (q3.wd (by omega) (by omega) (Nat.le_refl _) (Nat.le_refl _)))
                | exact ih2 (u + 1) _ _ _ (by omega) ho1 ht1 hf
              · refine o_aload_n hC dX2_fillJoin_69 (by rfl) ?_
                refine o_aload_n hC dX2_fillJoin_70 (by rfl) ?_
                refine o_iload hC dX2_fillJoin_71 (by rfl) ?_
                refine o_aload_n hC dX2_fillJoin_73 (by rfl) ?_
                refine o_iload hC dX2_fillJoin_74 (by rfl) ?_
                refine o_aload hC dX2_fillJoin_76 (by rfl) ?_
                refine o_callV5 hC rl_BW_good rl_Ns_nw (by exact hB.2.2.2.2.2) YX2_putPair IX2_putPair VX2_putPair (mX2_128 hC) (by rw [hB.1]; exact ct_X2_putPair l D ids H0 _ _ o so a a1 sz1 wd wd1 _ P1 S1 a2 sz2 wd2 t u P2 S2 ho1 ht1 (hi.eqv (h' := h1) (fun q q1 q2 => hf q (by omega) (by omega))) (by omega) (by omega) (by omega) (hj.eqv (h' := h1) (fun q q1 q2 => hf q (by omega) (by omega))) (by omega) (by omega) (by omega) (by omega) (by omega)) (by exact ho1.1) rfl rfl (Nat.le_of_ble_eq_true rfl) (by rw [hB.2.1]; first | exact Nat.le_of_ble_eq_true rfl | (dsimp only; omega)) (by rw [hB.2.1]; first | exact Nat.le_of_ble_eq_true rfl | (dsimp only; omega)) (by rw [hB.2.1]; first | exact Nat.le_of_ble_eq_true rfl | (dsimp only; omega)) (by rw [hB.2.1]; first | exact Nat.le_of_ble_eq_true rfl | (dsimp only; omega)) dX2_fillJoin_78 (fun v h_78 n_78 p_78 => ?_)
                obtain ⟨x, rfl, rfl, q0, ⟨gp2, q1⟩, q2, q3⟩ := p_78
                try dsimp only [Option.toList, List.cons_append, List.nil_append]
                refine o_if_ne (tgt := 86) hC dX2_fillJoin_81 (by decide) (fun c_81 => ?_) (fun c_81 => ?_)
                · refine o_iinc hC dX2_fillJoin_86 (by rfl) (rl_inc _) (Nat.le_of_ble_eq_true rfl) ?_
                  refine o_goto (tgt := 15) hC dX2_fillJoin_89 (by decide) ?_
                  first
                  | exact ih2 (u + 1) _ _ _ (by omega) q1 q2 (hf.tr (q3.wd (by omega) (by omega) (Nat.le_refl _) (Nat.le_refl _)))
                  | exact ih2 (u + 1) _ _ _ (by omega) ho1 ht1 hf
                · refine o_iconst (v := nI 0) hC dX2_fillJoin_84 (by decide +kernel) ?_
                  refine o_zret hC hB dX2_fillJoin_85 (by first | rfl | decide +kernel) (Nat.le_of_ble_eq_true rfl) (Nat.le_of_ble_eq_true rfl) ?_
                  exact ⟨_, rfl, rfl, Or.inl rfl, ⟨_, q1⟩, q2, hf.tr (q3.wd (by omega) (by omega) (Nat.le_refl _) (Nat.le_refl _))⟩
      obtain ⟨t1, -, -, -, t6, -⟩ := hi.eqv (h' := h9) (fun q q1 q2 => hf9 q (by omega) (by omega))
      refine o_iload hC dX2_fillJoin_3 (by rfl) ?_
      refine o_aload_n hC dX2_fillJoin_5 (by rfl) ?_
      refine o_getf hC (fX2_103 hC rfl) dX2_fillJoin_6 (by repeat (first | with_reducible assumption | (rw [rl_u_s]; done) | (rw [rl_u_s]; rfl) | rw [rl_u_n (by first | with_reducible assumption | omega)])) (by first | rfl | with_reducible assumption) ?_
      refine o_icmp_ge (tgt := 98) hC dX2_fillJoin_9 (by decide) (fun c_9 => ?_) (fun c_9 => ?_)
      · exact absurd c_9 (nI_ge (by omega) (by omega))
      · refine o_iconst (v := nI 0) hC dX2_fillJoin_12 (by decide +kernel) ?_
        refine o_istore hC dX2_fillJoin_13 (Nat.le_of_ble_eq_true rfl) ?_
        exact loop2 sz2 0 _ h9 gp9 (by omega) ho9 ht9 hf9
  show rl_G X (rl_e D ids H0) 0 [some (.ref o), some (.ref nd), some (.ref a1), some (.ref a2), some (.ref a), none, none, none] [] h n 0 0
  refine o_iconst (v := nI 0) hC dX2_fillJoin_0 (by decide +kernel) ?_
  refine o_istore hC dX2_fillJoin_1 (Nat.le_of_ble_eq_true rfl) ?_
  exact loop sz1 0 _ _ h gp (by omega) ho ht rl_g2.rf
