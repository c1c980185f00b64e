/-! Operators by shapes: putGroup, fillFold -/
theorem rl_sh1 {k : Nat} (hk : k ≤ 4) : ∃ M : Nat, M ≤ 16 ∧ 1 ≤ M ∧ (1 < M → 1 ≤ k) ∧ nI 1 <<< (nI k &&& 31) = nI M := by
  rcases (show k = 0 ∨ k = 1 ∨ k = 2 ∨ k = 3 ∨ k = 4 by omega) with rfl | rfl | rfl | rfl | rfl
  · exact ⟨1, by omega, by omega, by omega, by decide +kernel⟩
  · exact ⟨2, by omega, by omega, by omega, by decide +kernel⟩
  · exact ⟨4, by omega, by omega, by omega, by decide +kernel⟩
  · exact ⟨8, by omega, by omega, by omega, by decide +kernel⟩
  · exact ⟨16, by omega, by omega, by omega, by decide +kernel⟩

set_option maxHeartbeats 4000000 in
set_option maxRecDepth 100000 in
theorem ct_X2_putGroup (l : Launch) (D : va_G) (ids : Nat → ClassId) (H0 : Heap) (h : rl_H) (n : Nat) (o so a wd a1 sz1 wd1 k nd c4 c5 kd : Nat) (gp : Nat → Option Nat) (P1 : Nat → Nat) (S1 : tb_S) (f0 f1 f2 f3 f7 f8 : Int32) (ho : op_sh ids h o so gp) (ht : tb_ok ids h a wd) (hoa : o + 22 ≤ a ∨ a + 402 ≤ o) (hia : a1 + 402 ≤ a ∨ a + 402 ≤ a1) (hi : tb_at ids h a1 sz1 wd1 P1 S1) (hoi : o + 22 ≤ a1 ∨ a1 + 402 ≤ o) (hk4 : k ≤ 4) (hg : ∀ j, j < k → ∃ i : Nat, i < 80 ∧ gp j = some (a1 + 2 + 5 * i)) (hnd : h nd = some (.inr (1, [.int f0, .int f1, .int f2, .int f3, .int (nI c4), .int (nI c5), .int (nI kd), .int f7, .int f8]))) (h4 : c4 < 6) (h5 : c5 < 6) (h6 : kd ≤ 3) (hno : nd < o ∨ o + 22 ≤ nd) (hna : nd < a ∨ a + 402 ≤ nd) : rl_Met l (rl_e D ids H0) rl_BW rl_Ns yX2_putGroup cX2_putGroup 5 (some .boolean) ({ frames := 4, cells := 0, slots := 0, locals := 149 }) [.ref o, .ref nd, .int (nI k), .ref a] h n (fun v h' n' => ∃ x : Int32, v = some (.int x) ∧ n' = n ∧ (x = nI 0 ∨ x = nI 1) ∧ (∃ gp' : Nat → Option Nat, op_sh ids h' o so gp') ∧ tb_ok ids h' a wd ∧ rl_g2 h h' o (o + 22) a (a + 402)) := by
  refine rl_Met.of (by decide +kernel) (Nat.le_of_ble_eq_true rfl) ?_
  intro X hC hB
  obtain ⟨M, hM, hM1, hM2, hsh⟩ := rl_sh1 hk4
  have loop : ∀ (m s : Nat) (h1 : rl_H), s + m = M → 1 ≤ s → op_sh ids h1 o so gp → tb_ok ids h1 a wd → rl_g2 h h1 o (o + 22) a (a + 402) → rl_G X (rl_e D ids H0) 13 [some (.ref o), some (.ref nd), some (.int (nI k)), some (.ref a), some (.int (nI s))] [] h1 n 0 0 := by
    intro m
    induction m with
    | zero =>
      intro s h1 hm hs1 ho1 ht1 hf
      refine o_iload hC dX2_putGroup_13 (by rfl) ?_
      refine o_iconst (v := nI 1) hC dX2_putGroup_15 (by decide +kernel) ?_
      refine o_iload_n hC dX2_putGroup_16 (by rfl) ?_
      refine o_ishl hC dX2_putGroup_17 ?_
      rw [hsh]
      refine o_icmp_ge (tgt := 89) hC dX2_putGroup_18 (by decide) (fun c_18 => ?_) (fun c_18 => ?_)
      · refine o_iconst (v := nI 1) hC dX2_putGroup_89 (by decide +kernel) ?_
        refine o_zret hC hB dX2_putGroup_90 (by first | rfl | decide +kernel) (Nat.le_of_ble_eq_true rfl) (Nat.le_of_ble_eq_true rfl) ?_
        exact ⟨_, rfl, rfl, Or.inr rfl, ⟨_, ho1⟩, ht1, hf⟩
      · exact absurd (nI_le (by omega) (by omega)) c_18
    | succ m ih =>
      intro s h1 hm hs1 ho1 ht1 hf
      obtain ⟨o0, ⟨ds, od⟩, ⟨mf, mg, mk, om⟩, ⟨tp, o7, o7b⟩, o8, ⟨kc, o9⟩, ot⟩ := id ho1
      obtain ⟨sz0, P0, S0, ht0⟩ := id ht1
      have n1 := (hf nd (by omega) (by omega)).trans hnd
      obtain ⟨i, hi80, hg0⟩ := hg 0 (by omega)
      have hi1 := hi.eqv (h' := h1) (fun q q1 q2 => hf q (by omega) (by omega))
      obtain ⟨e1, e2, e3⟩ := hi1.2.2.2.1 i hi80
      refine o_iload hC dX2_putGroup_13 (by rfl) ?_
      refine o_iconst (v := nI 1) hC dX2_putGroup_15 (by decide +kernel) ?_
      refine o_iload_n hC dX2_putGroup_16 (by rfl) ?_
      refine o_ishl hC dX2_putGroup_17 ?_
      rw [hsh]
      refine o_icmp_ge (tgt := 89) hC dX2_putGroup_18 (by decide) (fun c_18 => ?_) (fun c_18 => ?_)
      · exact absurd c_18 (nI_ge (by omega) (by omega))
      · refine o_aload_n hC dX2_putGroup_21 (by rfl) ?_
        refine o_getf hC (fX2_35 hC rfl) dX2_putGroup_22 (by repeat (first | with_reducible assumption | (rw [rl_u_s]; done) | (rw [rl_u_s]; rfl) | rw [rl_u_n (by first | with_reducible assumption | omega)])) (by first | rfl | with_reducible assumption) ?_
        refine o_iconst (v := nI 0) hC dX2_putGroup_25 (by decide +kernel) ?_
        refine o_aload_n hC dX2_putGroup_26 (by rfl) ?_
        refine o_getf hC (fX2_31 hC rfl) dX2_putGroup_27 (by repeat (first | with_reducible assumption | (rw [rl_u_s]; done) | (rw [rl_u_s]; rfl) | rw [rl_u_n (by first | with_reducible assumption | omega)])) (by first | rfl | with_reducible assumption) ?_
        refine o_iconst (v := nI 0) hC dX2_putGroup_30 (by decide +kernel) ?_
        refine o_aaldN (t0 := 3) (k := 0) hC rfl dX2_putGroup_31 o8 (by omega) (by decide) ?_
        rw [hg0]
        show rl_G X _ _ _ (.ref _ :: _) _ _ _ _
        refine o_getf hC (fX2_109 hC rfl) dX2_putGroup_32 (by repeat (first | with_reducible assumption | (rw [rl_u_s]; done) | (rw [rl_u_s]; rfl) | rw [rl_u_n (by first | with_reducible assumption | omega)])) (by first | rfl | with_reducible assumption) ?_
        refine o_aload_n hC dX2_putGroup_35 (by rfl) ?_
        refine o_getf hC (fX2_119 hC rfl) dX2_putGroup_36 (by repeat (first | with_reducible assumption | (rw [rl_u_s]; done) | (rw [rl_u_s]; rfl) | rw [rl_u_n (by first | with_reducible assumption | omega)])) (by first | rfl | with_reducible assumption) ?_
        refine o_ialdN (t0 := 0) (k := c4) hC rfl dX2_putGroup_39 e2 (by omega) (by decide) ?_
        refine o_iastN (t0 := 0) (k := 0) hC rfl dX2_putGroup_40 o9 (by decide) (by decide) ?_
        have f9 : ∀ q, q ≠ o + 9 → (rl_u h1 (o + 9) (.inl (ids 0, 6, .inl (upd kc 0 (S1.1 i c4))))) q = h1 q := fun q hq => rl_u_n hq
        have k9 : (rl_u h1 (o + 9) (.inl (ids 0, 6, .inl (upd kc 0 (S1.1 i c4))))) (o + 9) = some (.inl (ids 0, 6, .inl (upd kc 0 (S1.1 i c4)))) := rl_u_s
        generalize (rl_u h1 (o + 9) (.inl (ids 0, 6, .inl (upd kc 0 (S1.1 i c4))))) = hh at f9 k9 ⊢
        have ho2 : op_sh ids hh o so gp := ho1.ky k9 (fun q q1 q2 q3 => f9 q q3)
        have z0 := ho2.1
        have hi2 := hi1.eqv (h' := hh) (fun q q1 q2 => f9 q (by omega))
        have n2 := (f9 nd (by omega)).trans n1
        refine o_aload_n hC dX2_putGroup_41 (by rfl) ?_
        refine o_getf hC (fX2_35 hC rfl) dX2_putGroup_42 (by repeat (first | with_reducible assumption | (rw [rl_u_s]; done) | (rw [rl_u_s]; rfl) | rw [rl_u_n (by first | with_reducible assumption | omega)])) (by first | rfl | with_reducible assumption) ?_
        refine o_iconst (v := nI 1) hC dX2_putGroup_45 (by decide +kernel) ?_
        refine o_aload_n hC dX2_putGroup_46 (by rfl) ?_
        refine o_aload_n hC dX2_putGroup_47 (by rfl) ?_
        refine o_iload hC dX2_putGroup_48 (by rfl) ?_
        refine o_iload_n hC dX2_putGroup_50 (by rfl) ?_
        refine o_callV3 hC rl_BW_good rl_Ns_nw (by exact hB.2.2.2.2.2) YX2_foldedNumber IX2_foldedNumber VX2_foldedNumber (mX2_171 hC) (by rw [hB.1]; exact ct_X2_foldedNumber l D ids H0 _ _ o so a1 sz1 wd1 k gp P1 S1 _ nd c5 kd _ _ _ _ _ _ _ ho2 hi2 hoi hk4 hg n2 h5 h6) (by exact z0) rfl rfl (Nat.le_of_ble_eq_true rfl) (by rw [hB.2.1]; first | exact Nat.le_of_ble_eq_true rfl | (dsimp only; omega)) (by rw [hB.2.1]; first | exact Nat.le_of_ble_eq_true rfl | (dsimp only; omega)) (by rw [hB.2.1]; first | exact Nat.le_of_ble_eq_true rfl | (dsimp only; omega)) (by rw [hB.2.1]; first | exact Nat.le_of_ble_eq_true rfl | (dsimp only; omega)) dX2_putGroup_51 (fun v h_51 n_51 p_51 => ?_)
        obtain ⟨x5, rfl, rfl, rfl⟩ := p_51
        try dsimp only [Option.toList, List.cons_append, List.nil_append]
        refine o_iastN (t0 := 0) (k := 1) hC rfl dX2_putGroup_54 k9 (by decide) (by decide) ?_
        refine o_aload_n hC dX2_putGroup_55 (by rfl) ?_
        refine o_iload hC dX2_putGroup_56 (by rfl) ?_
        refine o_iload_n hC dX2_putGroup_58 (by rfl) ?_
        refine o_callV2 hC rl_BW_good rl_Ns_nw (by exact hB.2.2.2.2.2) YX2_makeWaysOfSet IX2_makeWaysOfSet VX2_makeWaysOfSet (mX2_175 hC) (by rw [hB.1]; exact ct_X2_makeWaysOfSet l D ids H0 _ _ o so a1 sz1 wd1 k gp P1 S1 _ (ho2.ky rl_u_s (fun q q1 q2 q3 => rl_u_n q3)) (hi2.eqv (fun q q1 q2 => rl_u_n (by omega))) hoi hk4 hg) (by rw [rl_u_n (by omega)]; exact z0) rfl rfl (Nat.le_of_ble_eq_true rfl) (by rw [hB.2.1]; first | exact Nat.le_of_ble_eq_true rfl | (dsimp only; omega)) (by rw [hB.2.1]; first | exact Nat.le_of_ble_eq_true rfl | (dsimp only; omega)) (by rw [hB.2.1]; first | exact Nat.le_of_ble_eq_true rfl | (dsimp only; omega)) (by rw [hB.2.1]; first | exact Nat.le_of_ble_eq_true rfl | (dsimp only; omega)) dX2_putGroup_59 (fun v h_59 n_59 p_59 => ?_)
        obtain ⟨x6, rfl, rfl, -, u1, u2⟩ := p_59
        have w9 : ∀ q, (q < o ∨ o + 22 ≤ q) → h_59 q = h1 q := fun q hq => by rw [u2 q (by omega), rl_u_n (by omega)]; exact f9 q (by omega)
        have ht3 : tb_at ids h_59 a sz0 wd P0 S0 := ht0.eqv (fun q q1 q2 => w9 q (by omega))
        obtain ⟨y0, -, ⟨yf, yg, yk, zm⟩, -, -, ⟨kc3, zk⟩, -⟩ := id u1
        try dsimp only [Option.toList, List.cons_append, List.nil_append]
        refine o_if_eq (tgt := 81) hC dX2_putGroup_62 (by decide) (fun c_62 => ?_) (fun c_62 => ?_)
        · refine o_iconst (v := nI 0) hC dX2_putGroup_81 (by decide +kernel) ?_
          refine o_zret hC hB dX2_putGroup_82 (by first | rfl | decide +kernel) (Nat.le_of_ble_eq_true rfl) (Nat.le_of_ble_eq_true rfl) ?_
          first
          | exact ⟨_, rfl, rfl, Or.inl rfl, ⟨_, q1⟩, q2, hf.tr (fun q z1 z2 => (q3 q (by omega) (by omega)).trans (w9 q (by omega)))⟩
          | exact ⟨_, rfl, rfl, Or.inl rfl, ⟨_, u1⟩, ⟨_, _, _, ht3⟩, hf.tr (fun q z1 z2 => w9 q (by omega))⟩
        · refine o_aload_n hC dX2_putGroup_65 (by rfl) ?_
          refine o_aload_n hC dX2_putGroup_66 (by rfl) ?_
          refine o_aload_n hC dX2_putGroup_67 (by rfl) ?_
          refine o_getf hC (fX2_35 hC rfl) dX2_putGroup_68 (by repeat (first | with_reducible assumption | (rw [rl_u_s]; done) | (rw [rl_u_s]; rfl) | rw [rl_u_n (by first | with_reducible assumption | omega)])) (by first | rfl | with_reducible assumption) ?_
          refine o_aload_n hC dX2_putGroup_71 (by rfl) ?_
          refine o_getf hC (fX2_21 hC rfl) dX2_putGroup_72 (by repeat (first | with_reducible assumption | (rw [rl_u_s]; done) | (rw [rl_u_s]; rfl) | rw [rl_u_n (by first | with_reducible assumption | omega)])) (by first | rfl | with_reducible assumption) ?_
          refine o_callV3 hC rl_BW_good rl_Ns_nw (by exact hB.2.2.2.2.2) YX2_put IX2_put VX2_put (mX2_99 hC) (by rw [hB.1]; exact ct_X2_put l D ids H0 _ _ o so a (o + 4) (o + 9) sz0 wd _ _ P0 S0 _ _ _ u1 ht3 zk zm (by omega) (by omega) (by omega) (by omega)) (by exact u1.1) rfl rfl (Nat.le_of_ble_eq_true rfl) (by rw [hB.2.1]; first | exact Nat.le_of_ble_eq_true rfl | (dsimp only; omega)) (by rw [hB.2.1]; first | exact Nat.le_of_ble_eq_true rfl | (dsimp only; omega)) (by rw [hB.2.1]; first | exact Nat.le_of_ble_eq_true rfl | (dsimp only; omega)) (by rw [hB.2.1]; first | exact Nat.le_of_ble_eq_true rfl | (dsimp only; omega)) dX2_putGroup_75 (fun v h_75 n_75 p_75 => ?_)
          obtain ⟨x, rfl, rfl, q0, q1, q2, q3⟩ := p_75
          try dsimp only [Option.toList, List.cons_append, List.nil_append]
          refine o_if_ne (tgt := 83) hC dX2_putGroup_78 (by decide) (fun c_78 => ?_) (fun c_78 => ?_)
          · refine o_iinc hC dX2_putGroup_83 (by rfl) (rl_inc _) (Nat.le_of_ble_eq_true rfl) ?_
            refine o_goto (tgt := 13) hC dX2_putGroup_86 (by decide) ?_
            exact ih (s + 1) _ (by omega) (by omega) q1 q2 (hf.tr (fun q z1 z2 => (q3 q (by omega) (by omega)).trans (w9 q (by omega))))
          · refine o_iconst (v := nI 0) hC dX2_putGroup_81 (by decide +kernel) ?_
            refine o_zret hC hB dX2_putGroup_82 (by first | rfl | decide +kernel) (Nat.le_of_ble_eq_true rfl) (Nat.le_of_ble_eq_true rfl) ?_
            first
            | exact ⟨_, rfl, rfl, Or.inl rfl, ⟨_, q1⟩, q2, hf.tr (fun q z1 z2 => (q3 q (by omega) (by omega)).trans (w9 q (by omega)))⟩
            | exact ⟨_, rfl, rfl, Or.inl rfl, ⟨_, u1⟩, ⟨_, _, _, ht3⟩, hf.tr (fun q z1 z2 => w9 q (by omega))⟩
  show rl_G X (rl_e D ids H0) 0 [some (.ref o), some (.ref nd), some (.int (nI k)), some (.ref a), none] [] h n 0 0
  refine o_aload_n hC dX2_putGroup_0 (by rfl) ?_
  refine o_iload_n hC dX2_putGroup_1 (by rfl) ?_
  refine o_callV1 hC rl_BW_good rl_Ns_nw (by exact hB.2.2.2.2.2) YX2_turnGroup IX2_turnGroup VX2_turnGroup (mX2_167 hC) (by rw [hB.1]; exact ct_X2_turnGroup l D ids H0 _ _ o so a1 sz1 wd1 k gp P1 S1 ho hi hoi hk4 hg) (by exact ho.1) rfl rfl (Nat.le_of_ble_eq_true rfl) (by rw [hB.2.1]; first | exact Nat.le_of_ble_eq_true rfl | (dsimp only; omega)) (by rw [hB.2.1]; first | exact Nat.le_of_ble_eq_true rfl | (dsimp only; omega)) (by rw [hB.2.1]; first | exact Nat.le_of_ble_eq_true rfl | (dsimp only; omega)) (by rw [hB.2.1]; first | exact Nat.le_of_ble_eq_true rfl | (dsimp only; omega)) dX2_putGroup_2 (fun v h_2 n_2 p_2 => ?_)
  obtain ⟨x0, rfl, rfl, -, v1, v2⟩ := p_2
  have v3 : tb_ok ids h_2 a wd := ht.eqv (fun q q1 q2 => v2 q (by omega))
  try dsimp only [Option.toList, List.cons_append, List.nil_append]
  refine o_if_ne (tgt := 10) hC dX2_putGroup_5 (by decide) (fun c_5 => ?_) (fun c_5 => ?_)
  · refine o_iconst (v := nI 1) hC dX2_putGroup_10 (by decide +kernel) ?_
    refine o_istore hC dX2_putGroup_11 (Nat.le_of_ble_eq_true rfl) ?_
    exact loop (M - 1) 1 _ (by omega) (Nat.le_refl _) v1 v3 v2.g1
  · refine o_iconst (v := nI 0) hC dX2_putGroup_8 (by decide +kernel) ?_
    refine o_zret hC hB dX2_putGroup_9 (by first | rfl | decide +kernel) (Nat.le_of_ble_eq_true rfl) (Nat.le_of_ble_eq_true rfl) ?_
    exact ⟨_, rfl, rfl, Or.inl rfl, ⟨_, v1⟩, v3, v2.g1⟩

set_option maxHeartbeats 4000000 in
set_option maxRecDepth 100000 in
theorem ct_X2_fillFold (l : Launch) (D : va_G) (ids : Nat → ClassId) (H0 : Heap) (h : rl_H) (n : Nat) (o so a a1 sz1 wd wd1 : Nat) (gp : Nat → Option Nat) (P1 : Nat → Nat) (S1 : tb_S) (nd c4 c5 kd : Nat) (f0 f1 f2 f3 f7 f8 : Int32) (ho : op_sh ids h o so gp) (ht : tb_ok ids h a wd) (hi : tb_at ids h a1 sz1 wd1 P1 S1) (hoa : o + 22 ≤ a ∨ a + 402 ≤ o) (hoi : o + 22 ≤ a1 ∨ a1 + 402 ≤ o) (hia : a1 + 402 ≤ a ∨ a + 402 ≤ a1) (hnd : h nd = some (.inr (1, [.int f0, .int f1, .int f2, .int f3, .int (nI c4), .int (nI c5), .int (nI kd), .int f7, .int f8]))) (h4 : c4 < 6) (h5 : c5 < 6) (h6 : kd ≤ 3) (hno : nd < o ∨ o + 22 ≤ nd) (hna : nd < a ∨ a + 402 ≤ nd) : rl_Met l (rl_e D ids H0) rl_BW rl_Ns yX2_fillFold cX2_fillFold 6 (some .boolean) ({ frames := 5, cells := 0, slots := 0, locals := 173 }) [.ref o, .ref nd, .ref a1, .ref a] h n (fun v h' n' => ∃ x : Int32, v = some (.int x) ∧ n' = n ∧ (x = nI 0 ∨ x = nI 1) ∧ (∃ gp' : Nat → Option Nat, op_sh ids h' o so gp') ∧ tb_ok ids h' a wd ∧ rl_g2 h h' o (o + 22) a (a + 402)) := by
  refine rl_Met.of (by decide +kernel) (Nat.le_of_ble_eq_true rfl) ?_
  intro X hC hB
  have loop : ∀ (m t : Nat) (o5 : Option Value) (h1 : rl_H) (gp1 : Nat → Option Nat), t + m = sz1 → op_sh ids h1 o so gp1 → tb_ok ids h1 a wd → rl_g2 h h1 o (o + 22) a (a + 402) → rl_G X (rl_e D ids H0) 3 [some (.ref o), some (.ref nd), some (.ref a1), some (.ref a), some (.int (nI t)), o5] [] h1 n 0 0 := by
    intro m
    induction m with
    | zero =>
      intro t o5 h1 gp1 hm ho1 ht1 hf
      obtain ⟨t1, ⟨tf, t2, t3⟩, t4, t5, t6, t7⟩ := hi.eqv (h' := h1) (fun q q1 q2 => hf q (by omega) (by omega))
      refine o_iload hC dX2_fillFold_3 (by rfl) ?_
      refine o_aload_n hC dX2_fillFold_5 (by rfl) ?_
      refine o_getf hC (fX2_103 hC rfl) dX2_fillFold_6 (by repeat (first | with_reducible assumption | (rw [rl_u_s]; done) | (rw [rl_u_s]; rfl) | rw [rl_u_n (by first | with_reducible assumption | omega)])) (by first | rfl | with_reducible assumption) ?_
      refine o_icmp_ge (tgt := 63) hC dX2_fillFold_9 (by decide) (fun c_9 => ?_) (fun c_9 => ?_)
      · refine o_iconst (v := nI 1) hC dX2_fillFold_63 (by decide +kernel) ?_
        refine o_zret hC hB dX2_fillFold_64 (by first | rfl | decide +kernel) (Nat.le_of_ble_eq_true rfl) (Nat.le_of_ble_eq_true rfl) ?_
        exact ⟨_, rfl, rfl, Or.inr rfl, ⟨_, ho1⟩, ht1, hf⟩
      · exact absurd (nI_le (by omega) (by omega)) c_9
    | succ m ih =>
      intro t o5 h1 gp1 hm ho1 ht1 hf
      have hi1 := hi.eqv (h' := h1) (fun q q1 q2 => hf q (by omega) (by omega))
      obtain ⟨t1, -, -, -, t6, -⟩ := id hi1
      have n1 := (hf nd (by omega) (by omega)).trans hnd
      refine o_iload hC dX2_fillFold_3 (by rfl) ?_
      refine o_aload_n hC dX2_fillFold_5 (by rfl) ?_
      refine o_getf hC (fX2_103 hC rfl) dX2_fillFold_6 (by repeat (first | with_reducible assumption | (rw [rl_u_s]; done) | (rw [rl_u_s]; rfl) | rw [rl_u_n (by first | with_reducible assumption | omega)])) (by first | rfl | with_reducible assumption) ?_
      refine o_icmp_ge (tgt := 63) hC dX2_fillFold_9 (by decide) (fun c_9 => ?_) (fun c_9 => ?_)
      · exact absurd c_9 (nI_ge (by omega) (by omega))
      · refine o_aload_n hC dX2_fillFold_12 (by rfl) ?_
        refine o_iload hC dX2_fillFold_13 (by rfl) ?_
        refine o_aload_n hC dX2_fillFold_15 (by rfl) ?_
        refine o_getf hC (fX2_119 hC rfl) dX2_fillFold_16 (by repeat (first | with_reducible assumption | (rw [rl_u_s]; done) | (rw [rl_u_s]; rfl) | rw [rl_u_n (by first | with_reducible assumption | omega)])) (by first | rfl | with_reducible assumption) ?_
        refine o_callS3 hC rl_BW_good rl_Ns_nw (by exact hB.2.2.2.2.2) YX2_isFirstOfGroup SX2_isFirstOfGroup (mX2_155 hC) (by rw [hB.1]; exact ct_X2_isFirstOfGroup l D ids H0 _ _ a1 sz1 wd1 t c4 P1 S1 hi1 (by omega) h4) (Nat.le_of_ble_eq_true rfl) (by rw [hB.2.1]; first | exact Nat.le_of_ble_eq_true rfl | (dsimp only; omega)) (by rw [hB.2.1]; first | exact Nat.le_of_ble_eq_true rfl | (dsimp only; omega)) (by rw [hB.2.1]; first | exact Nat.le_of_ble_eq_true rfl | (dsimp only; omega)) (by rw [hB.2.1]; first | exact Nat.le_of_ble_eq_true rfl | (dsimp only; omega)) dX2_fillFold_19 (fun v h_19 n_19 p_19 => ?_)
        obtain ⟨x0, rfl, rfl, rfl, -⟩ := p_19
        try dsimp only [Option.toList, List.cons_append, List.nil_append]
        refine o_if_eq (tgt := 57) hC dX2_fillFold_22 (by decide) (fun c_22 => ?_) (fun c_22 => ?_)
        · refine o_iinc hC dX2_fillFold_57 (by rfl) (rl_inc _) (Nat.le_of_ble_eq_true rfl) ?_
          refine o_goto (tgt := 3) hC dX2_fillFold_60 (by decide) ?_
          first
          | exact ih (t + 1) _ _ _ (by omega) q1 q2 (hf.tr (fun q z1 z2 => (q3 q (by omega) (by omega)).trans (v3 q (by omega))))
          | exact ih (t + 1) _ _ _ (by omega) ho1 ht1 hf
        · refine o_aload_n hC dX2_fillFold_25 (by rfl) ?_
          refine o_aload_n hC dX2_fillFold_26 (by rfl) ?_
          refine o_iload hC dX2_fillFold_27 (by rfl) ?_
          refine o_aload_n hC dX2_fillFold_29 (by rfl) ?_
          refine o_getf hC (fX2_119 hC rfl) dX2_fillFold_30 (by repeat (first | with_reducible assumption | (rw [rl_u_s]; done) | (rw [rl_u_s]; rfl) | rw [rl_u_n (by first | with_reducible assumption | omega)])) (by first | rfl | with_reducible assumption) ?_
          refine o_callV3 hC rl_BW_good rl_Ns_nw (by exact hB.2.2.2.2.2) YX2_gatherGroup IX2_gatherGroup VX2_gatherGroup (mX2_159 hC) (by rw [hB.1]; exact ct_X2_gatherGroup l D ids H0 _ _ o so a1 sz1 wd1 t c4 _ P1 S1 ho1 hi1 hoi (by omega) h4) (by exact ho1.1) rfl rfl (Nat.le_of_ble_eq_true rfl) (by rw [hB.2.1]; first | exact Nat.le_of_ble_eq_true rfl | (dsimp only; omega)) (by rw [hB.2.1]; first | exact Nat.le_of_ble_eq_true rfl | (dsimp only; omega)) (by rw [hB.2.1]; first | exact Nat.le_of_ble_eq_true rfl | (dsimp only; omega)) (by rw [hB.2.1]; first | exact Nat.le_of_ble_eq_true rfl | (dsimp only; omega)) dX2_fillFold_33 (fun v h_33 n_33 p_33 => ?_)
          obtain ⟨k, hk80, rfl, rfl, gp2, v1, v2, v3⟩ := p_33
          have hi3 := hi1.eqv (h' := h_33) (fun q q1 q2 => v3 q (by omega))
          have n3 := (v3 nd (by omega)).trans n1
          have ht3 : tb_ok ids h_33 a wd := ht1.eqv (fun q q1 q2 => v3 q (by omega))
          try dsimp only [Option.toList, List.cons_append, List.nil_append]
          refine o_istore hC dX2_fillFold_36 (Nat.le_of_ble_eq_true rfl) ?_
          refine o_iload hC dX2_fillFold_38 (by rfl) ?_
          refine o_iconst (v := nI 4) hC dX2_fillFold_40 (by decide +kernel) ?_
          refine o_icmp_gt (tgt := 55) hC dX2_fillFold_41 (by decide) (fun c_41 => ?_) (fun c_41 => ?_)
          · refine o_iconst (v := nI 0) hC dX2_fillFold_55 (by decide +kernel) ?_
            refine o_zret hC hB dX2_fillFold_56 (by first | rfl | decide +kernel) (Nat.le_of_ble_eq_true rfl) (Nat.le_of_ble_eq_true rfl) ?_
            first
            | exact ⟨_, rfl, rfl, Or.inl rfl, ⟨_, q1⟩, q2, hf.tr (fun q z1 z2 => (q3 q (by omega) (by omega)).trans (v3 q (by omega)))⟩
            | exact ⟨_, rfl, rfl, Or.inl rfl, ⟨_, v1⟩, ht3, hf.tr (fun q z1 z2 => v3 q (by omega))⟩
          · have hk4 : k ≤ 4 := by
              rcases Nat.lt_or_ge 4 k with q | q
              · exact absurd (nI_lt q (by omega)) c_41
              · exact q
            refine o_aload_n hC dX2_fillFold_44 (by rfl) ?_
            refine o_aload_n hC dX2_fillFold_45 (by rfl) ?_
            refine o_iload hC dX2_fillFold_46 (by rfl) ?_
            refine o_aload_n hC dX2_fillFold_48 (by rfl) ?_
            refine o_callV3 hC rl_BW_good rl_Ns_nw (by exact hB.2.2.2.2.2) YX2_putGroup IX2_putGroup VX2_putGroup (mX2_163 hC) (by rw [hB.1]; exact ct_X2_putGroup l D ids H0 _ _ o so a wd a1 sz1 wd1 k nd c4 c5 kd gp2 P1 S1 _ _ _ _ _ _ v1 ht3 (by omega) (by omega) hi3 (by omega) hk4 (fun j hj => v2 j hj (by omega)) n3 h4 h5 h6 hno hna) (by exact v1.1) rfl rfl (Nat.le_of_ble_eq_true rfl) (by rw [hB.2.1]; first | exact Nat.le_of_ble_eq_true rfl | (dsimp only; omega)) (by rw [hB.2.1]; first | exact Nat.le_of_ble_eq_true rfl | (dsimp only; omega)) (by rw [hB.2.1]; first | exact Nat.le_of_ble_eq_true rfl | (dsimp only; omega)) (by rw [hB.2.1]; first | exact Nat.le_of_ble_eq_true rfl | (dsimp only; omega)) dX2_fillFold_49 (fun v h_49 n_49 p_49 => ?_)
            obtain ⟨x, rfl, rfl, q0, ⟨gp3, q1⟩, q2, q3⟩ := p_49
            try dsimp only [Option.toList, List.cons_append, List.nil_append]
            refine o_if_ne (tgt := 57) hC dX2_fillFold_52 (by decide) (fun c_52 => ?_) (fun c_52 => ?_)
            · refine o_iinc hC dX2_fillFold_57 (by rfl) (rl_inc _) (Nat.le_of_ble_eq_true rfl) ?_
              refine o_goto (tgt := 3) hC dX2_fillFold_60 (by decide) ?_
              first
              | exact ih (t + 1) _ _ _ (by omega) q1 q2 (hf.tr (fun q z1 z2 => (q3 q (by omega) (by omega)).trans (v3 q (by omega))))
              | exact ih (t + 1) _ _ _ (by omega) ho1 ht1 hf
            · refine o_iconst (v := nI 0) hC dX2_fillFold_55 (by decide +kernel) ?_
              refine o_zret hC hB dX2_fillFold_56 (by first | rfl | decide +kernel) (Nat.le_of_ble_eq_true rfl) (Nat.le_of_ble_eq_true rfl) ?_
              first
              | exact ⟨_, rfl, rfl, Or.inl rfl, ⟨_, q1⟩, q2, hf.tr (fun q z1 z2 => (q3 q (by omega) (by omega)).trans (v3 q (by omega)))⟩
              | exact ⟨_, rfl, rfl, Or.inl rfl, ⟨_, v1⟩, ht3, hf.tr (fun q z1 z2 => v3 q (by omega))⟩
  show rl_G X (rl_e D ids H0) 0 [some (.ref o), some (.ref nd), some (.ref a1), some (.ref a), none, none] [] h n 0 0
  refine o_iconst (v := nI 0) hC dX2_fillFold_0 (by decide +kernel) ?_
  refine o_istore hC dX2_fillFold_1 (Nat.le_of_ble_eq_true rfl) ?_
  exact loop sz1 0 _ h gp (by omega) ho ht rl_g2.rf
