/-! Operators by shapes: what fills tables -/

set_option maxHeartbeats 4000000 in
set_option maxRecDepth 100000 in
theorem ct_X2_putAll (l : Launch) (D : va_G) (ids : Nat → ClassId) (H0 : Heap) (h : rl_H) (n : Nat) (o so a a1 sz1 wd wd1 : Nat) (gp : Nat → Option Nat) (P1 : Nat → Nat) (S1 : tb_S) (ho : op_sh ids h o so gp) (ht : tb_ok ids h a wd) (hi : tb_at ids h a1 sz1 wd1 P1 S1) (hoa : o + 22 ≤ a ∨ a + 402 ≤ o) (hoi : o + 22 ≤ a1 ∨ a1 + 402 ≤ o) (hia : a1 + 402 ≤ a ∨ a + 402 ≤ a1) : rl_Met l (rl_e D ids H0) rl_BW rl_Ns yX2_putAll cX2_putAll 4 (some .boolean) ({ frames := 4, cells := 0, slots := 0, locals := 149 }) [.ref o, .ref a1, .ref a] h n (fun v h' n' => ∃ x : Int32, v = some (.int x) ∧ n' = n ∧ (x = nI 0 ∨ x = nI 1) ∧ (∃ gp' : Nat → Option Nat, op_sh ids h' o so gp') ∧ tb_ok ids h' a wd ∧ rl_g2 h h' o (o + 22) a (a + 402)) := by
  refine rl_Met.of (by decide +kernel) (Nat.le_of_ble_eq_true rfl) ?_
  intro X hC hB
  have loop : ∀ (m t : Nat) (h1 : rl_H) (gp1 : Nat → Option Nat), t + m = sz1 → op_sh ids h1 o so gp1 → tb_ok ids h1 a wd → rl_g2 h h1 o (o + 22) a (a + 402) → rl_G X (rl_e D ids H0) 2 [some (.ref o), some (.ref a1), some (.ref a), some (.int (nI t))] [] h1 n 0 0 := by
    intro m
    induction m with
    | zero =>
      intro t h1 gp1 hm ho1 ht1 hf
      obtain ⟨t1, ⟨tf, t2, t3⟩, t4, t5, t6, t7⟩ := hi.eqv (h' := h1) (fun q q1 q2 => hf q (by omega) (by omega))
      refine o_iload_n hC dX2_putAll_2 (by rfl) ?_
      refine o_aload_n hC dX2_putAll_3 (by rfl) ?_
      refine o_getf hC (fX2_103 hC rfl) dX2_putAll_4 (by repeat (first | with_reducible assumption | (rw [rl_u_s]; done) | (rw [rl_u_s]; rfl) | rw [rl_u_n (by first | with_reducible assumption | omega)])) (by first | rfl | with_reducible assumption) ?_
      refine o_icmp_ge (tgt := 44) hC dX2_putAll_7 (by decide) (fun c_7 => ?_) (fun c_7 => ?_)
      · refine o_iconst (v := nI 1) hC dX2_putAll_44 (by decide +kernel) ?_
        refine o_zret hC hB dX2_putAll_45 (by first | rfl | decide +kernel) (Nat.le_of_ble_eq_true rfl) (Nat.le_of_ble_eq_true rfl) ?_
        exact ⟨_, rfl, rfl, Or.inr rfl, ⟨_, ho1⟩, ht1, hf⟩
      · exact absurd (nI_le (by omega) (by omega)) c_7
    | succ m ih =>
      intro t h1 gp1 hm ho1 ht1 hf
      obtain ⟨t1, ⟨tf, t2, t3⟩, t4, t5, t6, t7⟩ := hi.eqv (h' := h1) (fun q q1 q2 => hf q (by omega) (by omega))
      obtain ⟨sz0, P0, S0, ht0⟩ := id ht1
      have hb := t4 t (by omega)
      obtain ⟨e1, e2, e3⟩ := t5 (P1 t) hb
      refine o_iload_n hC dX2_putAll_2 (by rfl) ?_
      refine o_aload_n hC dX2_putAll_3 (by rfl) ?_
      refine o_getf hC (fX2_103 hC rfl) dX2_putAll_4 (by repeat (first | with_reducible assumption | (rw [rl_u_s]; done) | (rw [rl_u_s]; rfl) | rw [rl_u_n (by first | with_reducible assumption | omega)])) (by first | rfl | with_reducible assumption) ?_
      refine o_icmp_ge (tgt := 44) hC dX2_putAll_7 (by decide) (fun c_7 => ?_) (fun c_7 => ?_)
      · exact absurd c_7 (nI_ge (by omega) (by omega))
      · refine o_aload_n hC dX2_putAll_10 (by rfl) ?_
        refine o_aload_n hC dX2_putAll_11 (by rfl) ?_
        refine o_aload_n hC dX2_putAll_12 (by rfl) ?_
        refine o_getf hC (fX2_106 hC rfl) dX2_putAll_13 (by repeat (first | with_reducible assumption | (rw [rl_u_s]; done) | (rw [rl_u_s]; rfl) | rw [rl_u_n (by first | with_reducible assumption | omega)])) (by first | rfl | with_reducible assumption) ?_
        refine o_iload_n hC dX2_putAll_16 (by rfl) ?_
        refine o_aaldN (t0 := 3) hC rfl dX2_putAll_17 (by repeat (first | with_reducible assumption | (rw [rl_u_s]; done) | (rw [rl_u_s]; rfl) | rw [rl_u_n (by first | with_reducible assumption | omega)])) (by omega) (by decide) ?_
        rw [t3 _ (by omega)]
        show rl_G X _ _ _ (.ref _ :: _) _ _ _ _
        refine o_getf hC (fX2_109 hC rfl) dX2_putAll_18 (by repeat (first | with_reducible assumption | (rw [rl_u_s]; done) | (rw [rl_u_s]; rfl) | rw [rl_u_n (by first | with_reducible assumption | omega)])) (by first | rfl | with_reducible assumption) ?_
        refine o_aload_n hC dX2_putAll_21 (by rfl) ?_
        refine o_getf hC (fX2_106 hC rfl) dX2_putAll_22 (by repeat (first | with_reducible assumption | (rw [rl_u_s]; done) | (rw [rl_u_s]; rfl) | rw [rl_u_n (by first | with_reducible assumption | omega)])) (by first | rfl | with_reducible assumption) ?_
        refine o_iload_n hC dX2_putAll_25 (by rfl) ?_
        refine o_aaldN (t0 := 3) hC rfl dX2_putAll_26 (by repeat (first | with_reducible assumption | (rw [rl_u_s]; done) | (rw [rl_u_s]; rfl) | rw [rl_u_n (by first | with_reducible assumption | omega)])) (by omega) (by decide) ?_
        rw [t3 _ (by omega)]
        show rl_G X _ _ _ (.ref _ :: _) _ _ _ _
        refine o_getf hC (fX2_116 hC rfl) dX2_putAll_27 (by repeat (first | with_reducible assumption | (rw [rl_u_s]; done) | (rw [rl_u_s]; rfl) | rw [rl_u_n (by first | with_reducible assumption | omega)])) (by first | rfl | with_reducible assumption) ?_
        refine o_callV3 hC rl_BW_good rl_Ns_nw (by exact hB.2.2.2.2.2) YX2_put IX2_put VX2_put (mX2_99 hC) (by rw [hB.1]; exact ct_X2_put l D ids H0 _ _ o so a (a1 + 2 + 5 * P1 t + 2) (a1 + 2 + 5 * P1 t + 1) sz0 wd _ _ P0 S0 _ _ _ ho1 ht0 e2 e3 (by omega) (by omega) (by omega) (by omega)) (by exact ho1.1) rfl rfl (Nat.le_of_ble_eq_true rfl) (by rw [hB.2.1]; first | exact Nat.le_of_ble_eq_true rfl | (dsimp only; omega)) (by rw [hB.2.1]; first | exact Nat.le_of_ble_eq_true rfl | (dsimp only; omega)) (by rw [hB.2.1]; first | exact Nat.le_of_ble_eq_true rfl | (dsimp only; omega)) (by rw [hB.2.1]; first | exact Nat.le_of_ble_eq_true rfl | (dsimp only; omega)) dX2_putAll_30 (fun v h_30 n_30 p_30 => ?_)
        obtain ⟨x, rfl, rfl, q0, q1, q2, q3⟩ := p_30
        try dsimp only [Option.toList, List.cons_append, List.nil_append]
        refine o_if_ne (tgt := 38) hC dX2_putAll_33 (by decide) (fun c_33 => ?_) (fun c_33 => ?_)
        · refine o_iinc hC dX2_putAll_38 (by rfl) (rl_inc _) (Nat.le_of_ble_eq_true rfl) ?_
          refine o_goto (tgt := 2) hC dX2_putAll_41 (by decide) ?_
          exact ih (t + 1) _ _ (by omega) q1 q2 (hf.tr (q3.wd (by omega) (by omega) (Nat.le_refl _) (Nat.le_refl _)))
        · refine o_iconst (v := nI 0) hC dX2_putAll_36 (by decide +kernel) ?_
          refine o_zret hC hB dX2_putAll_37 (by first | rfl | decide +kernel) (Nat.le_of_ble_eq_true rfl) (Nat.le_of_ble_eq_true rfl) ?_
          exact ⟨_, rfl, rfl, Or.inl rfl, ⟨_, q1⟩, q2, hf.tr (q3.wd (by omega) (by omega) (Nat.le_refl _) (Nat.le_refl _))⟩
  show rl_G X (rl_e D ids H0) 0 [some (.ref o), some (.ref a1), some (.ref a), none] [] h n 0 0
  refine o_iconst (v := nI 0) hC dX2_putAll_0 (by decide +kernel) ?_
  refine o_istore_n hC dX2_putAll_1 (Nat.le_of_ble_eq_true rfl) ?_
  exact loop sz1 0 h gp (by omega) ho ht rl_g2.rf

set_option maxHeartbeats 4000000 in
set_option maxRecDepth 100000 in
theorem ct_X2_isPicked (l : Launch) (D : va_G) (ids : Nat → ClassId) (H0 : Heap) (h : rl_H) (n : Nat) (nd ca c4 kd : Nat) (f0 f1 f2 f3 f5 f7 f8 : Int32) (cc : Nat → Int32) (hnd : h nd = some (.inr (1, [.int f0, .int f1, .int f2, .int f3, .int (nI c4), .int f5, .int (nI kd), .int f7, .int f8]))) (hc : h ca = some (.inl (ids 0, 6, .inl cc))) (h4 : c4 < 6) (hf5 : f5 = -1 ∨ ∃ c5 : Nat, c5 < 6 ∧ f5 = nI c5) (h6 : kd ≤ 2) : rl_Met l (rl_e D ids H0) rl_BW rl_Ns yX2_isPicked cX2_isPicked 4 (some .boolean) ({ frames := 0, cells := 0, slots := 0, locals := 0 }) [.ref nd, .ref ca] h n (fun v h' n' => ∃ x : Int32, v = some (.int x) ∧ h' = h ∧ n' = n ∧ (x = nI 0 ∨ x = nI 1)) := by
  refine rl_Met.of (by decide +kernel) (Nat.le_of_ble_eq_true rfl) ?_
  intro X hC hB
  show rl_G X (rl_e D ids H0) 0 [some (.ref nd), some (.ref ca), none, none] [] h n 0 0
  refine o_aload_n hC dX2_isPicked_0 (by rfl) ?_
  refine o_aload_n hC dX2_isPicked_1 (by rfl) ?_
  refine o_getf hC (fX2_119 hC rfl) dX2_isPicked_2 (by repeat (first | with_reducible assumption | (rw [rl_u_s]; done) | (rw [rl_u_s]; rfl) | rw [rl_u_n (by first | with_reducible assumption | omega)])) (by first | rfl | with_reducible assumption) ?_
  refine o_ialdN (t0 := 0) (k := c4) hC rfl dX2_isPicked_5 hc (by omega) (by decide) ?_
  refine o_istore_n hC dX2_isPicked_6 (Nat.le_of_ble_eq_true rfl) ?_
  refine o_aload_n hC dX2_isPicked_7 (by rfl) ?_
  refine o_getf hC (fX2_122 hC rfl) dX2_isPicked_8 (by repeat (first | with_reducible assumption | (rw [rl_u_s]; done) | (rw [rl_u_s]; rfl) | rw [rl_u_n (by first | with_reducible assumption | omega)])) (by first | rfl | with_reducible assumption) ?_
  refine o_iconst (v := (-1 : Int32)) hC dX2_isPicked_11 (by decide +kernel) ?_
  refine o_icmp_ne (tgt := 22) hC dX2_isPicked_12 (by decide) (fun c_12 => ?_) (fun c_12 => ?_)
  · obtain ⟨c5, h5, rfl⟩ := hf5.resolve_left c_12
    refine o_aload_n hC dX2_isPicked_22 (by rfl) ?_
    refine o_aload_n hC dX2_isPicked_23 (by rfl) ?_
    refine o_getf hC (fX2_122 hC rfl) dX2_isPicked_24 (by repeat (first | with_reducible assumption | (rw [rl_u_s]; done) | (rw [rl_u_s]; rfl) | rw [rl_u_n (by first | with_reducible assumption | omega)])) (by first | rfl | with_reducible assumption) ?_
    refine o_ialdN (t0 := 0) (k := c5) hC rfl dX2_isPicked_27 hc (by omega) (by decide) ?_
    refine o_istore_n hC dX2_isPicked_28 (Nat.le_of_ble_eq_true rfl) ?_
    refine o_aload_n hC dX2_isPicked_29 (by rfl) ?_
    refine o_getf hC (fX2_125 hC rfl) dX2_isPicked_30 (by repeat (first | with_reducible assumption | (rw [rl_u_s]; done) | (rw [rl_u_s]; rfl) | rw [rl_u_n (by first | with_reducible assumption | omega)])) (by first | rfl | with_reducible assumption) ?_
    rcases (show kd = 0 ∨ kd = 1 ∨ kd = 2 by omega) with rfl | rfl | rfl
    · refine o_lookup (off := 27) (tgt := 60) hC dX2_isPicked_33 (by decide +kernel) (by decide +kernel) (by decide) ?_
      refine o_iload_n hC dX2_isPicked_60 (by rfl) ?_
      refine o_iload_n hC dX2_isPicked_61 (by rfl) ?_
      refine o_icmp_ge (tgt := 69) hC dX2_isPicked_62 (by decide) (fun c_62 => ?_) (fun c_62 => ?_)
      · refine o_iconst (v := nI 0) hC dX2_isPicked_69 (by decide +kernel) ?_
        refine o_zret hC hB dX2_isPicked_70 (by first | rfl | decide +kernel) (Nat.le_of_ble_eq_true rfl) (Nat.le_of_ble_eq_true rfl) ?_
        exact ⟨_, rfl, rfl, rfl, by first | exact Or.inl rfl | exact Or.inr rfl⟩
      · refine o_iconst (v := nI 1) hC dX2_isPicked_65 (by decide +kernel) ?_
        refine o_goto (tgt := 70) hC dX2_isPicked_66 (by decide) ?_
        refine o_zret hC hB dX2_isPicked_70 (by first | rfl | decide +kernel) (Nat.le_of_ble_eq_true rfl) (Nat.le_of_ble_eq_true rfl) ?_
        exact ⟨_, rfl, rfl, rfl, by first | exact Or.inl rfl | exact Or.inr rfl⟩
    · refine o_lookup (off := 38) (tgt := 71) hC dX2_isPicked_33 (by decide +kernel) (by decide +kernel) (by decide) ?_
      refine o_iload_n hC dX2_isPicked_71 (by rfl) ?_
      refine o_iload_n hC dX2_isPicked_72 (by rfl) ?_
      refine o_icmp_ne (tgt := 80) hC dX2_isPicked_73 (by decide) (fun c_73 => ?_) (fun c_73 => ?_)
      · refine o_iconst (v := nI 0) hC dX2_isPicked_80 (by decide +kernel) ?_
        refine o_zret hC hB dX2_isPicked_81 (by first | rfl | decide +kernel) (Nat.le_of_ble_eq_true rfl) (Nat.le_of_ble_eq_true rfl) ?_
        exact ⟨_, rfl, rfl, rfl, by first | exact Or.inl rfl | exact Or.inr rfl⟩
      · refine o_iconst (v := nI 1) hC dX2_isPicked_76 (by decide +kernel) ?_
        refine o_goto (tgt := 81) hC dX2_isPicked_77 (by decide) ?_
        refine o_zret hC hB dX2_isPicked_81 (by first | rfl | decide +kernel) (Nat.le_of_ble_eq_true rfl) (Nat.le_of_ble_eq_true rfl) ?_
        exact ⟨_, rfl, rfl, rfl, by first | exact Or.inl rfl | exact Or.inr rfl⟩
    · refine o_lookup (off := 49) (tgt := 82) hC dX2_isPicked_33 (by decide +kernel) (by decide +kernel) (by decide) ?_
      refine o_iload_n hC dX2_isPicked_82 (by rfl) ?_
      refine o_iload_n hC dX2_isPicked_83 (by rfl) ?_
      refine o_icmp_le (tgt := 91) hC dX2_isPicked_84 (by decide) (fun c_84 => ?_) (fun c_84 => ?_)
      · refine o_iconst (v := nI 0) hC dX2_isPicked_91 (by decide +kernel) ?_
        refine o_zret hC hB dX2_isPicked_92 (by first | rfl | decide +kernel) (Nat.le_of_ble_eq_true rfl) (Nat.le_of_ble_eq_true rfl) ?_
        exact ⟨_, rfl, rfl, rfl, by first | exact Or.inl rfl | exact Or.inr rfl⟩
      · refine o_iconst (v := nI 1) hC dX2_isPicked_87 (by decide +kernel) ?_
        refine o_goto (tgt := 92) hC dX2_isPicked_88 (by decide) ?_
        refine o_zret hC hB dX2_isPicked_92 (by first | rfl | decide +kernel) (Nat.le_of_ble_eq_true rfl) (Nat.le_of_ble_eq_true rfl) ?_
        exact ⟨_, rfl, rfl, rfl, by first | exact Or.inl rfl | exact Or.inr rfl⟩
  · refine o_aload_n hC dX2_isPicked_15 (by rfl) ?_
    refine o_getf hC (fX2_88 hC rfl) dX2_isPicked_16 (by repeat (first | with_reducible assumption | (rw [rl_u_s]; done) | (rw [rl_u_s]; rfl) | rw [rl_u_n (by first | with_reducible assumption | omega)])) (by first | rfl | with_reducible assumption) ?_
    refine o_goto (tgt := 28) hC dX2_isPicked_19 (by decide) ?_
    refine o_istore_n hC dX2_isPicked_28 (Nat.le_of_ble_eq_true rfl) ?_
    refine o_aload_n hC dX2_isPicked_29 (by rfl) ?_
    refine o_getf hC (fX2_125 hC rfl) dX2_isPicked_30 (by repeat (first | with_reducible assumption | (rw [rl_u_s]; done) | (rw [rl_u_s]; rfl) | rw [rl_u_n (by first | with_reducible assumption | omega)])) (by first | rfl | with_reducible assumption) ?_
    rcases (show kd = 0 ∨ kd = 1 ∨ kd = 2 by omega) with rfl | rfl | rfl
    · refine o_lookup (off := 27) (tgt := 60) hC dX2_isPicked_33 (by decide +kernel) (by decide +kernel) (by decide) ?_
      refine o_iload_n hC dX2_isPicked_60 (by rfl) ?_
      refine o_iload_n hC dX2_isPicked_61 (by rfl) ?_
      refine o_icmp_ge (tgt := 69) hC dX2_isPicked_62 (by decide) (fun c_62 => ?_) (fun c_62 => ?_)
      · refine o_iconst (v := nI 0) hC dX2_isPicked_69 (by decide +kernel) ?_
        refine o_zret hC hB dX2_isPicked_70 (by first | rfl | decide +kernel) (Nat.le_of_ble_eq_true rfl) (Nat.le_of_ble_eq_true rfl) ?_
        exact ⟨_, rfl, rfl, rfl, by first | exact Or.inl rfl | exact Or.inr rfl⟩
      · refine o_iconst (v := nI 1) hC dX2_isPicked_65 (by decide +kernel) ?_
        refine o_goto (tgt := 70) hC dX2_isPicked_66 (by decide) ?_
        refine o_zret hC hB dX2_isPicked_70 (by first | rfl | decide +kernel) (Nat.le_of_ble_eq_true rfl) (Nat.le_of_ble_eq_true rfl) ?_
        exact ⟨_, rfl, rfl, rfl, by first | exact Or.inl rfl | exact Or.inr rfl⟩
    · refine o_lookup (off := 38) (tgt := 71) hC dX2_isPicked_33 (by decide +kernel) (by decide +kernel) (by decide) ?_
      refine o_iload_n hC dX2_isPicked_71 (by rfl) ?_
      refine o_iload_n hC dX2_isPicked_72 (by rfl) ?_
      refine o_icmp_ne (tgt := 80) hC dX2_isPicked_73 (by decide) (fun c_73 => ?_) (fun c_73 => ?_)
      · refine o_iconst (v := nI 0) hC dX2_isPicked_80 (by decide +kernel) ?_
        refine o_zret hC hB dX2_isPicked_81 (by first | rfl | decide +kernel) (Nat.le_of_ble_eq_true rfl) (Nat.le_of_ble_eq_true rfl) ?_
        exact ⟨_, rfl, rfl, rfl, by first | exact Or.inl rfl | exact Or.inr rfl⟩
      · refine o_iconst (v := nI 1) hC dX2_isPicked_76 (by decide +kernel) ?_
        refine o_goto (tgt := 81) hC dX2_isPicked_77 (by decide) ?_
        refine o_zret hC hB dX2_isPicked_81 (by first | rfl | decide +kernel) (Nat.le_of_ble_eq_true rfl) (Nat.le_of_ble_eq_true rfl) ?_
        exact ⟨_, rfl, rfl, rfl, by first | exact Or.inl rfl | exact Or.inr rfl⟩
    · refine o_lookup (off := 49) (tgt := 82) hC dX2_isPicked_33 (by decide +kernel) (by decide +kernel) (by decide) ?_
      refine o_iload_n hC dX2_isPicked_82 (by rfl) ?_
      refine o_iload_n hC dX2_isPicked_83 (by rfl) ?_
      refine o_icmp_le (tgt := 91) hC dX2_isPicked_84 (by decide) (fun c_84 => ?_) (fun c_84 => ?_)
      · refine o_iconst (v := nI 0) hC dX2_isPicked_91 (by decide +kernel) ?_
        refine o_zret hC hB dX2_isPicked_92 (by first | rfl | decide +kernel) (Nat.le_of_ble_eq_true rfl) (Nat.le_of_ble_eq_true rfl) ?_
        exact ⟨_, rfl, rfl, rfl, by first | exact Or.inl rfl | exact Or.inr rfl⟩
      · refine o_iconst (v := nI 1) hC dX2_isPicked_87 (by decide +kernel) ?_
        refine o_goto (tgt := 92) hC dX2_isPicked_88 (by decide) ?_
        refine o_zret hC hB dX2_isPicked_92 (by first | rfl | decide +kernel) (Nat.le_of_ble_eq_true rfl) (Nat.le_of_ble_eq_true rfl) ?_
        exact ⟨_, rfl, rfl, rfl, by first | exact Or.inl rfl | exact Or.inr rfl⟩

set_option maxHeartbeats 4000000 in
set_option maxRecDepth 100000 in
theorem ct_X2_fillPick (l : Launch) (D : va_G) (ids : Nat → ClassId) (H0 : Heap) (h : rl_H) (n : Nat) (o so a a1 sz1 wd wd1 : Nat) (gp : Nat → Option Nat) (P1 : Nat → Nat) (S1 : tb_S) (nd c4 kd : Nat) (f0 f1 f2 f3 f5 f7 f8 : Int32) (ho : op_sh ids h o so gp) (ht : tb_ok ids h a wd) (hi : tb_at ids h a1 sz1 wd1 P1 S1) (hoa : o + 22 ≤ a ∨ a + 402 ≤ o) (hoi : o + 22 ≤ a1 ∨ a1 + 402 ≤ o) (hia : a1 + 402 ≤ a ∨ a + 402 ≤ a1) (hnd : h nd = some (.inr (1, [.int f0, .int f1, .int f2, .int f3, .int (nI c4), .int f5, .int (nI kd), .int f7, .int f8]))) (h4 : c4 < 6) (hf5 : f5 = -1 ∨ ∃ c5 : Nat, c5 < 6 ∧ f5 = nI c5) (h6 : kd ≤ 2) (hno : nd < o ∨ o + 22 ≤ nd) (hna : nd < a ∨ a + 402 ≤ nd) : rl_Met l (rl_e D ids H0) rl_BW rl_Ns yX2_fillPick cX2_fillPick 6 (some .boolean) ({ frames := 4, cells := 0, slots := 0, locals := 149 }) [.ref o, .ref nd, .ref a1, .ref a] h n (fun v h' n' => ∃ x : Int32, v = some (.int x) ∧ n' = n ∧ (x = nI 0 ∨ x = nI 1) ∧ (∃ gp' : Nat → Option Nat, op_sh ids h' o so gp') ∧ tb_ok ids h' a wd ∧ rl_g2 h h' o (o + 22) a (a + 402)) := by
  refine rl_Met.of (by decide +kernel) (Nat.le_of_ble_eq_true rfl) ?_
  intro X hC hB
  have loop : ∀ (m t : Nat) (o5 : Option Value) (h1 : rl_H) (gp1 : Nat → Option Nat), t + m = sz1 → op_sh ids h1 o so gp1 → tb_ok ids h1 a wd → rl_g2 h h1 o (o + 22) a (a + 402) → rl_G X (rl_e D ids H0) 3 [some (.ref o), some (.ref nd), some (.ref a1), some (.ref a), some (.int (nI t)), o5] [] h1 n 0 0 := by
    intro m
    induction m with
    | zero =>
      intro t o5 h1 gp1 hm ho1 ht1 hf
      obtain ⟨t1, ⟨tf, t2, t3⟩, t4, t5, t6, t7⟩ := hi.eqv (h' := h1) (fun q q1 q2 => hf q (by omega) (by omega))
      refine o_iload hC dX2_fillPick_3 (by rfl) ?_
      refine o_aload_n hC dX2_fillPick_5 (by rfl) ?_
      refine o_getf hC (fX2_103 hC rfl) dX2_fillPick_6 (by repeat (first | with_reducible assumption | (rw [rl_u_s]; done) | (rw [rl_u_s]; rfl) | rw [rl_u_n (by first | with_reducible assumption | omega)])) (by first | rfl | with_reducible assumption) ?_
      refine o_icmp_ge (tgt := 59) hC dX2_fillPick_9 (by decide) (fun c_9 => ?_) (fun c_9 => ?_)
      · refine o_iconst (v := nI 1) hC dX2_fillPick_59 (by decide +kernel) ?_
        refine o_zret hC hB dX2_fillPick_60 (by first | rfl | decide +kernel) (Nat.le_of_ble_eq_true rfl) (Nat.le_of_ble_eq_true rfl) ?_
        exact ⟨_, rfl, rfl, Or.inr rfl, ⟨_, ho1⟩, ht1, hf⟩
      · exact absurd (nI_le (by omega) (by omega)) c_9
    | succ m ih =>
      intro t o5 h1 gp1 hm ho1 ht1 hf
      obtain ⟨t1, ⟨tf, t2, t3⟩, t4, t5, t6, t7⟩ := hi.eqv (h' := h1) (fun q q1 q2 => hf q (by omega) (by omega))
      obtain ⟨sz0, P0, S0, ht0⟩ := id ht1
      have n1 := (hf nd (by omega) (by omega)).trans hnd
      have hb := t4 t (by omega)
      obtain ⟨e1, e2, e3⟩ := t5 (P1 t) hb
      refine o_iload hC dX2_fillPick_3 (by rfl) ?_
      refine o_aload_n hC dX2_fillPick_5 (by rfl) ?_
      refine o_getf hC (fX2_103 hC rfl) dX2_fillPick_6 (by repeat (first | with_reducible assumption | (rw [rl_u_s]; done) | (rw [rl_u_s]; rfl) | rw [rl_u_n (by first | with_reducible assumption | omega)])) (by first | rfl | with_reducible assumption) ?_
      refine o_icmp_ge (tgt := 59) hC dX2_fillPick_9 (by decide) (fun c_9 => ?_) (fun c_9 => ?_)
      · exact absurd c_9 (nI_ge (by omega) (by omega))
      · refine o_aload_n hC dX2_fillPick_12 (by rfl) ?_
        refine o_getf hC (fX2_106 hC rfl) dX2_fillPick_13 (by repeat (first | with_reducible assumption | (rw [rl_u_s]; done) | (rw [rl_u_s]; rfl) | rw [rl_u_n (by first | with_reducible assumption | omega)])) (by first | rfl | with_reducible assumption) ?_
        refine o_iload hC dX2_fillPick_16 (by rfl) ?_
        refine o_aaldN (t0 := 3) hC rfl dX2_fillPick_18 (by repeat (first | with_reducible assumption | (rw [rl_u_s]; done) | (rw [rl_u_s]; rfl) | rw [rl_u_n (by first | with_reducible assumption | omega)])) (by omega) (by decide) ?_
        rw [t3 _ (by omega)]
        show rl_G X _ _ _ (.ref _ :: _) _ _ _ _
        refine o_astore hC dX2_fillPick_19 (Nat.le_of_ble_eq_true rfl) ?_
        refine o_aload_n hC dX2_fillPick_21 (by rfl) ?_
        refine o_aload hC dX2_fillPick_22 (by rfl) ?_
        refine o_getf hC (fX2_109 hC rfl) dX2_fillPick_24 (by repeat (first | with_reducible assumption | (rw [rl_u_s]; done) | (rw [rl_u_s]; rfl) | rw [rl_u_n (by first | with_reducible assumption | omega)])) (by first | rfl | with_reducible assumption) ?_
        refine o_callS2 hC rl_BW_good rl_Ns_nw (by exact hB.2.2.2.2.2) YX2_isPicked SX2_isPicked (mX2_112 hC) (by rw [hB.1]; exact ct_X2_isPicked l D ids H0 _ _ nd (a1 + 2 + 5 * P1 t + 1) c4 kd _ _ _ _ f5 _ _ _ n1 e2 h4 hf5 h6) (Nat.le_of_ble_eq_true rfl) (by rw [hB.2.1]; first | exact Nat.le_of_ble_eq_true rfl | (dsimp only; omega)) (by rw [hB.2.1]; first | exact Nat.le_of_ble_eq_true rfl | (dsimp only; omega)) (by rw [hB.2.1]; first | exact Nat.le_of_ble_eq_true rfl | (dsimp only; omega)) (by rw [hB.2.1]; first | exact Nat.le_of_ble_eq_true rfl | (dsimp only; omega)) dX2_fillPick_27 (fun v h_27 n_27 p_27 => ?_)
        obtain ⟨x0, rfl, rfl, rfl, q9⟩ := p_27
        try dsimp only [Option.toList, List.cons_append, List.nil_append]
        refine o_if_eq (tgt := 53) hC dX2_fillPick_30 (by decide) (fun c_30 => ?_) (fun c_30 => ?_)
        · refine o_iinc hC dX2_fillPick_53 (by rfl) (rl_inc _) (Nat.le_of_ble_eq_true rfl) ?_
          refine o_goto (tgt := 3) hC dX2_fillPick_56 (by decide) ?_
          first
          | exact ih (t + 1) _ _ _ (by omega) q1 q2 (hf.tr (q3.wd (by omega) (by omega) (Nat.le_refl _) (Nat.le_refl _)))
          | exact ih (t + 1) _ _ _ (by omega) ho1 ht1 hf
        · refine o_aload_n hC dX2_fillPick_33 (by rfl) ?_
          refine o_aload_n hC dX2_fillPick_34 (by rfl) ?_
          refine o_aload hC dX2_fillPick_35 (by rfl) ?_
          refine o_getf hC (fX2_109 hC rfl) dX2_fillPick_37 (by repeat (first | with_reducible assumption | (rw [rl_u_s]; done) | (rw [rl_u_s]; rfl) | rw [rl_u_n (by first | with_reducible assumption | omega)])) (by first | rfl | with_reducible assumption) ?_
          refine o_aload hC dX2_fillPick_40 (by rfl) ?_
          refine o_getf hC (fX2_116 hC rfl) dX2_fillPick_42 (by repeat (first | with_reducible assumption | (rw [rl_u_s]; done) | (rw [rl_u_s]; rfl) | rw [rl_u_n (by first | with_reducible assumption | omega)])) (by first | rfl | with_reducible assumption) ?_
          refine o_callV3 hC rl_BW_good rl_Ns_nw (by exact hB.2.2.2.2.2) YX2_put IX2_put VX2_put (mX2_99 hC) (by rw [hB.1]; exact ct_X2_put l D ids H0 _ _ o so a (a1 + 2 + 5 * P1 t + 2) (a1 + 2 + 5 * P1 t + 1) sz0 wd _ _ P0 S0 _ _ _ ho1 ht0 e2 e3 (by omega) (by omega) (by omega) (by omega)) (by exact ho1.1) rfl rfl (Nat.le_of_ble_eq_true rfl) (by rw [hB.2.1]; first | exact Nat.le_of_ble_eq_true rfl | (dsimp only; omega)) (by rw [hB.2.1]; first | exact Nat.le_of_ble_eq_true rfl | (dsimp only; omega)) (by rw [hB.2.1]; first | exact Nat.le_of_ble_eq_true rfl | (dsimp only; omega)) (by rw [hB.2.1]; first | exact Nat.le_of_ble_eq_true rfl | (dsimp only; omega)) dX2_fillPick_45 (fun v h_45 n_45 p_45 => ?_)
          obtain ⟨x, rfl, rfl, q0, q1, q2, q3⟩ := p_45
          try dsimp only [Option.toList, List.cons_append, List.nil_append]
          refine o_if_ne (tgt := 53) hC dX2_fillPick_48 (by decide) (fun c_48 => ?_) (fun c_48 => ?_)
          · refine o_iinc hC dX2_fillPick_53 (by rfl) (rl_inc _) (Nat.le_of_ble_eq_true rfl) ?_
            refine o_goto (tgt := 3) hC dX2_fillPick_56 (by decide) ?_
            first
            | exact ih (t + 1) _ _ _ (by omega) q1 q2 (hf.tr (q3.wd (by omega) (by omega) (Nat.le_refl _) (Nat.le_refl _)))
            | exact ih (t + 1) _ _ _ (by omega) ho1 ht1 hf
          · refine o_iconst (v := nI 0) hC dX2_fillPick_51 (by decide +kernel) ?_
            refine o_zret hC hB dX2_fillPick_52 (by first | rfl | decide +kernel) (Nat.le_of_ble_eq_true rfl) (Nat.le_of_ble_eq_true rfl) ?_
            exact ⟨_, rfl, rfl, Or.inl rfl, ⟨_, q1⟩, q2, hf.tr (q3.wd (by omega) (by omega) (Nat.le_refl _) (Nat.le_refl _))⟩
  show rl_G X (rl_e D ids H0) 0 [some (.ref o), some (.ref nd), some (.ref a1), some (.ref a), none, none] [] h n 0 0
  refine o_iconst (v := nI 0) hC dX2_fillPick_0 (by decide +kernel) ?_
  refine o_istore hC dX2_fillPick_1 (Nat.le_of_ble_eq_true rfl) ?_
  exact loop sz1 0 _ h gp (by omega) ho ht rl_g2.rf
