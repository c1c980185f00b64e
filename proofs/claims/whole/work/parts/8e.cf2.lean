/-! THE CLASS, functionally: what fills tables -/
theorem pcnd_0 (x y : Int32) : pcnd (nI 0) x y = !decide (y ≤ x) := if_pos (by decide +kernel)
theorem pcnd_1 (x y : Int32) : pcnd (nI 1) x y = decide (x = y) := (if_neg (by decide +kernel)).trans (if_pos rfl)
theorem pcnd_2 (x y : Int32) : pcnd (nI 2) x y = !decide (x ≤ y) := (if_neg (by decide +kernel)).trans (if_neg (by decide +kernel))

set_option maxHeartbeats 4000000 in
set_option maxRecDepth 100000 in
theorem cp_X2_putAll (l : Launch) (D : va_G) (ids : Nat → ClassId) (H0 : Heap) (h : rl_H) (n : Nat) (o so a a1 wd : Nat) (gp : Nat → Option Nat) (tab tb : List arow) (ho : op_sh ids h o so gp) (ht : ctb ids h a wd tab) (hok : aok wd tab) (hi : ctb ids h a1 wd tb) (hbk : aok wd tb) (hoa : o + 22 ≤ a ∨ a + 402 ≤ o) (hoi : o + 22 ≤ a1 ∨ a1 + 402 ≤ o) (hia : a1 + 402 ≤ a ∨ a + 402 ≤ a1) : rl_Met l (rl_e D ids H0) rl_BW rl_Ns yX2_putAll cX2_putAll 4 (some .boolean) ({ frames := 4, cells := 0, slots := 0, locals := 149 }) [.ref o, .ref a1, .ref a] h n (fun v h' n' => ∃ x : Int32, v = some (.int x) ∧ n' = n ∧ (∃ gp' : Nat → Option Nat, op_sh ids h' o so gp') ∧ rl_g2 h h' o (o + 22) a (a + 402) ∧ pres ids h' a wd (aall tab (tb.map (fun r => (r.1, some r.2)))) x) := by
  obtain ⟨P1, S1, hi0, hP1, hrow1⟩ := id hi
  have tl80 := hbk.2.2
  refine rl_Met.of (by decide +kernel) (Nat.le_of_ble_eq_true rfl) ?_
  intro X hC hB
  have loop : ∀ (m t : Nat) (h1 : rl_H) (gp1 : Nat → Option Nat) (tab1 : List arow), t + m = tb.length → op_sh ids h1 o so gp1 → ctb ids h1 a wd tab1 → aok wd tab1 → rl_g2 h h1 o (o + 22) a (a + 402) → aall tab (tb.map (fun r => (r.1, some r.2))) = aall tab1 ((tb.map (fun r => (r.1, some r.2))).drop t) → rl_G X (rl_e D ids H0) 2 [some (.ref o), some (.ref a1), some (.ref a), some (.int (nI t))] [] h1 n 0 0 := by
    intro m
    induction m with
    | zero =>
      intro t h1 gp1 tab1 hm ho1 ht1 hk1 hf he
      obtain ⟨t1, ⟨tf, t2, t3⟩, t4, t5, t6, t7⟩ := hi0.eqv (h' := h1) (fun q q1 q2 => hf q (by omega) (by omega))
      refine o_iload_n hC dX2_putAll_2 (by rfl) ?_
      refine o_aload_n hC dX2_putAll_3 (by rfl) ?_
      refine o_getf hC (fX2_103 hC rfl) dX2_putAll_4 (by repeat (first | with_reducible assumption | (rw [rl_u_s]; done) | (rw [rl_u_s]; rfl) | rw [rl_u_n (by first | with_reducible assumption | omega)])) (by first | rfl | with_reducible assumption) ?_
      refine o_icmp_ge (tgt := 44) hC dX2_putAll_7 (by decide) (fun c_7 => ?_) (fun c_7 => ?_)
      · refine o_iconst (v := nI 1) hC dX2_putAll_44 (by decide +kernel) ?_
        refine o_zret hC hB dX2_putAll_45 (by first | rfl | decide +kernel) (Nat.le_of_ble_eq_true rfl) (Nat.le_of_ble_eq_true rfl) ?_
        exact ⟨_, rfl, rfl, ⟨_, ho1⟩, hf, Or.inl ⟨tab1, by rw [he, List.drop_eq_nil_of_le (by rw [List.length_map]; omega)]; rfl, rfl, ht1, hk1⟩⟩
      · exact absurd (nI_le (by omega) (by omega)) c_7
    | succ m ih =>
      intro t h1 gp1 tab1 hm ho1 ht1 hk1 hf he
      obtain ⟨t1, ⟨tf, t2, t3⟩, t4, t5, t6, t7⟩ := hi0.eqv (h' := h1) (fun q q1 q2 => hf q (by omega) (by omega))
      have htl : t < tb.length := by omega
      have hb := t4 t (by omega)
      obtain ⟨e1, e2, e3⟩ := t5 (P1 t) hb
      have hrt := hbk.2.1 _ (List.getElem_mem htl)
      rw [← ark_at] at hrt
      have er := hrow1 t htl
      have w3 : wat ids h1 (a1 + 2 + 5 * P1 t + 2) (ark tb t).2 := by
        rw [← er]
        exact e3.wat
      refine o_iload_n hC dX2_putAll_2 (by rfl) ?_
      refine o_aload_n hC dX2_putAll_3 (by rfl) ?_
      refine o_getf hC (fX2_103 hC rfl) dX2_putAll_4 (by repeat (first | with_reducible assumption | (rw [rl_u_s]; done) | (rw [rl_u_s]; rfl) | rw [rl_u_n (by first | with_reducible assumption | omega)])) (by first | rfl | with_reducible assumption) ?_
      refine o_icmp_ge (tgt := 44) hC dX2_putAll_7 (by decide) (fun c_7 => ?_) (fun c_7 => ?_)
      · exact absurd c_7 (nI_ge (by omega) (by omega))
      · refine o_aload_n hC dX2_putAll_10 (by rfl) ?_
        refine o_aload_n hC dX2_putAll_11 (by rfl) ?_
        refine o_aload_n hC dX2_putAll_12 (by rfl) ?_
        refine o_getf hC (fX2_106 hC rfl) dX2_putAll_13 (by repeat (first | with_reducible assumption | (rw [rl_u_s]; done) | (rw [rl_u_s]; rfl) | rw [rl_u_n (by first | with_reducible assumption | omega)])) (by first | rfl | with_reducible assumption) ?_
        refine o_iload_n hC dX2_putAll_16 (by rfl) ?_
        refine o_aaldN (t0 := 3) hC rfl dX2_putAll_17 (by repeat (first | with_reducible assumption | (rw [rl_u_s]; done) | (rw [rl_u_s]; rfl) | rw [rl_u_n (by first | with_reducible assumption | omega)])) (by omega) (by decide) ?_
        rw [t3 _ (by omega)]
        show rl_G X _ _ _ (.ref _ :: _) _ _ _ _
        refine o_getf hC (fX2_109 hC rfl) dX2_putAll_18 (by repeat (first | with_reducible assumption | (rw [rl_u_s]; done) | (rw [rl_u_s]; rfl) | rw [rl_u_n (by first | with_reducible assumption | omega)])) (by first | rfl | with_reducible assumption) ?_
        refine o_aload_n hC dX2_putAll_21 (by rfl) ?_
        refine o_getf hC (fX2_106 hC rfl) dX2_putAll_22 (by repeat (first | with_reducible assumption | (rw [rl_u_s]; done) | (rw [rl_u_s]; rfl) | rw [rl_u_n (by first | with_reducible assumption | omega)])) (by first | rfl | with_reducible assumption) ?_
        refine o_iload_n hC dX2_putAll_25 (by rfl) ?_
        refine o_aaldN (t0 := 3) hC rfl dX2_putAll_26 (by repeat (first | with_reducible assumption | (rw [rl_u_s]; done) | (rw [rl_u_s]; rfl) | rw [rl_u_n (by first | with_reducible assumption | omega)])) (by omega) (by decide) ?_
        rw [t3 _ (by omega)]
        show rl_G X _ _ _ (.ref _ :: _) _ _ _ _
        refine o_getf hC (fX2_116 hC rfl) dX2_putAll_27 (by repeat (first | with_reducible assumption | (rw [rl_u_s]; done) | (rw [rl_u_s]; rfl) | rw [rl_u_n (by first | with_reducible assumption | omega)])) (by first | rfl | with_reducible assumption) ?_
        refine o_callV3 hC rl_BW_good rl_Ns_nw (by exact hB.2.2.2.2.2) YX2_put IX2_put VX2_put (mX2_99 hC) (by rw [hB.1]; exact cp_X2_put l D ids H0 _ _ o so a (a1 + 2 + 5 * P1 t + 2) (a1 + 2 + 5 * P1 t + 1) wd _ _ _ _ ho1 ht1 hk1 e2 w3 hrt.2.1 (by omega) (by omega) (by omega) (by omega)) (by exact ho1.1) rfl rfl (Nat.le_of_ble_eq_true rfl) (by rw [hB.2.1]; first | exact Nat.le_of_ble_eq_true rfl | (dsimp only; omega)) (by rw [hB.2.1]; first | exact Nat.le_of_ble_eq_true rfl | (dsimp only; omega)) (by rw [hB.2.1]; first | exact Nat.le_of_ble_eq_true rfl | (dsimp only; omega)) (by rw [hB.2.1]; first | exact Nat.le_of_ble_eq_true rfl | (dsimp only; omega)) dX2_putAll_30 (fun v h_30 n_30 p_30 => ?_)
        obtain ⟨x, rfl, rfl, q1, q3, q2⟩ := p_30
        have ek : rcl (S1.1 (P1 t)) wd = (ark tb t).1 := congrArg Prod.fst er
        rw [ek] at q2
        try dsimp only [Option.toList, List.cons_append, List.nil_append]
        refine o_if_ne (tgt := 38) hC dX2_putAll_33 (by decide) (fun c_33 => ?_) (fun c_33 => ?_)
        · refine o_iinc hC dX2_putAll_38 (by rfl) (rl_inc _) (Nat.le_of_ble_eq_true rfl) ?_
          refine o_goto (tgt := 2) hC dX2_putAll_41 (by decide) ?_
          rcases q2 with ⟨tab2, y1, y2, y3, y4⟩ | ⟨-, y2, -⟩
          rotate_left
          · exact absurd y2 c_33
          refine ih (t + 1) _ _ tab2 (by omega) q1 y3 y4 (hf.tr (q3.wd (by omega) (by omega) (Nat.le_refl _) (Nat.le_refl _))) ?_
          rw [he, ark_drop htl]
          show (aput tab1 _ _).bind _ = _
          rw [y1]
          rfl
        · refine o_iconst (v := nI 0) hC dX2_putAll_36 (by decide +kernel) ?_
          refine o_zret hC hB dX2_putAll_37 (by first | rfl | decide +kernel) (Nat.le_of_ble_eq_true rfl) (Nat.le_of_ble_eq_true rfl) ?_
          rcases q2 with ⟨tab2, y1, y2, -, -⟩ | ⟨y1, y2, y3⟩
          · exact absurd (c_33.symm.trans y2) (by decide +kernel)
          · refine ⟨_, rfl, rfl, ⟨_, q1⟩, hf.tr (q3.wd (by omega) (by omega) (Nat.le_refl _) (Nat.le_refl _)), Or.inr ⟨?_, rfl, y3⟩⟩
            rw [he, ark_drop htl]
            show (aput tab1 _ _).bind _ = _
            rw [y1]
            rfl
  show rl_G X (rl_e D ids H0) 0 [some (.ref o), some (.ref a1), some (.ref a), none] [] h n 0 0
  refine o_iconst (v := nI 0) hC dX2_putAll_0 (by decide +kernel) ?_
  refine o_istore_n hC dX2_putAll_1 (Nat.le_of_ble_eq_true rfl) ?_
  exact loop tb.length 0 h gp tab (by omega) ho ht hok rl_g2.rf rfl

set_option maxHeartbeats 4000000 in
set_option maxRecDepth 100000 in
theorem cp_X2_isPicked (l : Launch) (D : va_G) (ids : Nat → ClassId) (H0 : Heap) (h : rl_H) (n : Nat) (nd ca c4 kd : Nat) (f0 f1 f2 f3 f5 f7 f8 yv : Int32) (cc : Nat → Int32) (hnd : h nd = some (.inr (1, [.int f0, .int f1, .int f2, .int f3, .int (nI c4), .int f5, .int (nI kd), .int f7, .int f8]))) (hc : h ca = some (.inl (ids 0, 6, .inl cc))) (h4 : c4 < 6) (hy : (f5 = -1 ∧ yv = f7) ∨ ∃ c5 : Nat, c5 < 6 ∧ f5 = nI c5 ∧ yv = cc c5) (h6 : kd ≤ 2) : rl_Met l (rl_e D ids H0) rl_BW rl_Ns yX2_isPicked cX2_isPicked 4 (some .boolean) ({ frames := 0, cells := 0, slots := 0, locals := 0 }) [.ref nd, .ref ca] h n (fun v h' n' => ∃ x : Int32, v = some (.int x) ∧ h' = h ∧ n' = n ∧ x = (if pcnd (nI kd) (cc c4) yv then nI 1 else nI 0)) := by
  refine rl_Met.of (by decide +kernel) (Nat.le_of_ble_eq_true rfl) ?_
  intro X hC hB
  show rl_G X (rl_e D ids H0) 0 [some (.ref nd), some (.ref ca), none, none] [] h n 0 0
  refine o_aload_n hC dX2_isPicked_0 (by rfl) ?_
  refine o_aload_n hC dX2_isPicked_1 (by rfl) ?_
  refine o_getf hC (fX2_119 hC rfl) dX2_isPicked_2 (by repeat (first | with_reducible assumption | (rw [rl_u_s]; done) | (rw [rl_u_s]; rfl) | rw [rl_u_n (by first | with_reducible assumption | omega)])) (by first | rfl | with_reducible assumption) ?_
  refine o_ialdN (t0 := 0) (k := c4) hC rfl dX2_isPicked_5 hc (by omega) (by decide) ?_
  refine o_istore_n hC dX2_isPicked_6 (Nat.le_of_ble_eq_true rfl) ?_
  refine o_aload_n hC dX2_isPicked_7 (by rfl) ?_
  refine o_getf hC (fX2_122 hC rfl) dX2_isPicked_8 (by repeat (first | with_reducible assumption | (rw [rl_u_s]; done) | (rw [rl_u_s]; rfl) | rw [rl_u_n (by first | with_reducible assumption | omega)])) (by first | rfl | with_reducible assumption) ?_
  refine o_iconst (v := (-1 : Int32)) hC dX2_isPicked_11 (by decide +kernel) ?_
  refine o_icmp_ne (tgt := 22) hC dX2_isPicked_12 (by decide) (fun c_12 => ?_) (fun c_12 => ?_)
  · obtain ⟨c5, h5, rfl, rfl⟩ := hy.resolve_left (fun q => c_12 q.1)
    refine o_aload_n hC dX2_isPicked_22 (by rfl) ?_
    refine o_aload_n hC dX2_isPicked_23 (by rfl) ?_
    refine o_getf hC (fX2_122 hC rfl) dX2_isPicked_24 (by repeat (first | with_reducible assumption | (rw [rl_u_s]; done) | (rw [rl_u_s]; rfl) | rw [rl_u_n (by first | with_reducible assumption | omega)])) (by first | rfl | with_reducible assumption) ?_
    refine o_ialdN (t0 := 0) (k := c5) hC rfl dX2_isPicked_27 hc (by omega) (by decide) ?_
    refine o_istore_n hC dX2_isPicked_28 (Nat.le_of_ble_eq_true rfl) ?_
    refine o_aload_n hC dX2_isPicked_29 (by rfl) ?_
    refine o_getf hC (fX2_125 hC rfl) dX2_isPicked_30 (by repeat (first | with_reducible assumption | (rw [rl_u_s]; done) | (rw [rl_u_s]; rfl) | rw [rl_u_n (by first | with_reducible assumption | omega)])) (by first | rfl | with_reducible assumption) ?_
    rcases (show kd = 0 ∨ kd = 1 ∨ kd = 2 by omega) with rfl | rfl | rfl
    · refine o_lookup (off := 27) (tgt := 60) hC dX2_isPicked_33 (by decide +kernel) (by decide +kernel) (by decide) ?_
      refine o_iload_n hC dX2_isPicked_60 (by rfl) ?_
      refine o_iload_n hC dX2_isPicked_61 (by rfl) ?_
      refine o_icmp_ge (tgt := 69) hC dX2_isPicked_62 (by decide) (fun c_62 => ?_) (fun c_62 => ?_)
      · refine o_iconst (v := nI 0) hC dX2_isPicked_69 (by decide +kernel) ?_
        refine o_zret hC hB dX2_isPicked_70 (by first | rfl | decide +kernel) (Nat.le_of_ble_eq_true rfl) (Nat.le_of_ble_eq_true rfl) ?_
        first
        | exact ⟨_, rfl, rfl, rfl, by rw [pcnd_0, decide_eq_true c_62]; rfl⟩
        | exact ⟨_, rfl, rfl, rfl, by rw [pcnd_0, decide_eq_false c_62]; rfl⟩
      · refine o_iconst (v := nI 1) hC dX2_isPicked_65 (by decide +kernel) ?_
        refine o_goto (tgt := 70) hC dX2_isPicked_66 (by decide) ?_
        refine o_zret hC hB dX2_isPicked_70 (by first | rfl | decide +kernel) (Nat.le_of_ble_eq_true rfl) (Nat.le_of_ble_eq_true rfl) ?_
        first
        | exact ⟨_, rfl, rfl, rfl, by rw [pcnd_0, decide_eq_true c_62]; rfl⟩
        | exact ⟨_, rfl, rfl, rfl, by rw [pcnd_0, decide_eq_false c_62]; rfl⟩
    · refine o_lookup (off := 38) (tgt := 71) hC dX2_isPicked_33 (by decide +kernel) (by decide +kernel) (by decide) ?_
      refine o_iload_n hC dX2_isPicked_71 (by rfl) ?_
      refine o_iload_n hC dX2_isPicked_72 (by rfl) ?_
      refine o_icmp_ne (tgt := 80) hC dX2_isPicked_73 (by decide) (fun c_73 => ?_) (fun c_73 => ?_)
      · refine o_iconst (v := nI 0) hC dX2_isPicked_80 (by decide +kernel) ?_
        refine o_zret hC hB dX2_isPicked_81 (by first | rfl | decide +kernel) (Nat.le_of_ble_eq_true rfl) (Nat.le_of_ble_eq_true rfl) ?_
        first
        | exact ⟨_, rfl, rfl, rfl, by rw [pcnd_1, decide_eq_true c_73]; rfl⟩
        | exact ⟨_, rfl, rfl, rfl, by rw [pcnd_1, decide_eq_false c_73]; rfl⟩
      · refine o_iconst (v := nI 1) hC dX2_isPicked_76 (by decide +kernel) ?_
        refine o_goto (tgt := 81) hC dX2_isPicked_77 (by decide) ?_
        refine o_zret hC hB dX2_isPicked_81 (by first | rfl | decide +kernel) (Nat.le_of_ble_eq_true rfl) (Nat.le_of_ble_eq_true rfl) ?_
        first
        | exact ⟨_, rfl, rfl, rfl, by rw [pcnd_1, decide_eq_true c_73]; rfl⟩
        | exact ⟨_, rfl, rfl, rfl, by rw [pcnd_1, decide_eq_false c_73]; rfl⟩
    · refine o_lookup (off := 49) (tgt := 82) hC dX2_isPicked_33 (by decide +kernel) (by decide +kernel) (by decide) ?_
      refine o_iload_n hC dX2_isPicked_82 (by rfl) ?_
      refine o_iload_n hC dX2_isPicked_83 (by rfl) ?_
      refine o_icmp_le (tgt := 91) hC dX2_isPicked_84 (by decide) (fun c_84 => ?_) (fun c_84 => ?_)
      · refine o_iconst (v := nI 0) hC dX2_isPicked_91 (by decide +kernel) ?_
        refine o_zret hC hB dX2_isPicked_92 (by first | rfl | decide +kernel) (Nat.le_of_ble_eq_true rfl) (Nat.le_of_ble_eq_true rfl) ?_
        first
        | exact ⟨_, rfl, rfl, rfl, by rw [pcnd_2, decide_eq_true c_84]; rfl⟩
        | exact ⟨_, rfl, rfl, rfl, by rw [pcnd_2, decide_eq_false c_84]; rfl⟩
      · refine o_iconst (v := nI 1) hC dX2_isPicked_87 (by decide +kernel) ?_
        refine o_goto (tgt := 92) hC dX2_isPicked_88 (by decide) ?_
        refine o_zret hC hB dX2_isPicked_92 (by first | rfl | decide +kernel) (Nat.le_of_ble_eq_true rfl) (Nat.le_of_ble_eq_true rfl) ?_
        first
        | exact ⟨_, rfl, rfl, rfl, by rw [pcnd_2, decide_eq_true c_84]; rfl⟩
        | exact ⟨_, rfl, rfl, rfl, by rw [pcnd_2, decide_eq_false c_84]; rfl⟩
  · obtain ⟨-, rfl⟩ := hy.resolve_right (fun ⟨q, q1, q2, q3⟩ => absurd (q2.symm.trans c_12) (fun e => absurd (e ▸ (show (-1 : Int32) < 0 by decide +kernel)) (nI_pos (by omega))))
    refine o_aload_n hC dX2_isPicked_15 (by rfl) ?_
    refine o_getf hC (fX2_88 hC rfl) dX2_isPicked_16 (by repeat (first | with_reducible assumption | (rw [rl_u_s]; done) | (rw [rl_u_s]; rfl) | rw [rl_u_n (by first | with_reducible assumption | omega)])) (by first | rfl | with_reducible assumption) ?_
    refine o_goto (tgt := 28) hC dX2_isPicked_19 (by decide) ?_
    refine o_istore_n hC dX2_isPicked_28 (Nat.le_of_ble_eq_true rfl) ?_
    refine o_aload_n hC dX2_isPicked_29 (by rfl) ?_
    refine o_getf hC (fX2_125 hC rfl) dX2_isPicked_30 (by repeat (first | with_reducible assumption | (rw [rl_u_s]; done) | (rw [rl_u_s]; rfl) | rw [rl_u_n (by first | with_reducible assumption | omega)])) (by first | rfl | with_reducible assumption) ?_
    rcases (show kd = 0 ∨ kd = 1 ∨ kd = 2 by omega) with rfl | rfl | rfl
    · refine o_lookup (off := 27) (tgt := 60) hC dX2_isPicked_33 (by decide +kernel) (by decide +kernel) (by decide) ?_
      refine o_iload_n hC dX2_isPicked_60 (by rfl) ?_
      refine o_iload_n hC dX2_isPicked_61 (by rfl) ?_
      refine o_icmp_ge (tgt := 69) hC dX2_isPicked_62 (by decide) (fun c_62 => ?_) (fun c_62 => ?_)
      · refine o_iconst (v := nI 0) hC dX2_isPicked_69 (by decide +kernel) ?_
        refine o_zret hC hB dX2_isPicked_70 (by first | rfl | decide +kernel) (Nat.le_of_ble_eq_true rfl) (Nat.le_of_ble_eq_true rfl) ?_
        first
        | exact ⟨_, rfl, rfl, rfl, by rw [pcnd_0, decide_eq_true c_62]; rfl⟩
        | exact ⟨_, rfl, rfl, rfl, by rw [pcnd_0, decide_eq_false c_62]; rfl⟩
      · refine o_iconst (v := nI 1) hC dX2_isPicked_65 (by decide +kernel) ?_
        refine o_goto (tgt := 70) hC dX2_isPicked_66 (by decide) ?_
        refine o_zret hC hB dX2_isPicked_70 (by first | rfl | decide +kernel) (Nat.le_of_ble_eq_true rfl) (Nat.le_of_ble_eq_true rfl) ?_
        first
        | exact ⟨_, rfl, rfl, rfl, by rw [pcnd_0, decide_eq_true c_62]; rfl⟩
        | exact ⟨_, rfl, rfl, rfl, by rw [pcnd_0, decide_eq_false c_62]; rfl⟩
    · refine o_lookup (off := 38) (tgt := 71) hC dX2_isPicked_33 (by decide +kernel) (by decide +kernel) (by decide) ?_
      refine o_iload_n hC dX2_isPicked_71 (by rfl) ?_
      refine o_iload_n hC dX2_isPicked_72 (by rfl) ?_
      refine o_icmp_ne (tgt := 80) hC dX2_isPicked_73 (by decide) (fun c_73 => ?_) (fun c_73 => ?_)
      · refine o_iconst (v := nI 0) hC dX2_isPicked_80 (by decide +kernel) ?_
        refine o_zret hC hB dX2_isPicked_81 (by first | rfl | decide +kernel) (Nat.le_of_ble_eq_true rfl) (Nat.le_of_ble_eq_true rfl) ?_
        first
        | exact ⟨_, rfl, rfl, rfl, by rw [pcnd_1, decide_eq_true c_73]; rfl⟩
        | exact ⟨_, rfl, rfl, rfl, by rw [pcnd_1, decide_eq_false c_73]; rfl⟩
      · refine o_iconst (v := nI 1) hC dX2_isPicked_76 (by decide +kernel) ?_
        refine o_goto (tgt := 81) hC dX2_isPicked_77 (by decide) ?_
        refine o_zret hC hB dX2_isPicked_81 (by first | rfl | decide +kernel) (Nat.le_of_ble_eq_true rfl) (Nat.le_of_ble_eq_true rfl) ?_
        first
        | exact ⟨_, rfl, rfl, rfl, by rw [pcnd_1, decide_eq_true c_73]; rfl⟩
        | exact ⟨_, rfl, rfl, rfl, by rw [pcnd_1, decide_eq_false c_73]; rfl⟩
    · refine o_lookup (off := 49) (tgt := 82) hC dX2_isPicked_33 (by decide +kernel) (by decide +kernel) (by decide) ?_
      refine o_iload_n hC dX2_isPicked_82 (by rfl) ?_
      refine o_iload_n hC dX2_isPicked_83 (by rfl) ?_
      refine o_icmp_le (tgt := 91) hC dX2_isPicked_84 (by decide) (fun c_84 => ?_) (fun c_84 => ?_)
      · refine o_iconst (v := nI 0) hC dX2_isPicked_91 (by decide +kernel) ?_
        refine o_zret hC hB dX2_isPicked_92 (by first | rfl | decide +kernel) (Nat.le_of_ble_eq_true rfl) (Nat.le_of_ble_eq_true rfl) ?_
        first
        | exact ⟨_, rfl, rfl, rfl, by rw [pcnd_2, decide_eq_true c_84]; rfl⟩
        | exact ⟨_, rfl, rfl, rfl, by rw [pcnd_2, decide_eq_false c_84]; rfl⟩
      · refine o_iconst (v := nI 1) hC dX2_isPicked_87 (by decide +kernel) ?_
        refine o_goto (tgt := 92) hC dX2_isPicked_88 (by decide) ?_
        refine o_zret hC hB dX2_isPicked_92 (by first | rfl | decide +kernel) (Nat.le_of_ble_eq_true rfl) (Nat.le_of_ble_eq_true rfl) ?_
        first
        | exact ⟨_, rfl, rfl, rfl, by rw [pcnd_2, decide_eq_true c_84]; rfl⟩
        | exact ⟨_, rfl, rfl, rfl, by rw [pcnd_2, decide_eq_false c_84]; rfl⟩

set_option maxHeartbeats 4000000 in
set_option maxRecDepth 100000 in
theorem cp_X2_fillPick (l : Launch) (D : va_G) (ids : Nat → ClassId) (H0 : Heap) (h : rl_H) (n : Nat) (o so a a1 wd : Nat) (gp : Nat → Option Nat) (tab tb : List arow) (nd c4 kd : Nat) (oc : Option Nat) (f0 f1 f2 f3 f5 f7 f8 : Int32) (ho : op_sh ids h o so gp) (ht : ctb ids h a wd tab) (hok : aok wd tab) (hi : ctb ids h a1 wd tb) (hbk : aok wd tb) (hoa : o + 22 ≤ a ∨ a + 402 ≤ o) (hoi : o + 22 ≤ a1 ∨ a1 + 402 ≤ o) (hia : a1 + 402 ≤ a ∨ a + 402 ≤ a1) (hnd : h nd = some (.inr (1, [.int f0, .int f1, .int f2, .int f3, .int (nI c4), .int f5, .int (nI kd), .int f7, .int f8]))) (h4 : c4 < wd) (hw6 : wd ≤ 6) (hoc : (oc = none ∧ f5 = -1) ∨ ∃ c : Nat, oc = some c ∧ c < wd ∧ f5 = nI c) (h6 : kd ≤ 2) (hno : nd < o ∨ o + 22 ≤ nd) (hna : nd < a ∨ a + 402 ≤ nd) : rl_Met l (rl_e D ids H0) rl_BW rl_Ns yX2_fillPick cX2_fillPick 6 (some .boolean) ({ frames := 4, cells := 0, slots := 0, locals := 149 }) [.ref o, .ref nd, .ref a1, .ref a] h n (fun v h' n' => ∃ x : Int32, v = some (.int x) ∧ n' = n ∧ (∃ gp' : Nat → Option Nat, op_sh ids h' o so gp') ∧ rl_g2 h h' o (o + 22) a (a + 402) ∧ pres ids h' a wd (aall tab ((tb.filter (fun r => ppk (nI kd) f7 c4 oc r)).map (fun r => (r.1, some r.2)))) x) := by
  obtain ⟨P1, S1, hi0, hP1, hrow1⟩ := id hi
  have tl80 := hbk.2.2
  refine rl_Met.of (by decide +kernel) (Nat.le_of_ble_eq_true rfl) ?_
  intro X hC hB
  have loop : ∀ (m t : Nat) (o5 : Option Value) (h1 : rl_H) (gp1 : Nat → Option Nat) (tab1 : List arow), t + m = tb.length → op_sh ids h1 o so gp1 → ctb ids h1 a wd tab1 → aok wd tab1 → rl_g2 h h1 o (o + 22) a (a + 402) → aall tab ((tb.filter (fun r => ppk (nI kd) f7 c4 oc r)).map (fun r => (r.1, some r.2))) = aall tab1 (((tb.drop t).filter (fun r => ppk (nI kd) f7 c4 oc r)).map (fun r => (r.1, some r.2))) → rl_G X (rl_e D ids H0) 3 [some (.ref o), some (.ref nd), some (.ref a1), some (.ref a), some (.int (nI t)), o5] [] h1 n 0 0 := by
    intro m
    induction m with
    | zero =>
      intro t o5 h1 gp1 tab1 hm ho1 ht1 hk1 hf he
      obtain ⟨t1, ⟨tf, t2, t3⟩, t4, t5, t6, t7⟩ := hi0.eqv (h' := h1) (fun q q1 q2 => hf q (by omega) (by omega))
      refine o_iload hC dX2_fillPick_3 (by rfl) ?_
      refine o_aload_n hC dX2_fillPick_5 (by rfl) ?_
      refine o_getf hC (fX2_103 hC rfl) dX2_fillPick_6 (by repeat (first | with_reducible assumption | (rw [rl_u_s]; done) | (rw [rl_u_s]; rfl) | rw [rl_u_n (by first | with_reducible assumption | omega)])) (by first | rfl | with_reducible assumption) ?_
      refine o_icmp_ge (tgt := 59) hC dX2_fillPick_9 (by decide) (fun c_9 => ?_) (fun c_9 => ?_)
      · refine o_iconst (v := nI 1) hC dX2_fillPick_59 (by decide +kernel) ?_
        refine o_zret hC hB dX2_fillPick_60 (by first | rfl | decide +kernel) (Nat.le_of_ble_eq_true rfl) (Nat.le_of_ble_eq_true rfl) ?_
        exact ⟨_, rfl, rfl, ⟨_, ho1⟩, hf, Or.inl ⟨tab1, by rw [he, List.drop_eq_nil_of_le (by omega)]; rfl, rfl, ht1, hk1⟩⟩
      · exact absurd (nI_le (by omega) (by omega)) c_9
    | succ m ih =>
      intro t o5 h1 gp1 tab1 hm ho1 ht1 hk1 hf he
      obtain ⟨t1, ⟨tf, t2, t3⟩, t4, t5, t6, t7⟩ := hi0.eqv (h' := h1) (fun q q1 q2 => hf q (by omega) (by omega))
      have htl : t < tb.length := by omega
      have hb := t4 t (by omega)
      obtain ⟨e1, e2, e3⟩ := t5 (P1 t) hb
      have hrt := hbk.2.1 _ (List.getElem_mem htl)
      rw [← ark_at] at hrt
      have er := hrow1 t htl
      have w3 : wat ids h1 (a1 + 2 + 5 * P1 t + 2) (ark tb t).2 := by
        rw [← er]
        exact e3.wat
      have n1 := (hf nd (by omega) (by omega)).trans hnd
      have ekk : rcl (S1.1 (P1 t)) wd = (ark tb t).1 := congrArg Prod.fst er
      have gc : ∀ c : Nat, c < wd → acg (ark tb t) c = S1.1 (P1 t) c := fun c hc => by
        show (ark tb t).1.getD c 0 = _
        rw [← ekk, rsg_get hc]
      have hy : (f5 = -1 ∧ oc.elim f7 (acg (ark tb t)) = f7) ∨ ∃ c5 : Nat, c5 < 6 ∧ f5 = nI c5 ∧ oc.elim f7 (acg (ark tb t)) = S1.1 (P1 t) c5 := by
        rcases hoc with ⟨q1, q2⟩ | ⟨c, q1, q2, q3⟩
        · exact Or.inl ⟨q2, by rw [q1]; rfl⟩
        · exact Or.inr ⟨c, by omega, q3, by rw [q1]; exact gc c q2⟩
      rw [ark_dropp htl] at he
      refine o_iload hC dX2_fillPick_3 (by rfl) ?_
      refine o_aload_n hC dX2_fillPick_5 (by rfl) ?_
      refine o_getf hC (fX2_103 hC rfl) dX2_fillPick_6 (by repeat (first | with_reducible assumption | (rw [rl_u_s]; done) | (rw [rl_u_s]; rfl) | rw [rl_u_n (by first | with_reducible assumption | omega)])) (by first | rfl | with_reducible assumption) ?_
      refine o_icmp_ge (tgt := 59) hC dX2_fillPick_9 (by decide) (fun c_9 => ?_) (fun c_9 => ?_)
      · exact absurd c_9 (nI_ge (by omega) (by omega))
      · refine o_aload_n hC dX2_fillPick_12 (by rfl) ?_
        refine o_getf hC (fX2_106 hC rfl) dX2_fillPick_13 (by repeat (first | with_reducible assumption | (rw [rl_u_s]; done) | (rw [rl_u_s]; rfl) | rw [rl_u_n (by first | with_reducible assumption | omega)])) (by first | rfl | with_reducible assumption) ?_
        refine o_iload hC dX2_fillPick_16 (by rfl) ?_
        refine o_aaldN (t0 := 3) hC rfl dX2_fillPick_18 (by repeat (first | with_reducible assumption | (rw [rl_u_s]; done) | (rw [rl_u_s]; rfl) | rw [rl_u_n (by first | with_reducible assumption | omega)])) (by omega) (by decide) ?_
        rw [t3 _ (by omega)]
        show rl_G X _ _ _ (.ref _ :: _) _ _ _ _
        refine o_astore hC dX2_fillPick_19 (Nat.le_of_ble_eq_true rfl) ?_
        refine o_aload_n hC dX2_fillPick_21 (by rfl) ?_
        refine o_aload hC dX2_fillPick_22 (by rfl) ?_
        refine o_getf hC (fX2_109 hC rfl) dX2_fillPick_24 (by repeat (first | with_reducible assumption | (rw [rl_u_s]; done) | (rw [rl_u_s]; rfl) | rw [rl_u_n (by first | with_reducible assumption | omega)])) (by first | rfl | with_reducible assumption) ?_
        refine o_callS2 hC rl_BW_good rl_Ns_nw (by exact hB.2.2.2.2.2) YX2_isPicked SX2_isPicked (mX2_112 hC) (by rw [hB.1]; exact cp_X2_isPicked l D ids H0 _ _ nd (a1 + 2 + 5 * P1 t + 1) c4 kd _ _ _ _ f5 f7 _ (oc.elim f7 (acg (ark tb t))) _ n1 e2 (by omega) hy h6) (Nat.le_of_ble_eq_true rfl) (by rw [hB.2.1]; first | exact Nat.le_of_ble_eq_true rfl | (dsimp only; omega)) (by rw [hB.2.1]; first | exact Nat.le_of_ble_eq_true rfl | (dsimp only; omega)) (by rw [hB.2.1]; first | exact Nat.le_of_ble_eq_true rfl | (dsimp only; omega)) (by rw [hB.2.1]; first | exact Nat.le_of_ble_eq_true rfl | (dsimp only; omega)) dX2_fillPick_27 (fun v h_27 n_27 p_27 => ?_)
        obtain ⟨x0, rfl, rfl, rfl, q9⟩ := p_27
        rw [← gc c4 h4] at q9
        replace q9 : x0 = if ppk (nI kd) f7 c4 oc (ark tb t) then nI 1 else nI 0 := q9
        try dsimp only [Option.toList, List.cons_append, List.nil_append]
        refine o_if_eq (tgt := 53) hC dX2_fillPick_30 (by decide) (fun c_30 => ?_) (fun c_30 => ?_)
        · refine o_iinc hC dX2_fillPick_53 (by rfl) (rl_inc _) (Nat.le_of_ble_eq_true rfl) ?_
          refine o_goto (tgt := 3) hC dX2_fillPick_56 (by decide) ?_
          have hp : ¬ ppk (nI kd) f7 c4 oc (ark tb t) = true := by
            intro e
            rw [e] at q9
            exact absurd (q9.symm.trans c_30) (by decide +kernel)
          rw [List.filter_cons_of_neg (p := (fun r => ppk (nI kd) f7 c4 oc r)) hp] at he
          exact ih (t + 1) _ _ _ tab1 (by omega) ho1 ht1 hk1 hf he
        · have hp : ppk (nI kd) f7 c4 oc (ark tb t) = true := by
            cases e : ppk (nI kd) f7 c4 oc (ark tb t) with
            | true => rfl
            | false => rw [e] at q9; exact absurd q9 c_30
          rw [List.filter_cons_of_pos (p := (fun r => ppk (nI kd) f7 c4 oc r)) hp, List.map_cons] at he
          refine o_aload_n hC dX2_fillPick_33 (by rfl) ?_
          refine o_aload_n hC dX2_fillPick_34 (by rfl) ?_
          refine o_aload hC dX2_fillPick_35 (by rfl) ?_
          refine o_getf hC (fX2_109 hC rfl) dX2_fillPick_37 (by repeat (first | with_reducible assumption | (rw [rl_u_s]; done) | (rw [rl_u_s]; rfl) | rw [rl_u_n (by first | with_reducible assumption | omega)])) (by first | rfl | with_reducible assumption) ?_
          refine o_aload hC dX2_fillPick_40 (by rfl) ?_
          refine o_getf hC (fX2_116 hC rfl) dX2_fillPick_42 (by repeat (first | with_reducible assumption | (rw [rl_u_s]; done) | (rw [rl_u_s]; rfl) | rw [rl_u_n (by first | with_reducible assumption | omega)])) (by first | rfl | with_reducible assumption) ?_
          refine o_callV3 hC rl_BW_good rl_Ns_nw (by exact hB.2.2.2.2.2) YX2_put IX2_put VX2_put (mX2_99 hC) (by rw [hB.1]; exact cp_X2_put l D ids H0 _ _ o so a (a1 + 2 + 5 * P1 t + 2) (a1 + 2 + 5 * P1 t + 1) wd _ _ _ _ ho1 ht1 hk1 e2 w3 hrt.2.1 (by omega) (by omega) (by omega) (by omega)) (by exact ho1.1) rfl rfl (Nat.le_of_ble_eq_true rfl) (by rw [hB.2.1]; first | exact Nat.le_of_ble_eq_true rfl | (dsimp only; omega)) (by rw [hB.2.1]; first | exact Nat.le_of_ble_eq_true rfl | (dsimp only; omega)) (by rw [hB.2.1]; first | exact Nat.le_of_ble_eq_true rfl | (dsimp only; omega)) (by rw [hB.2.1]; first | exact Nat.le_of_ble_eq_true rfl | (dsimp only; omega)) dX2_fillPick_45 (fun v h_45 n_45 p_45 => ?_)
          obtain ⟨x, rfl, rfl, q1, q3, q2⟩ := p_45
          rw [ekk] at q2
          try dsimp only [Option.toList, List.cons_append, List.nil_append]
          refine o_if_ne (tgt := 53) hC dX2_fillPick_48 (by decide) (fun c_48 => ?_) (fun c_48 => ?_)
          · refine o_iinc hC dX2_fillPick_53 (by rfl) (rl_inc _) (Nat.le_of_ble_eq_true rfl) ?_
            refine o_goto (tgt := 3) hC dX2_fillPick_56 (by decide) ?_
            rcases q2 with ⟨tab2, y1, y2, y3, y4⟩ | ⟨-, y2, -⟩
            rotate_left
            · exact absurd y2 c_48
            refine ih (t + 1) _ _ _ tab2 (by omega) q1 y3 y4 (hf.tr (q3.wd (by omega) (by omega) (Nat.le_refl _) (Nat.le_refl _))) ?_
            rw [he]
            show (aput tab1 _ _).bind _ = _
            rw [y1]
            rfl
          · refine o_iconst (v := nI 0) hC dX2_fillPick_51 (by decide +kernel) ?_
            refine o_zret hC hB dX2_fillPick_52 (by first | rfl | decide +kernel) (Nat.le_of_ble_eq_true rfl) (Nat.le_of_ble_eq_true rfl) ?_
            rcases q2 with ⟨tab2, y1, y2, -, -⟩ | ⟨y1, y2, y3⟩
            · exact absurd (c_48.symm.trans y2) (by decide +kernel)
            · refine ⟨_, rfl, rfl, ⟨_, q1⟩, hf.tr (q3.wd (by omega) (by omega) (Nat.le_refl _) (Nat.le_refl _)), Or.inr ⟨?_, rfl, y3⟩⟩
              rw [he]
              show (aput tab1 _ _).bind _ = _
              rw [y1]
              rfl
  show rl_G X (rl_e D ids H0) 0 [some (.ref o), some (.ref nd), some (.ref a1), some (.ref a), none, none] [] h n 0 0
  refine o_iconst (v := nI 0) hC dX2_fillPick_0 (by decide +kernel) ?_
  refine o_istore hC dX2_fillPick_1 (Nat.le_of_ble_eq_true rfl) ?_
  exact loop tb.length 0 _ h gp tab (by omega) ho ht hok rl_g2.rf rfl

set_option maxHeartbeats 4000000 in
set_option maxRecDepth 100000 in
theorem cp_X2_fillCols (l : Launch) (D : va_G) (ids : Nat → ClassId) (H0 : Heap) (h : rl_H) (n : Nat) (o so a a1 wd wd1 : Nat) (gp : Nat → Option Nat) (tab tb : List arow) (nd N : Nat) (f0 f2 f3 f4 f5 f6 f8 : Int32) (ho : op_sh ids h o so gp) (ht : ctb ids h a wd tab) (hok : aok wd tab) (hi : ctb ids h a1 wd1 tb) (hbk : aok wd1 tb) (hoa : o + 22 ≤ a ∨ a + 402 ≤ o) (hoi : o + 22 ≤ a1 ∨ a1 + 402 ≤ o) (hia : a1 + 402 ≤ a ∨ a + 402 ≤ a1) (hnd : h nd = some (.inr (1, [.int f0, .int (nI wd), .int f2, .int f3, .int f4, .int f5, .int f6, .int (nI N), .int f8]))) (hw6 : wd ≤ 6) (hN : N < 2147483648) (hdg : ∀ c, c < wd → 1 ≤ N / 10 ^ c % 10 ∧ N / 10 ^ c % 10 ≤ wd1) (hw16 : wd1 ≤ 6) (hno : nd < o ∨ o + 22 ≤ nd) (hna : nd < a ∨ a + 402 ≤ nd) : rl_Met l (rl_e D ids H0) rl_BW rl_Ns yX2_fillCols cX2_fillCols 7 (some .boolean) ({ frames := 4, cells := 0, slots := 0, locals := 149 }) [.ref o, .ref nd, .ref a1, .ref a] h n (fun v h' n' => ∃ x : Int32, v = some (.int x) ∧ n' = n ∧ (∃ gp' : Nat → Option Nat, op_sh ids h' o so gp') ∧ rl_g2 h h' o (o + 22) a (a + 402) ∧ pres ids h' a wd (aall tab (tb.map (fun r => (ccl N wd r, some r.2)))) x) := by
  obtain ⟨P1, S1, hi0, hP1, hrow1⟩ := id hi
  have tl80 := hbk.2.2
  refine rl_Met.of (by decide +kernel) (Nat.le_of_ble_eq_true rfl) ?_
  intro X hC hB
  have loop : ∀ (m t : Nat) (o5 o6 : Option Value) (h1 : rl_H) (gp1 : Nat → Option Nat) (tab1 : List arow), t + m = tb.length → op_sh ids h1 o so gp1 → ctb ids h1 a wd tab1 → aok wd tab1 → rl_g2 h h1 o (o + 22) a (a + 402) → aall tab (tb.map (fun r => (ccl N wd r, some r.2))) = aall tab1 ((tb.map (fun r => (ccl N wd r, some r.2))).drop t) → rl_G X (rl_e D ids H0) 3 [some (.ref o), some (.ref nd), some (.ref a1), some (.ref a), some (.int (nI t)), o5, o6] [] h1 n 0 0 := by
    intro m
    induction m with
    | zero =>
      intro t o5 o6 h1 gp1 tab1 hm ho1 ht1 hk1 hf he
      obtain ⟨t1, ⟨tf, t2, t3⟩, t4, t5, t6, t7⟩ := hi0.eqv (h' := h1) (fun q q1 q2 => hf q (by omega) (by omega))
      refine o_iload hC dX2_fillCols_3 (by rfl) ?_
      refine o_aload_n hC dX2_fillCols_5 (by rfl) ?_
      refine o_getf hC (fX2_103 hC rfl) dX2_fillCols_6 (by repeat (first | with_reducible assumption | (rw [rl_u_s]; done) | (rw [rl_u_s]; rfl) | rw [rl_u_n (by first | with_reducible assumption | omega)])) (by first | rfl | with_reducible assumption) ?_
      refine o_icmp_ge (tgt := 98) hC dX2_fillCols_9 (by decide) (fun c_9 => ?_) (fun c_9 => ?_)
      · refine o_iconst (v := nI 1) hC dX2_fillCols_98 (by decide +kernel) ?_
        refine o_zret hC hB dX2_fillCols_99 (by first | rfl | decide +kernel) (Nat.le_of_ble_eq_true rfl) (Nat.le_of_ble_eq_true rfl) ?_
        exact ⟨_, rfl, rfl, ⟨_, ho1⟩, hf, Or.inl ⟨tab1, by rw [he, List.drop_eq_nil_of_le (by rw [List.length_map]; omega)]; rfl, rfl, ht1, hk1⟩⟩
      · exact absurd (nI_le (by omega) (by omega)) c_9
    | succ m ih =>
      intro t o5 o6 h9 gp9 tab1 hm ho9 ht9 hk1 hf9 he
      have loop2 : ∀ (m2 c R : Nat) (h1 : rl_H) (kc : Nat → Int32), c + m2 = wd → R = N / 10 ^ c → op_sh ids h1 o so gp9 → ctb ids h1 a wd tab1 → h1 (o + 9) = some (.inl (ids 0, 6, .inl kc)) → (∀ i : Nat, i < c → kc i = acg (ark tb t) (N / 10 ^ i % 10 - 1)) → rl_g2 h h1 o (o + 22) a (a + 402) → rl_G X (rl_e D ids H0) 21 [some (.ref o), some (.ref nd), some (.ref a1), some (.ref a), some (.int (nI t)), some (.int (nI R)), some (.int (nI c))] [] h1 n 0 0 := by
        intro m2
        induction m2 with
        | zero =>
          intro c R h1 kc hm2 hR ho1 ht1 o9 hkc hf
          obtain ⟨t1, ⟨tf, t2, t3⟩, t4, t5, t6, t7⟩ := hi0.eqv (h' := h1) (fun q q1 q2 => hf q (by omega) (by omega))
          have o0 := ho1.1
          have n1 := (hf nd (by omega) (by omega)).trans hnd
          have htl : t < tb.length := by omega
          have hb := t4 t (by omega)
          obtain ⟨e1, e2, e3⟩ := t5 (P1 t) hb
          have hrt := hbk.2.1 _ (List.getElem_mem htl)
          rw [← ark_at] at hrt
          have er := hrow1 t htl
          have w3 : wat ids h1 (a1 + 2 + 5 * P1 t + 2) (ark tb t).2 := by
            rw [← er]
            exact e3.wat
          refine o_iload hC dX2_fillCols_21 (by rfl) ?_
          refine o_aload_n hC dX2_fillCols_23 (by rfl) ?_
          refine o_getf hC (fX2_39 hC rfl) dX2_fillCols_24 (by repeat (first | with_reducible assumption | (rw [rl_u_s]; done) | (rw [rl_u_s]; rfl) | rw [rl_u_n (by first | with_reducible assumption | omega)])) (by first | rfl | with_reducible assumption) ?_
          refine o_icmp_ge (tgt := 68) hC dX2_fillCols_27 (by decide) (fun c_27 => ?_) (fun c_27 => ?_)
          · refine o_aload_n hC dX2_fillCols_68 (by rfl) ?_
            refine o_aload_n hC dX2_fillCols_69 (by rfl) ?_
            refine o_aload_n hC dX2_fillCols_70 (by rfl) ?_
            refine o_getf hC (fX2_35 hC rfl) dX2_fillCols_71 (by repeat (first | with_reducible assumption | (rw [rl_u_s]; done) | (rw [rl_u_s]; rfl) | rw [rl_u_n (by first | with_reducible assumption | omega)])) (by first | rfl | with_reducible assumption) ?_
            refine o_aload_n hC dX2_fillCols_74 (by rfl) ?_
            refine o_getf hC (fX2_106 hC rfl) dX2_fillCols_75 (by repeat (first | with_reducible assumption | (rw [rl_u_s]; done) | (rw [rl_u_s]; rfl) | rw [rl_u_n (by first | with_reducible assumption | omega)])) (by first | rfl | with_reducible assumption) ?_
            refine o_iload hC dX2_fillCols_78 (by rfl) ?_
            refine o_aaldN (t0 := 3) hC rfl dX2_fillCols_80 (by repeat (first | with_reducible assumption | (rw [rl_u_s]; done) | (rw [rl_u_s]; rfl) | rw [rl_u_n (by first | with_reducible assumption | omega)])) (by omega) (by decide) ?_
            rw [t3 _ (by omega)]
            show rl_G X _ _ _ (.ref _ :: _) _ _ _ _
            refine o_getf hC (fX2_116 hC rfl) dX2_fillCols_81 (by repeat (first | with_reducible assumption | (rw [rl_u_s]; done) | (rw [rl_u_s]; rfl) | rw [rl_u_n (by first | with_reducible assumption | omega)])) (by first | rfl | with_reducible assumption) ?_
            refine o_callV3 hC rl_BW_good rl_Ns_nw (by exact hB.2.2.2.2.2) YX2_put IX2_put VX2_put (mX2_99 hC) (by rw [hB.1]; exact cp_X2_put l D ids H0 _ _ o so a (a1 + 2 + 5 * P1 t + 2) (o + 9) wd _ _ _ _ ho1 ht1 hk1 o9 w3 hrt.2.1 (by omega) (by omega) (by omega) (by omega)) (by exact ho1.1) rfl rfl (Nat.le_of_ble_eq_true rfl) (by rw [hB.2.1]; first | exact Nat.le_of_ble_eq_true rfl | (dsimp only; omega)) (by rw [hB.2.1]; first | exact Nat.le_of_ble_eq_true rfl | (dsimp only; omega)) (by rw [hB.2.1]; first | exact Nat.le_of_ble_eq_true rfl | (dsimp only; omega)) (by rw [hB.2.1]; first | exact Nat.le_of_ble_eq_true rfl | (dsimp only; omega)) dX2_fillCols_84 (fun v h_84 n_84 p_84 => ?_)
            obtain ⟨x, rfl, rfl, q1, q3, q2⟩ := p_84
            have ek : rcl kc wd = ccl N wd (ark tb t) := rsg_eq (fun i _ hi => hkc i (by omega))
            rw [ek] at q2
            try dsimp only [Option.toList, List.cons_append, List.nil_append]
            refine o_if_ne (tgt := 92) hC dX2_fillCols_87 (by decide) (fun c_87 => ?_) (fun c_87 => ?_)
            · refine o_iinc hC dX2_fillCols_92 (by rfl) (rl_inc _) (Nat.le_of_ble_eq_true rfl) ?_
              refine o_goto (tgt := 3) hC dX2_fillCols_95 (by decide) ?_
              rcases q2 with ⟨tab2, y1, y2, y3, y4⟩ | ⟨-, y2, -⟩
              rotate_left
              · exact absurd y2 c_87
              refine ih (t + 1) _ _ _ _ tab2 (by omega) q1 y3 y4 (hf.tr (q3.wd (by omega) (by omega) (Nat.le_refl _) (Nat.le_refl _))) ?_
              rw [he, ark_drop htl]
              show (aput tab1 _ _).bind _ = _
              rw [y1]
              rfl
            · refine o_iconst (v := nI 0) hC dX2_fillCols_90 (by decide +kernel) ?_
              refine o_zret hC hB dX2_fillCols_91 (by first | rfl | decide +kernel) (Nat.le_of_ble_eq_true rfl) (Nat.le_of_ble_eq_true rfl) ?_
              rcases q2 with ⟨tab2, y1, y2, -, -⟩ | ⟨y1, y2, y3⟩
              · exact absurd (c_87.symm.trans y2) (by decide +kernel)
              · refine ⟨_, rfl, rfl, ⟨_, q1⟩, hf.tr (q3.wd (by omega) (by omega) (Nat.le_refl _) (Nat.le_refl _)), Or.inr ⟨?_, rfl, y3⟩⟩
                rw [he, ark_drop htl]
                show (aput tab1 _ _).bind _ = _
                rw [y1]
                rfl
          · exact absurd (nI_le (by omega) (by omega)) c_27
        | succ m2 ih2 =>
          intro c R h1 kc hm2 hR ho1 ht1 o9 hkc hf
          obtain ⟨t1, ⟨tf, t2, t3⟩, t4, t5, t6, t7⟩ := hi0.eqv (h' := h1) (fun q q1 q2 => hf q (by omega) (by omega))
          have o0 := ho1.1
          have n1 := (hf nd (by omega) (by omega)).trans hnd
          have htl : t < tb.length := by omega
          have hb := t4 t (by omega)
          obtain ⟨e1, e2, e3⟩ := t5 (P1 t) hb
          have hrt := hbk.2.1 _ (List.getElem_mem htl)
          rw [← ark_at] at hrt
          have er := hrow1 t htl
          have w3 : wat ids h1 (a1 + 2 + 5 * P1 t + 2) (ark tb t).2 := by
            rw [← er]
            exact e3.wat
          have hR0 : R < 2147483648 := by
            rw [hR]
            exact Nat.lt_of_le_of_lt (Nat.div_le_self _ _) hN
          obtain ⟨g1, g2⟩ := hdg c (by omega)
          have hRR := hR
          rw [← hR] at g1 g2
          obtain ⟨e, hre⟩ : ∃ e, R % 10 = e + 1 := ⟨R % 10 - 1, by omega⟩
          have hR1 : R / 10 = N / 10 ^ (c + 1) := by rw [hR, Nat.div_div_eq_div_mul, Nat.pow_succ]
          refine o_iload hC dX2_fillCols_21 (by rfl) ?_
          refine o_aload_n hC dX2_fillCols_23 (by rfl) ?_
          refine o_getf hC (fX2_39 hC rfl) dX2_fillCols_24 (by repeat (first | with_reducible assumption | (rw [rl_u_s]; done) | (rw [rl_u_s]; rfl) | rw [rl_u_n (by first | with_reducible assumption | omega)])) (by first | rfl | with_reducible assumption) ?_
          refine o_icmp_ge (tgt := 68) hC dX2_fillCols_27 (by decide) (fun c_27 => ?_) (fun c_27 => ?_)
          · exact absurd c_27 (nI_ge (by omega) (by omega))
          · refine o_aload_n hC dX2_fillCols_30 (by rfl) ?_
            refine o_getf hC (fX2_35 hC rfl) dX2_fillCols_31 (by repeat (first | with_reducible assumption | (rw [rl_u_s]; done) | (rw [rl_u_s]; rfl) | rw [rl_u_n (by first | with_reducible assumption | omega)])) (by first | rfl | with_reducible assumption) ?_
            refine o_iload hC dX2_fillCols_34 (by rfl) ?_
            refine o_aload_n hC dX2_fillCols_36 (by rfl) ?_
            refine o_getf hC (fX2_106 hC rfl) dX2_fillCols_37 (by repeat (first | with_reducible assumption | (rw [rl_u_s]; done) | (rw [rl_u_s]; rfl) | rw [rl_u_n (by first | with_reducible assumption | omega)])) (by first | rfl | with_reducible assumption) ?_
            refine o_iload hC dX2_fillCols_40 (by rfl) ?_
            refine o_aaldN (t0 := 3) hC rfl dX2_fillCols_42 (by repeat (first | with_reducible assumption | (rw [rl_u_s]; done) | (rw [rl_u_s]; rfl) | rw [rl_u_n (by first | with_reducible assumption | omega)])) (by omega) (by decide) ?_
            rw [t3 _ (by omega)]
            show rl_G X _ _ _ (.ref _ :: _) _ _ _ _
            refine o_getf hC (fX2_109 hC rfl) dX2_fillCols_43 (by repeat (first | with_reducible assumption | (rw [rl_u_s]; done) | (rw [rl_u_s]; rfl) | rw [rl_u_n (by first | with_reducible assumption | omega)])) (by first | rfl | with_reducible assumption) ?_
            refine o_iload hC dX2_fillCols_46 (by rfl) ?_
            refine o_bipush (v := nI 10) hC dX2_fillCols_48 (by decide +kernel) ?_
            refine o_irem hC dX2_fillCols_50 (by decide +kernel) ?_
            rw [pk_rem hR0 (by decide) (by decide), hre]
            refine o_iconst (v := nI 1) hC dX2_fillCols_51 (by decide +kernel) ?_
            refine o_isub hC dX2_fillCols_52 ?_
            rw [rl_pred e]
            refine o_ialdN (t0 := 0) (k := e) hC rfl dX2_fillCols_53 e2 (by omega) (by decide) ?_
            refine o_iastN (t0 := 0) (k := c) hC rfl dX2_fillCols_54 o9 (by omega) (by decide) ?_
            refine o_iload hC dX2_fillCols_55 (by rfl) ?_
            refine o_bipush (v := nI 10) hC dX2_fillCols_57 (by decide +kernel) ?_
            refine o_idiv hC dX2_fillCols_59 (by decide +kernel) ?_
            rw [pk_div hR0 (by decide) (by decide)]
            refine o_istore hC dX2_fillCols_60 (Nat.le_of_ble_eq_true rfl) ?_
            refine o_iinc hC dX2_fillCols_62 (by rfl) (rl_inc _) (Nat.le_of_ble_eq_true rfl) ?_
            refine o_goto (tgt := 21) hC dX2_fillCols_65 (by decide) ?_
            refine ih2 (c + 1) _ _ _ (by omega) hR1 (ho1.ky rl_u_s (fun q q1 q2 q3 => rl_u_n q3)) (ht1.eqv (fun q q1 q2 => rl_u_n (by omega))) rl_u_s (fun i hi => ?_) (hf.tr (fun q q1 q2 => rl_u_n (by omega)))
            by_cases e4 : i = c
            · subst e4
              refine (if_pos rfl).trans ?_
              rw [← hRR, hre, Nat.add_sub_cancel]
              show _ = (ark tb t).1.getD e 0
              rw [← er]
              exact (rsg_get (by omega)).symm
            · exact (if_neg e4).trans (hkc i (by omega))
      obtain ⟨t1, -, -, -, t6, -⟩ := hi0.eqv (h' := h9) (fun q q1 q2 => hf9 q (by omega) (by omega))
      have n1 := (hf9 nd (by omega) (by omega)).trans hnd
      obtain ⟨o0, -, -, -, -, ⟨kc9, o9⟩, -⟩ := id ho9
      refine o_iload hC dX2_fillCols_3 (by rfl) ?_
      refine o_aload_n hC dX2_fillCols_5 (by rfl) ?_
      refine o_getf hC (fX2_103 hC rfl) dX2_fillCols_6 (by repeat (first | with_reducible assumption | (rw [rl_u_s]; done) | (rw [rl_u_s]; rfl) | rw [rl_u_n (by first | with_reducible assumption | omega)])) (by first | rfl | with_reducible assumption) ?_
      refine o_icmp_ge (tgt := 98) hC dX2_fillCols_9 (by decide) (fun c_9 => ?_) (fun c_9 => ?_)
      · exact absurd c_9 (nI_ge (by omega) (by omega))
      · refine o_aload_n hC dX2_fillCols_12 (by rfl) ?_
        refine o_getf hC (fX2_88 hC rfl) dX2_fillCols_13 (by repeat (first | with_reducible assumption | (rw [rl_u_s]; done) | (rw [rl_u_s]; rfl) | rw [rl_u_n (by first | with_reducible assumption | omega)])) (by first | rfl | with_reducible assumption) ?_
        refine o_istore hC dX2_fillCols_16 (Nat.le_of_ble_eq_true rfl) ?_
        refine o_iconst (v := nI 0) hC dX2_fillCols_18 (by decide +kernel) ?_
        refine o_istore hC dX2_fillCols_19 (Nat.le_of_ble_eq_true rfl) ?_
        exact loop2 wd 0 N h9 kc9 (by omega) (by rw [Nat.pow_zero, Nat.div_one]) ho9 ht9 o9 (fun i hi => absurd hi (by omega)) hf9
  show rl_G X (rl_e D ids H0) 0 [some (.ref o), some (.ref nd), some (.ref a1), some (.ref a), none, none, none] [] h n 0 0
  refine o_iconst (v := nI 0) hC dX2_fillCols_0 (by decide +kernel) ?_
  refine o_istore hC dX2_fillCols_1 (Nat.le_of_ble_eq_true rfl) ?_
  exact loop tb.length 0 _ _ h gp tab (by omega) ho ht hok rl_g2.rf rfl

/-- what SCAN gives of n rows from t on, in the class -/
abbrev csc (sf : Nat → Int32) (cf : Nat → Nat → Int32) (q : Int32) (w t n : Nat) : List (List Int32 × Option (List tT)) := ((List.range' t n).filter (fun r => decide (sf r = q))).map (fun r => (rcl (cf r) w, some [(tbt r, (0 : Int64))]))

set_option maxHeartbeats 4000000 in
set_option maxRecDepth 100000 in
theorem cp_X2_fillScan (l : Launch) (D : va_G) (ids : Nat → ClassId) (H0 : Heap) (h : rl_H) (n : Nat) (o so a wd nd sc rc : Nat) (gp : Nat → Option Nat) (tab : List arow) (wf sf : Nat → Int32) (cf : Nat → Nat → Int32) (f0 f1 f2 f3 f4 f5 f6 f7 f8 : Int32) (ho : op_sh ids h o so gp) (ht : ctb ids h a wd tab) (hok : aok wd tab) (hs : so_at ids h so wf sf cf sc rc) (hnd : h nd = some (.inr (1, [.int f0, .int f1, .int f2, .int f3, .int f4, .int f5, .int f6, .int f7, .int f8]))) (hoa : o + 22 ≤ a ∨ a + 402 ≤ o) (hso : so + 40 ≤ o ∨ o + 22 ≤ so) (hsa : so + 40 ≤ a ∨ a + 402 ≤ so) (hno : nd < o ∨ o + 22 ≤ nd) (hna : nd < a ∨ a + 402 ≤ nd) : rl_Met l (rl_e D ids H0) rl_BW rl_Ns yX2_fillScan cX2_fillScan 5 (some .boolean) ({ frames := 4, cells := 0, slots := 0, locals := 149 }) [.ref o, .ref nd, .ref so, .ref a] h n (fun v h' n' => ∃ x : Int32, v = some (.int x) ∧ n' = n ∧ (∃ gp' : Nat → Option Nat, op_sh ids h' o so gp') ∧ rl_g2 h h' o (o + 22) a (a + 402) ∧ pres ids h' a wd (aall tab (csc sf cf f7 wd 0 rc)) x) := by
  refine rl_Met.of (by decide +kernel) (Nat.le_of_ble_eq_true rfl) ?_
  intro X hC hB
  have loop : ∀ (m t : Nat) (h1 : rl_H) (gp1 : Nat → Option Nat) (tab1 : List arow), t + m = rc → op_sh ids h1 o so gp1 → ctb ids h1 a wd tab1 → aok wd tab1 → rl_g2 h h1 o (o + 22) a (a + 402) → aall tab (csc sf cf f7 wd 0 rc) = aall tab1 (csc sf cf f7 wd t m) → rl_G X (rl_e D ids H0) 3 [some (.ref o), some (.ref nd), some (.ref so), some (.ref a), some (.int (nI t))] [] h1 n 0 0 := by
    intro m
    induction m with
    | zero =>
      intro t h1 gp1 tab1 hm ho1 ht1 hk1 hf he
      obtain ⟨s1, s2, s3, s4, s5, s6, s7⟩ := hs.eqv (h' := h1) (fun q q1 q2 => hf q (by omega) (by omega))
      have o0 := ho1.1
      refine o_iload hC dX2_fillScan_3 (by rfl) ?_
      refine o_aload_n hC dX2_fillScan_5 (by rfl) ?_
      refine o_getf hC (fX2_80 hC rfl) dX2_fillScan_6 (by repeat (first | with_reducible assumption | (rw [rl_u_s]; done) | (rw [rl_u_s]; rfl) | rw [rl_u_n (by first | with_reducible assumption | omega)])) (by first | rfl | with_reducible assumption) ?_
      refine o_icmp_ge (tgt := 65) hC dX2_fillScan_9 (by decide) (fun c_9 => ?_) (fun c_9 => ?_)
      · refine o_iconst (v := nI 1) hC dX2_fillScan_65 (by decide +kernel) ?_
        refine o_zret hC hB dX2_fillScan_66 (by first | rfl | decide +kernel) (Nat.le_of_ble_eq_true rfl) (Nat.le_of_ble_eq_true rfl) ?_
        exact ⟨_, rfl, rfl, ⟨_, ho1⟩, hf, Or.inl ⟨tab1, by rw [he]; rfl, rfl, ht1, hk1⟩⟩
      · exact absurd (nI_le (by omega) (by omega)) c_9
    | succ m ih =>
      intro t h1 gp1 tab1 hm ho1 ht1 hk1 hf he
      obtain ⟨s1, s2, s3, s4, s5, s6, s7⟩ := hs.eqv (h' := h1) (fun q q1 q2 => hf q (by omega) (by omega))
      obtain ⟨o0, ⟨ds, od⟩, ⟨mf0, mg0, mk0, om⟩, ⟨tp, o7, o7b⟩, o8, ⟨kc, o9⟩, ot⟩ := id ho1
      have n1 := (hf nd (by omega) (by omega)).trans hnd
      refine o_iload hC dX2_fillScan_3 (by rfl) ?_
      refine o_aload_n hC dX2_fillScan_5 (by rfl) ?_
      refine o_getf hC (fX2_80 hC rfl) dX2_fillScan_6 (by repeat (first | with_reducible assumption | (rw [rl_u_s]; done) | (rw [rl_u_s]; rfl) | rw [rl_u_n (by first | with_reducible assumption | omega)] | rw [p2 _ (by omega)])) (by first | rfl | with_reducible assumption) ?_
      refine o_icmp_ge (tgt := 65) hC dX2_fillScan_9 (by decide) (fun c_9 => ?_) (fun c_9 => ?_)
      · exact absurd c_9 (nI_ge (by omega) (by omega))
      · refine o_aload_n hC dX2_fillScan_12 (by rfl) ?_
        refine o_getf hC (fX2_85 hC rfl) dX2_fillScan_13 (by repeat (first | with_reducible assumption | (rw [rl_u_s]; done) | (rw [rl_u_s]; rfl) | rw [rl_u_n (by first | with_reducible assumption | omega)] | rw [p2 _ (by omega)])) (by first | rfl | with_reducible assumption) ?_
        refine o_iload hC dX2_fillScan_16 (by rfl) ?_
        refine o_ialdN (t0 := 0) hC rfl dX2_fillScan_18 (by repeat (first | with_reducible assumption | (rw [rl_u_s]; done) | (rw [rl_u_s]; rfl) | rw [rl_u_n (by first | with_reducible assumption | omega)] | rw [p2 _ (by omega)])) (by omega) (by decide) ?_
        refine o_aload_n hC dX2_fillScan_19 (by rfl) ?_
        refine o_getf hC (fX2_88 hC rfl) dX2_fillScan_20 (by repeat (first | with_reducible assumption | (rw [rl_u_s]; done) | (rw [rl_u_s]; rfl) | rw [rl_u_n (by first | with_reducible assumption | omega)] | rw [p2 _ (by omega)])) (by first | rfl | with_reducible assumption) ?_
        refine o_icmp_ne (tgt := 59) hC dX2_fillScan_23 (by decide) (fun c_23 => ?_) (fun c_23 => ?_)
        · refine o_iinc hC dX2_fillScan_59 (by rfl) (rl_inc _) (Nat.le_of_ble_eq_true rfl) ?_
          refine o_goto (tgt := 3) hC dX2_fillScan_62 (by decide) ?_
          unfold csc at he
          rw [List.range'_succ, List.filter_cons_of_neg (p := fun r => decide (sf r = f7)) (fun e => c_23 (of_decide_eq_true e))] at he
          exact ih (t + 1) _ _ tab1 (by omega) ho1 ht1 hk1 hf he
        · refine o_aload_n hC dX2_fillScan_26 (by rfl) ?_
          refine o_getf hC (fX2_21 hC rfl) dX2_fillScan_27 (by repeat (first | with_reducible assumption | (rw [rl_u_s]; done) | (rw [rl_u_s]; rfl) | rw [rl_u_n (by first | with_reducible assumption | omega)] | rw [p2 _ (by omega)])) (by first | rfl | with_reducible assumption) ?_
          refine o_lconst (v := 1) hC dX2_fillScan_30 (by decide +kernel) ?_
          refine o_iload hC dX2_fillScan_31 (by rfl) ?_
          refine o_lshl hC dX2_fillScan_33 ?_
          refine o_lconst (v := 0) hC dX2_fillScan_34 (by decide +kernel) ?_
          refine o_callV2 hC rl_BW_good rl_Ns_nw (by exact hB.2.2.2.2.2) YX6_becomeTerm IX6_becomeTerm VX6_becomeTerm (mX2_91 hC) (by rw [hB.1]; exact ct_X6_becomeTerm l D ids H0 _ _ (o + 4) _ _ _ _ _ om) (by exact om.1) rfl rfl (Nat.le_of_ble_eq_true rfl) (by rw [hB.2.1]; first | exact Nat.le_of_ble_eq_true rfl | (dsimp only; omega)) (by rw [hB.2.1]; first | exact Nat.le_of_ble_eq_true rfl | (dsimp only; omega)) (by rw [hB.2.1]; first | exact Nat.le_of_ble_eq_true rfl | (dsimp only; omega)) (by rw [hB.2.1]; first | exact Nat.le_of_ble_eq_true rfl | (dsimp only; omega)) dX2_fillScan_35 (fun v h_35 n_35 p_35 => ?_)
          obtain ⟨rfl, rfl, p1, p2⟩ := p_35
          have ho2 : op_sh ids h_35 o so gp1 := ho1.mk (ho1.2.1.eqv (fun q q1 q2 => p2 q (by omega))) ⟨_, _, _, p1⟩ (fun q q1 q2 q3 => p2 q (by omega))
          have ht2 := ht1.eqv (h' := h_35) (fun q q1 q2 => p2 q (by omega))
          have e2 : h_35 (so + 4 + t) = some (.inl (ids 0, 6, .inl (cf t))) := by rw [p2 _ (by omega)]; exact s5 t (by omega)
          have w3 : wat ids h_35 (o + 4) [(tbt t, (0 : Int64))] := by
            have := p1.wat
            have e9 : tls (vp_updL mf0 0 ((1 : Int64) <<< ((nI t).toInt64 &&& 63))) (vp_updL mg0 0 0) 1 = [(tbt t, (0 : Int64))] := by
              show [(vp_updL mf0 0 _ 0, vp_updL mg0 0 0 0)] = _
              rw [up_at, up_at]
            rw [e9] at this
            exact this
          have hsq : sf t = f7 := by first | exact c_23 | exact Classical.not_not.mp c_23
          unfold csc at he
          rw [List.range'_succ, List.filter_cons_of_pos (p := fun r => decide (sf r = f7)) (decide_eq_true hsq), List.map_cons] at he
          try dsimp only [Option.toList, List.cons_append, List.nil_append]
          refine o_aload_n hC dX2_fillScan_38 (by rfl) ?_
          refine o_aload_n hC dX2_fillScan_39 (by rfl) ?_
          refine o_aload_n hC dX2_fillScan_40 (by rfl) ?_
          refine o_getf hC (fX2_95 hC rfl) dX2_fillScan_41 (by repeat (first | with_reducible assumption | (rw [rl_u_s]; done) | (rw [rl_u_s]; rfl) | rw [rl_u_n (by first | with_reducible assumption | omega)] | rw [p2 _ (by omega)])) (by first | rfl | with_reducible assumption) ?_
          refine o_iload hC dX2_fillScan_44 (by rfl) ?_
          refine o_aaldA (t0 := 7) hC rfl dX2_fillScan_46 (by repeat (first | with_reducible assumption | (rw [rl_u_s]; done) | (rw [rl_u_s]; rfl) | rw [rl_u_n (by first | with_reducible assumption | omega)] | rw [p2 _ (by omega)])) (by omega) (by decide) ?_
          rw [if_pos (by omega)]
          show rl_G X _ _ _ (.ref _ :: _) _ _ _ _
          refine o_aload_n hC dX2_fillScan_47 (by rfl) ?_
          refine o_getf hC (fX2_21 hC rfl) dX2_fillScan_48 (by repeat (first | with_reducible assumption | (rw [rl_u_s]; done) | (rw [rl_u_s]; rfl) | rw [rl_u_n (by first | with_reducible assumption | omega)] | rw [p2 _ (by omega)])) (by first | rfl | with_reducible assumption) ?_
          refine o_callV3 hC rl_BW_good rl_Ns_nw (by exact hB.2.2.2.2.2) YX2_put IX2_put VX2_put (mX2_99 hC) (by rw [hB.1]; exact cp_X2_put l D ids H0 _ _ o so a (o + 4) (so + 4 + t) wd _ _ _ _ ho2 ht2 hk1 e2 w3 (wok_s _) (by omega) (by omega) (by omega) (by omega)) (by exact ho2.1) rfl rfl (Nat.le_of_ble_eq_true rfl) (by rw [hB.2.1]; first | exact Nat.le_of_ble_eq_true rfl | (dsimp only; omega)) (by rw [hB.2.1]; first | exact Nat.le_of_ble_eq_true rfl | (dsimp only; omega)) (by rw [hB.2.1]; first | exact Nat.le_of_ble_eq_true rfl | (dsimp only; omega)) (by rw [hB.2.1]; first | exact Nat.le_of_ble_eq_true rfl | (dsimp only; omega)) dX2_fillScan_51 (fun v h_51 n_51 p_51 => ?_)
          obtain ⟨x, rfl, rfl, q1, q3, q2⟩ := p_51
          try dsimp only [Option.toList, List.cons_append, List.nil_append]
          refine o_if_ne (tgt := 59) hC dX2_fillScan_54 (by decide) (fun c_54 => ?_) (fun c_54 => ?_)
          · refine o_iinc hC dX2_fillScan_59 (by rfl) (rl_inc _) (Nat.le_of_ble_eq_true rfl) ?_
            refine o_goto (tgt := 3) hC dX2_fillScan_62 (by decide) ?_
            rcases q2 with ⟨tab2, y1, y2, y3, y4⟩ | ⟨-, y2, -⟩
            rotate_left
            · exact absurd y2 c_54
            refine ih (t + 1) _ _ tab2 (by omega) q1 y3 y4 (hf.tr ((p2.wd (a' := o) (b' := o + 22) (by omega) (by omega)).g1.tr (q3.wd (by omega) (by omega) (Nat.le_refl _) (Nat.le_refl _)))) ?_
            rw [he]
            show (aput tab1 _ _).bind _ = _
            rw [y1]
            rfl
          · refine o_iconst (v := nI 0) hC dX2_fillScan_57 (by decide +kernel) ?_
            refine o_zret hC hB dX2_fillScan_58 (by first | rfl | decide +kernel) (Nat.le_of_ble_eq_true rfl) (Nat.le_of_ble_eq_true rfl) ?_
            rcases q2 with ⟨tab2, y1, y2, -, -⟩ | ⟨y1, y2, y3⟩
            · exact absurd (c_54.symm.trans y2) (by decide +kernel)
            · refine ⟨_, rfl, rfl, ⟨_, q1⟩, hf.tr ((p2.wd (a' := o) (b' := o + 22) (by omega) (by omega)).g1.tr (q3.wd (by omega) (by omega) (Nat.le_refl _) (Nat.le_refl _))), Or.inr ⟨?_, rfl, y3⟩⟩
              rw [he]
              show (aput tab1 _ _).bind _ = _
              rw [y1]
              rfl
  show rl_G X (rl_e D ids H0) 0 [some (.ref o), some (.ref nd), some (.ref so), some (.ref a), none] [] h n 0 0
  refine o_iconst (v := nI 0) hC dX2_fillScan_0 (by decide +kernel) ?_
  refine o_istore hC dX2_fillScan_1 (Nat.le_of_ble_eq_true rfl) ?_
  exact loop rc 0 h gp tab (by omega) ho ht hok rl_g2.rf rfl
