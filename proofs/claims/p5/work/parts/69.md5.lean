/-! THE MODEL by shapes: what makes the tuples of a node -/

set_option maxHeartbeats 4000000 in
set_option maxRecDepth 100000 in
theorem cm_X8_makeUnite (l : Launch) (D : va_G) (ids : Nat → ClassId) (H0 : Heap) (h : rl_H) (n : Nat) (m : Nat) (T : md_T) (fu : Int32) (k : Nat) (S : md_A) (a b w wb : Nat) (hq : mq ids h h m T fu k) (hs : md_sa ids h m S) (ha : a < 16) (hb : b < 16) (hw : S.2.2.2.2.2.2.2.2.2.2 a = nI w) (hw6 : w ≤ 6) (hwb : S.2.2.2.2.2.2.2.2.2.2 b = nI wb) (hwb6 : wb ≤ 6)  : rl_Met l (rl_e D ids H0) rl_BW rl_Ns yX8_makeUnite cX8_makeUnite 4 none ({ frames := 4, cells := 0, slots := 0, locals := 98 }) [.ref m, .int (nI a), .int (nI b)] h n (fun v h' n' => v = none ∧ n' = n ∧ ∃ (fu' : Int32) (k' : Nat), mq ids h h' m T fu' k') := by
  refine rl_Met.of (by decide +kernel) (Nat.le_of_ble_eq_true rfl) ?_
  intro X hC hB
  have loop : ∀ (mm t : Nat) (h1 : rl_H) (f1 : Int32) (k1 : Nat), t + mm = 80 → mq ids h h1 m T f1 k1 → rl_G X (rl_e D ids H0) 2 [some (.ref m), some (.int (nI a)), some (.int (nI b)), some (.int (nI t))] [] h1 n 0 0 := by
    intro mm
    induction mm with
    | zero =>
      intro t h1 f1 k1 hm hq1
      have hs1 := hq1.sa hs
      obtain ⟨g0, gk, ⟨⟨cl, g12⟩, ⟨tu, g13, b13⟩, ⟨im, g14⟩, ⟨te, g15, b15⟩, ⟨ne, g16⟩, ⟨la, g17⟩, ⟨hn, g18⟩, ⟨hl, g19⟩, ⟨tp, g20⟩, ⟨gr, g21, b21⟩, ⟨it, g22⟩⟩, gf⟩ := id hq1
      obtain ⟨a1, a2, a3, a4, a5, a6, a7, a8, a9, a10, a11⟩ := id hs1
      refine o_iload_n hC dX8_makeUnite_2 (by rfl) ?_
      refine o_aload_n hC dX8_makeUnite_3 (by rfl) ?_
      refine o_getf hC (fX8_46 hC rfl) dX8_makeUnite_4 (by repeat (first | with_reducible assumption | (rw [rl_u_s]; done) | (rw [rl_u_s]; rfl) | rw [rl_u_n (by first | with_reducible assumption | omega)])) (by first | rfl | with_reducible assumption) ?_
      refine o_iload_n hC dX8_makeUnite_7 (by rfl) ?_
      obtain ⟨t8, ht8, et8⟩ := b13 b (by omega)
      refine o_ialdN (t0 := 0) (k := b) hC rfl dX8_makeUnite_8 (by repeat (first | with_reducible assumption | (rw [rl_u_s]; done) | (rw [rl_u_s]; rfl) | rw [rl_u_n (by first | with_reducible assumption | omega)])) (by omega) (by decide) ?_
      rw [et8]
      refine o_icmp_ge (tgt := 48) hC dX8_makeUnite_9 (by decide) (fun c_9 => ?_) (fun c_9 => ?_)
      · refine o_vret hC hB dX8_makeUnite_48 (Nat.le_of_ble_eq_true rfl) (Nat.le_of_ble_eq_true rfl) ?_
        exact ⟨rfl, rfl, _, _, hq1⟩
      · exact absurd (nI_le (by omega) (by omega)) c_9
    | succ mm ih =>
      intro t h1 f1 k1 hm hq1
      have hs1 := hq1.sa hs
      obtain ⟨g0, gk, ⟨⟨cl, g12⟩, ⟨tu, g13, b13⟩, ⟨im, g14⟩, ⟨te, g15, b15⟩, ⟨ne, g16⟩, ⟨la, g17⟩, ⟨hn, g18⟩, ⟨hl, g19⟩, ⟨tp, g20⟩, ⟨gr, g21, b21⟩, ⟨it, g22⟩⟩, gf⟩ := id hq1
      obtain ⟨a1, a2, a3, a4, a5, a6, a7, a8, a9, a10, a11⟩ := id hs1
      refine o_iload_n hC dX8_makeUnite_2 (by rfl) ?_
      refine o_aload_n hC dX8_makeUnite_3 (by rfl) ?_
      refine o_getf hC (fX8_46 hC rfl) dX8_makeUnite_4 (by repeat (first | with_reducible assumption | (rw [rl_u_s]; done) | (rw [rl_u_s]; rfl) | rw [rl_u_n (by first | with_reducible assumption | omega)])) (by first | rfl | with_reducible assumption) ?_
      refine o_iload_n hC dX8_makeUnite_7 (by rfl) ?_
      obtain ⟨t8, ht8, et8⟩ := b13 b (by omega)
      refine o_ialdN (t0 := 0) (k := b) hC rfl dX8_makeUnite_8 (by repeat (first | with_reducible assumption | (rw [rl_u_s]; done) | (rw [rl_u_s]; rfl) | rw [rl_u_n (by first | with_reducible assumption | omega)])) (by omega) (by decide) ?_
      rw [et8]
      refine o_icmp_ge (tgt := 48) hC dX8_makeUnite_9 (by decide) (fun c_9 => ?_) (fun c_9 => ?_)
      · refine o_vret hC hB dX8_makeUnite_48 (Nat.le_of_ble_eq_true rfl) (Nat.le_of_ble_eq_true rfl) ?_
        exact ⟨rfl, rfl, _, _, hq1⟩
      · refine o_aload_n hC dX8_makeUnite_12 (by rfl) ?_
        refine o_getf hC (fX8_91 hC rfl) dX8_makeUnite_13 (by repeat (first | with_reducible assumption | (rw [rl_u_s]; done) | (rw [rl_u_s]; rfl) | rw [rl_u_n (by first | with_reducible assumption | omega)])) (by first | rfl | with_reducible assumption) ?_
        refine o_if_ne (tgt := 48) hC dX8_makeUnite_16 (by decide) (fun c_16 => ?_) (fun c_16 => ?_)
        · refine o_vret hC hB dX8_makeUnite_48 (Nat.le_of_ble_eq_true rfl) (Nat.le_of_ble_eq_true rfl) ?_
          exact ⟨rfl, rfl, _, _, hq1⟩
        · refine o_aload_n hC dX8_makeUnite_19 (by rfl) ?_
          refine o_iload_n hC dX8_makeUnite_20 (by rfl) ?_
          refine o_iload_n hC dX8_makeUnite_21 (by rfl) ?_
          refine o_aload_n hC dX8_makeUnite_22 (by rfl) ?_
          refine o_getf hC (fX8_40 hC rfl) dX8_makeUnite_23 (by repeat (first | with_reducible assumption | (rw [rl_u_s]; done) | (rw [rl_u_s]; rfl) | rw [rl_u_n (by first | with_reducible assumption | omega)])) (by first | rfl | with_reducible assumption) ?_
          refine o_iload_n hC dX8_makeUnite_26 (by rfl) ?_
          refine o_ialdN (t0 := 0) (k := b) hC rfl dX8_makeUnite_27 (by repeat (first | with_reducible assumption | (rw [rl_u_s]; done) | (rw [rl_u_s]; rfl) | rw [rl_u_n (by first | with_reducible assumption | omega)])) (by omega) (by decide) ?_
          rw [hwb]
          refine o_callV3 hC rl_BW_good rl_Ns_nw (by exact hB.2.2.2.2.2) YX8_take IX8_take VX8_take (mX8_181 hC) (by rw [hB.1]; exact cm_X8_take l D ids H0 _ _ m T _ _ b t wb hq1.rf (by omega) (by omega) hwb6) (by exact hq1.1) rfl rfl (Nat.le_of_ble_eq_true rfl) (by rw [hB.2.1]; first | exact Nat.le_of_ble_eq_true rfl | (dsimp only; omega)) (by rw [hB.2.1]; first | exact Nat.le_of_ble_eq_true rfl | (dsimp only; omega)) (by rw [hB.2.1]; first | exact Nat.le_of_ble_eq_true rfl | (dsimp only; omega)) (by rw [hB.2.1]; first | exact Nat.le_of_ble_eq_true rfl | (dsimp only; omega)) dX8_makeUnite_28 (fun v h_28 n_28 p_28 => ?_)
          obtain ⟨rfl, rfl, q28⟩ := p_28
          have hq2 := hq1.tr q28
          have hs2 := hq2.sa hs
          try dsimp only [Option.toList, List.cons_append, List.nil_append]
          refine o_aload_n hC dX8_makeUnite_31 (by rfl) ?_
          refine o_iload_n hC dX8_makeUnite_32 (by rfl) ?_
          refine o_bipush (v := nI 80) hC dX8_makeUnite_33 (by decide +kernel) ?_
          refine o_iload_n hC dX8_makeUnite_35 (by rfl) ?_
          refine o_imul hC dX8_makeUnite_36 ?_
          try rw [nI_mul]
          refine o_iload_n hC dX8_makeUnite_37 (by rfl) ?_
          refine o_iadd hC dX8_makeUnite_38 ?_
          try rw [nI_add]
          refine o_callV2 hC rl_BW_good rl_Ns_nw (by exact hB.2.2.2.2.2) YX8_comes IX8_comes VX8_comes (mX8_178 hC) (by rw [hB.1]; exact cm_X8_comes l D ids H0 _ _ m T _ _ S a (80 * b + t) w hq2.rf hs2 (by omega) (by omega) hw hw6) (by exact hq2.1) rfl rfl (Nat.le_of_ble_eq_true rfl) (by rw [hB.2.1]; first | exact Nat.le_of_ble_eq_true rfl | (dsimp only; omega)) (by rw [hB.2.1]; first | exact Nat.le_of_ble_eq_true rfl | (dsimp only; omega)) (by rw [hB.2.1]; first | exact Nat.le_of_ble_eq_true rfl | (dsimp only; omega)) (by rw [hB.2.1]; first | exact Nat.le_of_ble_eq_true rfl | (dsimp only; omega)) dX8_makeUnite_39 (fun v h_39 n_39 p_39 => ?_)
          obtain ⟨rfl, rfl, f39, k39, q39⟩ := p_39
          try dsimp only [Option.toList, List.cons_append, List.nil_append]
          refine o_iinc hC dX8_makeUnite_42 (by rfl) (rl_inc _) (Nat.le_of_ble_eq_true rfl) ?_
          refine o_goto (tgt := 2) hC dX8_makeUnite_45 (by decide) ?_
          exact ih (t + 1) _ _ _ (by omega) (hq2.tr q39)
  show rl_G X (rl_e D ids H0) 0 [some (.ref m), some (.int (nI a)), some (.int (nI b)), none] [] h n 0 0
  refine o_iconst (v := nI 0) hC dX8_makeUnite_0 (by decide +kernel) ?_
  refine o_istore_n hC dX8_makeUnite_1 (Nat.le_of_ble_eq_true rfl) ?_
  exact loop 80 0 _ _ _ (by omega) hq

set_option maxHeartbeats 4000000 in
set_option maxRecDepth 100000 in
theorem cm_X8_makeScan (l : Launch) (D : va_G) (ids : Nat → ClassId) (H0 : Heap) (h : rl_H) (n : Nat) (m : Nat) (T : md_T) (fu : Int32) (k : Nat) (S : md_A) (a w rr : Nat) (q : Int32) (hq : mq ids h h m T fu k) (hs : md_sa ids h m S) (ha : a < 16) (hw : S.2.2.2.2.2.2.2.2.2.2 a = nI w) (hw6 : w ≤ 6) (hrr : T.2.2.1 = nI rr) (hr36 : rr ≤ 36) : rl_Met l (rl_e D ids H0) rl_BW rl_Ns yX8_makeScan cX8_makeScan 5 none ({ frames := 4, cells := 0, slots := 0, locals := 98 }) [.ref m, .int (nI a), .int q] h n (fun v h' n' => v = none ∧ n' = n ∧ ∃ (fu' : Int32) (k' : Nat), mq ids h h' m T fu' k') := by
  refine rl_Met.of (by decide +kernel) (Nat.le_of_ble_eq_true rfl) ?_
  intro X hC hB
  have loop : ∀ (mm t : Nat) (h1 : rl_H) (f1 : Int32) (k1 : Nat) (o4 : Option Value), t + mm = rr → mq ids h h1 m T f1 k1 → rl_G X (rl_e D ids H0) 2 [some (.ref m), some (.int (nI a)), some (.int q), some (.int (nI t)), o4] [] h1 n 0 0 := by
    intro mm
    induction mm with
    | zero =>
      intro t h1 f1 k1 o4 hm hq1
      have hs1 := hq1.sa hs
      obtain ⟨g0, gk, ⟨⟨cl, g12⟩, ⟨tu, g13, b13⟩, ⟨im, g14⟩, ⟨te, g15, b15⟩, ⟨ne, g16⟩, ⟨la, g17⟩, ⟨hn, g18⟩, ⟨hl, g19⟩, ⟨tp, g20⟩, ⟨gr, g21, b21⟩, ⟨it, g22⟩⟩, gf⟩ := id hq1
      obtain ⟨a1, a2, a3, a4, a5, a6, a7, a8, a9, a10, a11⟩ := id hs1
      refine o_iload_n hC dX8_makeScan_2 (by rfl) ?_
      refine o_aload_n hC dX8_makeScan_3 (by rfl) ?_
      refine o_getf hC (fX8_112 hC rfl) dX8_makeScan_4 (by repeat (first | with_reducible assumption | (rw [rl_u_s]; done) | (rw [rl_u_s]; rfl) | rw [rl_u_n (by first | with_reducible assumption | omega)])) (by first | rfl | with_reducible assumption) ?_
      rw [hrr]
      refine o_icmp_ge (tgt := 92) hC dX8_makeScan_7 (by decide) (fun c_7 => ?_) (fun c_7 => ?_)
      · refine o_vret hC hB dX8_makeScan_92 (Nat.le_of_ble_eq_true rfl) (Nat.le_of_ble_eq_true rfl) ?_
        exact ⟨rfl, rfl, _, _, hq1⟩
      · exact absurd (nI_le (by omega) (by omega)) c_7
    | succ mm ih =>
      intro t h1 f1 k1 o4 hm hq1
      have loopC : ∀ (m2 c : Nat) (h2 : rl_H), c + m2 = 4 → mq ids h h2 m T f1 k1 → rl_G X (rl_e D ids H0) 30 [some (.ref m), some (.int (nI a)), some (.int q), some (.int (nI t)), some (.int (nI c))] [] h2 n 0 0 := by
        intro m2
        induction m2 with
        | zero =>
          intro c h2 hm2 hq2
          refine o_iload hC dX8_makeScan_30 (by rfl) ?_
          refine o_iconst (v := nI 4) hC dX8_makeScan_32 (by decide +kernel) ?_
          refine o_icmp_ge (tgt := 60) hC dX8_makeScan_33 (by decide) (fun c_33 => ?_) (fun c_33 => ?_)
          · refine o_aload_n hC dX8_makeScan_60 (by rfl) ?_
            refine o_sipush (v := nI 1360) hC dX8_makeScan_61 (by decide +kernel) ?_
            refine o_callV1 hC rl_BW_good rl_Ns_nw (by exact hB.2.2.2.2.2) YX8_truth IX8_truth VX8_truth (mX8_103 hC) (by rw [hB.1]; exact cm_X8_truth l D ids H0 _ _ m T _ _ 1360 hq2.rf (by decide)) (by exact hq2.1) rfl rfl (Nat.le_of_ble_eq_true rfl) (by rw [hB.2.1]; first | exact Nat.le_of_ble_eq_true rfl | (dsimp only; omega)) (by rw [hB.2.1]; first | exact Nat.le_of_ble_eq_true rfl | (dsimp only; omega)) (by rw [hB.2.1]; first | exact Nat.le_of_ble_eq_true rfl | (dsimp only; omega)) (by rw [hB.2.1]; first | exact Nat.le_of_ble_eq_true rfl | (dsimp only; omega)) dX8_makeScan_64 (fun v h_64 n_64 p_64 => ?_)
            obtain ⟨rfl, rfl, q64⟩ := p_64
            have hq3 := hq2.tr q64
            obtain ⟨ne3, g163⟩ := hq3.2.2.1.2.2.2.2.1
            have g03 := hq3.1
            try dsimp only [Option.toList, List.cons_append, List.nil_append]
            refine o_aload_n hC dX8_makeScan_67 (by rfl) ?_
            refine o_getf hC (fX8_56 hC rfl) dX8_makeScan_68 (by repeat (first | with_reducible assumption | (rw [rl_u_s]; done) | (rw [rl_u_s]; rfl) | rw [rl_u_n (by first | with_reducible assumption | omega)])) (by first | rfl | with_reducible assumption) ?_
            refine o_sipush (v := nI 16320) hC dX8_makeScan_71 (by decide +kernel) ?_
            refine o_lconst (v := 1) hC dX8_makeScan_74 (by decide +kernel) ?_
            refine o_iload_n hC dX8_makeScan_75 (by rfl) ?_
            refine o_lshl hC dX8_makeScan_76 ?_
            refine o_lastN (t0 := 1) hC rfl dX8_makeScan_77 (by repeat (first | with_reducible assumption | (rw [rl_u_s]; done) | (rw [rl_u_s]; rfl) | rw [rl_u_n (by first | with_reducible assumption | omega)])) (by omega) (by decide) ?_
            have hq4 := hq3.s16 (vp_updL ne3 16320 ((1 : Int64) <<< ((nI t).toInt64 &&& 63)))
            have hs4 := hq4.sa hs
            refine o_aload_n hC dX8_makeScan_78 (by rfl) ?_
            refine o_iload_n hC dX8_makeScan_79 (by rfl) ?_
            refine o_sipush (v := nI 1360) hC dX8_makeScan_80 (by decide +kernel) ?_
            refine o_callV2 hC rl_BW_good rl_Ns_nw (by exact hB.2.2.2.2.2) YX8_comes IX8_comes VX8_comes (mX8_178 hC) (by rw [hB.1]; exact cm_X8_comes l D ids H0 _ _ m T _ _ S a 1360 w hq4.rf hs4 (by omega) (by omega) hw hw6) (by exact hq4.1) rfl rfl (Nat.le_of_ble_eq_true rfl) (by rw [hB.2.1]; first | exact Nat.le_of_ble_eq_true rfl | (dsimp only; omega)) (by rw [hB.2.1]; first | exact Nat.le_of_ble_eq_true rfl | (dsimp only; omega)) (by rw [hB.2.1]; first | exact Nat.le_of_ble_eq_true rfl | (dsimp only; omega)) (by rw [hB.2.1]; first | exact Nat.le_of_ble_eq_true rfl | (dsimp only; omega)) dX8_makeScan_83 (fun v h_83 n_83 p_83 => ?_)
            obtain ⟨rfl, rfl, f83, k83, q83⟩ := p_83
            try dsimp only [Option.toList, List.cons_append, List.nil_append]
            refine o_iinc hC dX8_makeScan_86 (by rfl) (rl_inc _) (Nat.le_of_ble_eq_true rfl) ?_
            refine o_goto (tgt := 2) hC dX8_makeScan_89 (by decide) ?_
            exact ih (t + 1) _ _ _ _ (by omega) (hq4.tr q83)
          · exact absurd (nI_le (by omega) (by omega)) c_33
        | succ m2 ih2 =>
          intro c h2 hm2 hq2
          have hs1 := hq2.sa hs
          obtain ⟨g0, gk, ⟨⟨cl, g12⟩, ⟨tu, g13, b13⟩, ⟨im, g14⟩, ⟨te, g15, b15⟩, ⟨ne, g16⟩, ⟨la, g17⟩, ⟨hn, g18⟩, ⟨hl, g19⟩, ⟨tp, g20⟩, ⟨gr, g21, b21⟩, ⟨it, g22⟩⟩, gf⟩ := id hq2
          obtain ⟨a1, a2, a3, a4, a5, a6, a7, a8, a9, a10, a11⟩ := id hs1
          refine o_iload hC dX8_makeScan_30 (by rfl) ?_
          refine o_iconst (v := nI 4) hC dX8_makeScan_32 (by decide +kernel) ?_
          refine o_icmp_ge (tgt := 60) hC dX8_makeScan_33 (by decide) (fun c_33 => ?_) (fun c_33 => ?_)
          · exact absurd c_33 (nI_ge (by omega) (by omega))
          · refine o_aload_n hC dX8_makeScan_36 (by rfl) ?_
            refine o_getf hC (fX8_69 hC rfl) dX8_makeScan_37 (by repeat (first | with_reducible assumption | (rw [rl_u_s]; done) | (rw [rl_u_s]; rfl) | rw [rl_u_n (by first | with_reducible assumption | omega)])) (by first | rfl | with_reducible assumption) ?_
            refine o_iload hC dX8_makeScan_40 (by rfl) ?_
            refine o_aload_n hC dX8_makeScan_42 (by rfl) ?_
            refine o_getf hC (fX8_16 hC rfl) dX8_makeScan_43 (by repeat (first | with_reducible assumption | (rw [rl_u_s]; done) | (rw [rl_u_s]; rfl) | rw [rl_u_n (by first | with_reducible assumption | omega)])) (by first | rfl | with_reducible assumption) ?_
            refine o_iconst (v := nI 4) hC dX8_makeScan_46 (by decide +kernel) ?_
            refine o_iload_n hC dX8_makeScan_47 (by rfl) ?_
            refine o_imul hC dX8_makeScan_48 ?_
            try rw [nI_mul]
            refine o_iload hC dX8_makeScan_49 (by rfl) ?_
            refine o_iadd hC dX8_makeScan_51 ?_
            try rw [nI_add]
            refine o_ialdN (t0 := 0) hC rfl dX8_makeScan_52 (by repeat (first | with_reducible assumption | (rw [rl_u_s]; done) | (rw [rl_u_s]; rfl) | rw [rl_u_n (by first | with_reducible assumption | omega)])) (by omega) (by decide) ?_
            refine o_iastN (t0 := 0) hC rfl dX8_makeScan_53 (by repeat (first | with_reducible assumption | (rw [rl_u_s]; done) | (rw [rl_u_s]; rfl) | rw [rl_u_n (by first | with_reducible assumption | omega)])) (by omega) (by decide) ?_
            refine o_iinc hC dX8_makeScan_54 (by rfl) (rl_inc _) (Nat.le_of_ble_eq_true rfl) ?_
            refine o_goto (tgt := 30) hC dX8_makeScan_57 (by decide) ?_
            exact ih2 (c + 1) _ (by omega) (hq2.s20 _)
      have hs1 := hq1.sa hs
      obtain ⟨g0, gk, ⟨⟨cl, g12⟩, ⟨tu, g13, b13⟩, ⟨im, g14⟩, ⟨te, g15, b15⟩, ⟨ne, g16⟩, ⟨la, g17⟩, ⟨hn, g18⟩, ⟨hl, g19⟩, ⟨tp, g20⟩, ⟨gr, g21, b21⟩, ⟨it, g22⟩⟩, gf⟩ := id hq1
      obtain ⟨a1, a2, a3, a4, a5, a6, a7, a8, a9, a10, a11⟩ := id hs1
      refine o_iload_n hC dX8_makeScan_2 (by rfl) ?_
      refine o_aload_n hC dX8_makeScan_3 (by rfl) ?_
      refine o_getf hC (fX8_112 hC rfl) dX8_makeScan_4 (by repeat (first | with_reducible assumption | (rw [rl_u_s]; done) | (rw [rl_u_s]; rfl) | rw [rl_u_n (by first | with_reducible assumption | omega)])) (by first | rfl | with_reducible assumption) ?_
      rw [hrr]
      refine o_icmp_ge (tgt := 92) hC dX8_makeScan_7 (by decide) (fun c_7 => ?_) (fun c_7 => ?_)
      · first | exact absurd c_7 (nI_ge (by omega) (by omega)) | (refine o_vret hC hB dX8_makeScan_92 (Nat.le_of_ble_eq_true rfl) (Nat.le_of_ble_eq_true rfl) ?_; exact ⟨rfl, rfl, _, _, hq1⟩)
      · refine o_aload_n hC dX8_makeScan_10 (by rfl) ?_
        refine o_getf hC (fX8_91 hC rfl) dX8_makeScan_11 (by repeat (first | with_reducible assumption | (rw [rl_u_s]; done) | (rw [rl_u_s]; rfl) | rw [rl_u_n (by first | with_reducible assumption | omega)])) (by first | rfl | with_reducible assumption) ?_
        refine o_if_ne (tgt := 92) hC dX8_makeScan_14 (by decide) (fun c_14 => ?_) (fun c_14 => ?_)
        · first | exact absurd c_7 (nI_ge (by omega) (by omega)) | (refine o_vret hC hB dX8_makeScan_92 (Nat.le_of_ble_eq_true rfl) (Nat.le_of_ble_eq_true rfl) ?_; exact ⟨rfl, rfl, _, _, hq1⟩)
        · refine o_aload_n hC dX8_makeScan_17 (by rfl) ?_
          refine o_getf hC (fX8_13 hC rfl) dX8_makeScan_18 (by repeat (first | with_reducible assumption | (rw [rl_u_s]; done) | (rw [rl_u_s]; rfl) | rw [rl_u_n (by first | with_reducible assumption | omega)])) (by first | rfl | with_reducible assumption) ?_
          refine o_iload_n hC dX8_makeScan_21 (by rfl) ?_
          refine o_ialdN (t0 := 0) hC rfl dX8_makeScan_22 (by repeat (first | with_reducible assumption | (rw [rl_u_s]; done) | (rw [rl_u_s]; rfl) | rw [rl_u_n (by first | with_reducible assumption | omega)])) (by omega) (by decide) ?_
          refine o_iload_n hC dX8_makeScan_23 (by rfl) ?_
          refine o_icmp_ne (tgt := 86) hC dX8_makeScan_24 (by decide) (fun c_24 => ?_) (fun c_24 => ?_)
          · refine o_iinc hC dX8_makeScan_86 (by rfl) (rl_inc _) (Nat.le_of_ble_eq_true rfl) ?_
            refine o_goto (tgt := 2) hC dX8_makeScan_89 (by decide) ?_
            exact ih (t + 1) _ _ _ _ (by omega) hq1
          · refine o_iconst (v := nI 0) hC dX8_makeScan_27 (by decide +kernel) ?_
            refine o_istore hC dX8_makeScan_28 (Nat.le_of_ble_eq_true rfl) ?_
            exact loopC 4 0 _ (by omega) hq1
  show rl_G X (rl_e D ids H0) 0 [some (.ref m), some (.int (nI a)), some (.int q), none, none] [] h n 0 0
  refine o_iconst (v := nI 0) hC dX8_makeScan_0 (by decide +kernel) ?_
  refine o_istore_n hC dX8_makeScan_1 (Nat.le_of_ble_eq_true rfl) ?_
  exact loop rr 0 _ _ _ _ (by omega) hq

set_option maxHeartbeats 4000000 in
set_option maxRecDepth 100000 in
theorem cm_X8_makePick (l : Launch) (D : va_G) (ids : Nat → ClassId) (H0 : Heap) (h : rl_H) (n : Nat) (m : Nat) (T : md_T) (fu : Int32) (k : Nat) (S : md_A) (a b w wb ca : Nat) (hq : mq ids h h m T fu k) (hs : md_sa ids h m S) (ha : a < 16) (hb : b < 16) (hw : S.2.2.2.2.2.2.2.2.2.2 a = nI w) (hw6 : w ≤ 6) (hwb : S.2.2.2.2.2.2.2.2.2.2 b = nI wb) (hwb6 : wb ≤ 6) (hnA : S.2.2.2.2.2.2.1 a = nI ca) (hca : ca < 6) (hnC : S.2.2.2.2.2.2.2.2.1 a = -1 ∨ ∃ cc : Nat, cc < 6 ∧ S.2.2.2.2.2.2.2.2.1 a = nI cc) : rl_Met l (rl_e D ids H0) rl_BW rl_Ns yX8_makePick cX8_makePick 7 none ({ frames := 4, cells := 0, slots := 0, locals := 98 }) [.ref m, .int (nI a), .int (nI b)] h n (fun v h' n' => v = none ∧ n' = n ∧ ∃ (fu' : Int32) (k' : Nat), mq ids h h' m T fu' k') := by
  refine rl_Met.of (by decide +kernel) (Nat.le_of_ble_eq_true rfl) ?_
  intro X hC hB
  have loop : ∀ (mm t : Nat) (h1 : rl_H) (f1 : Int32) (k1 : Nat) (o4 o5 o6 : Option Value), t + mm = 80 → mq ids h h1 m T f1 k1 → rl_G X (rl_e D ids H0) 2 [some (.ref m), some (.int (nI a)), some (.int (nI b)), some (.int (nI t)), o4, o5, o6] [] h1 n 0 0 := by
    intro mm
    induction mm with
    | zero =>
      intro t h1 f1 k1 o4 o5 o6 hm hq1
      have hs1 := hq1.sa hs
      obtain ⟨g0, gk, ⟨⟨cl, g12⟩, ⟨tu, g13, b13⟩, ⟨im, g14⟩, ⟨te, g15, b15⟩, ⟨ne, g16⟩, ⟨la, g17⟩, ⟨hn, g18⟩, ⟨hl, g19⟩, ⟨tp, g20⟩, ⟨gr, g21, b21⟩, ⟨it, g22⟩⟩, gf⟩ := id hq1
      obtain ⟨a1, a2, a3, a4, a5, a6, a7, a8, a9, a10, a11⟩ := id hs1
      refine o_iload_n hC dX8_makePick_2 (by rfl) ?_
      refine o_aload_n hC dX8_makePick_3 (by rfl) ?_
      refine o_getf hC (fX8_46 hC rfl) dX8_makePick_4 (by repeat (first | with_reducible assumption | (rw [rl_u_s]; done) | (rw [rl_u_s]; rfl) | rw [rl_u_n (by first | with_reducible assumption | omega)])) (by first | rfl | with_reducible assumption) ?_
      refine o_iload_n hC dX8_makePick_7 (by rfl) ?_
      obtain ⟨t8, ht8, et8⟩ := b13 b (by omega)
      refine o_ialdN (t0 := 0) (k := b) hC rfl dX8_makePick_8 (by repeat (first | with_reducible assumption | (rw [rl_u_s]; done) | (rw [rl_u_s]; rfl) | rw [rl_u_n (by first | with_reducible assumption | omega)])) (by omega) (by decide) ?_
      rw [et8]
      refine o_icmp_ge (tgt := 156) hC dX8_makePick_9 (by decide) (fun c_9 => ?_) (fun c_9 => ?_)
      · refine o_vret hC hB dX8_makePick_156 (Nat.le_of_ble_eq_true rfl) (Nat.le_of_ble_eq_true rfl) ?_
        exact ⟨rfl, rfl, _, _, hq1⟩
      · exact absurd (nI_le (by omega) (by omega)) c_9
    | succ mm ih =>
      intro t h1 f1 k1 o4 o5 o6 hm hq1
      have go : ∀ (z : Int32) (o4 o5 : Option Value), rl_G X (rl_e D ids H0) 122 [some (.ref m), some (.int (nI a)), some (.int (nI b)), some (.int (nI t)), o4, o5, some (.int z)] [] h1 n 0 0 := by
        intro z o4 o5
        have hs1 := hq1.sa hs
        obtain ⟨g0, gk, ⟨⟨cl, g12⟩, ⟨tu, g13, b13⟩, ⟨im, g14⟩, ⟨te, g15, b15⟩, ⟨ne, g16⟩, ⟨la, g17⟩, ⟨hn, g18⟩, ⟨hl, g19⟩, ⟨tp, g20⟩, ⟨gr, g21, b21⟩, ⟨it, g22⟩⟩, gf⟩ := id hq1
        obtain ⟨a1, a2, a3, a4, a5, a6, a7, a8, a9, a10, a11⟩ := id hs1
        refine o_iload hC dX8_makePick_122 (by rfl) ?_
        refine o_if_eq (tgt := 150) hC dX8_makePick_124 (by decide) (fun c_124 => ?_) (fun c_124 => ?_)
        · refine o_iinc hC dX8_makePick_150 (by rfl) (rl_inc _) (Nat.le_of_ble_eq_true rfl) ?_
          refine o_goto (tgt := 2) hC dX8_makePick_153 (by decide) ?_
          first
          | exact ih (t + 1) _ _ _ _ _ _ (by omega) (hq2.tr q147)
          | exact ih (t + 1) _ _ _ _ _ _ (by omega) hq1
        · refine o_aload_n hC dX8_makePick_127 (by rfl) ?_
          refine o_iload_n hC dX8_makePick_128 (by rfl) ?_
          refine o_iload_n hC dX8_makePick_129 (by rfl) ?_
          refine o_aload_n hC dX8_makePick_130 (by rfl) ?_
          refine o_getf hC (fX8_40 hC rfl) dX8_makePick_131 (by repeat (first | with_reducible assumption | (rw [rl_u_s]; done) | (rw [rl_u_s]; rfl) | rw [rl_u_n (by first | with_reducible assumption | omega)])) (by first | rfl | with_reducible assumption) ?_
          refine o_iload_n hC dX8_makePick_134 (by rfl) ?_
          refine o_ialdN (t0 := 0) (k := b) hC rfl dX8_makePick_135 (by repeat (first | with_reducible assumption | (rw [rl_u_s]; done) | (rw [rl_u_s]; rfl) | rw [rl_u_n (by first | with_reducible assumption | omega)])) (by omega) (by decide) ?_
          rw [hwb]
          refine o_callV3 hC rl_BW_good rl_Ns_nw (by exact hB.2.2.2.2.2) YX8_take IX8_take VX8_take (mX8_181 hC) (by rw [hB.1]; exact cm_X8_take l D ids H0 _ _ m T _ _ b t wb hq1.rf (by omega) (by omega) hwb6) (by exact hq1.1) rfl rfl (Nat.le_of_ble_eq_true rfl) (by rw [hB.2.1]; first | exact Nat.le_of_ble_eq_true rfl | (dsimp only; omega)) (by rw [hB.2.1]; first | exact Nat.le_of_ble_eq_true rfl | (dsimp only; omega)) (by rw [hB.2.1]; first | exact Nat.le_of_ble_eq_true rfl | (dsimp only; omega)) (by rw [hB.2.1]; first | exact Nat.le_of_ble_eq_true rfl | (dsimp only; omega)) dX8_makePick_136 (fun v h_136 n_136 p_136 => ?_)
          obtain ⟨rfl, rfl, q136⟩ := p_136
          have hq2 := hq1.tr q136
          have hs2 := hq2.sa hs
          try dsimp only [Option.toList, List.cons_append, List.nil_append]
          refine o_aload_n hC dX8_makePick_139 (by rfl) ?_
          refine o_iload_n hC dX8_makePick_140 (by rfl) ?_
          refine o_bipush (v := nI 80) hC dX8_makePick_141 (by decide +kernel) ?_
          refine o_iload_n hC dX8_makePick_143 (by rfl) ?_
          refine o_imul hC dX8_makePick_144 ?_
          try rw [nI_mul]
          refine o_iload_n hC dX8_makePick_145 (by rfl) ?_
          refine o_iadd hC dX8_makePick_146 ?_
          try rw [nI_add]
          refine o_callV2 hC rl_BW_good rl_Ns_nw (by exact hB.2.2.2.2.2) YX8_comes IX8_comes VX8_comes (mX8_178 hC) (by rw [hB.1]; exact cm_X8_comes l D ids H0 _ _ m T _ _ S a (80 * b + t) w hq2.rf hs2 (by omega) (by omega) hw hw6) (by exact hq2.1) rfl rfl (Nat.le_of_ble_eq_true rfl) (by rw [hB.2.1]; first | exact Nat.le_of_ble_eq_true rfl | (dsimp only; omega)) (by rw [hB.2.1]; first | exact Nat.le_of_ble_eq_true rfl | (dsimp only; omega)) (by rw [hB.2.1]; first | exact Nat.le_of_ble_eq_true rfl | (dsimp only; omega)) (by rw [hB.2.1]; first | exact Nat.le_of_ble_eq_true rfl | (dsimp only; omega)) dX8_makePick_147 (fun v h_147 n_147 p_147 => ?_)
          obtain ⟨rfl, rfl, f147, k147, q147⟩ := p_147
          try dsimp only [Option.toList, List.cons_append, List.nil_append]
          refine o_iinc hC dX8_makePick_150 (by rfl) (rl_inc _) (Nat.le_of_ble_eq_true rfl) ?_
          refine o_goto (tgt := 2) hC dX8_makePick_153 (by decide) ?_
          first
          | exact ih (t + 1) _ _ _ _ _ _ (by omega) (hq2.tr q147)
          | exact ih (t + 1) _ _ _ _ _ _ (by omega) hq1
      have hs1 := hq1.sa hs
      obtain ⟨g0, gk, ⟨⟨cl, g12⟩, ⟨tu, g13, b13⟩, ⟨im, g14⟩, ⟨te, g15, b15⟩, ⟨ne, g16⟩, ⟨la, g17⟩, ⟨hn, g18⟩, ⟨hl, g19⟩, ⟨tp, g20⟩, ⟨gr, g21, b21⟩, ⟨it, g22⟩⟩, gf⟩ := id hq1
      obtain ⟨a1, a2, a3, a4, a5, a6, a7, a8, a9, a10, a11⟩ := id hs1
      refine o_iload_n hC dX8_makePick_2 (by rfl) ?_
      refine o_aload_n hC dX8_makePick_3 (by rfl) ?_
      refine o_getf hC (fX8_46 hC rfl) dX8_makePick_4 (by repeat (first | with_reducible assumption | (rw [rl_u_s]; done) | (rw [rl_u_s]; rfl) | rw [rl_u_n (by first | with_reducible assumption | omega)])) (by first | rfl | with_reducible assumption) ?_
      refine o_iload_n hC dX8_makePick_7 (by rfl) ?_
      obtain ⟨t8, ht8, et8⟩ := b13 b (by omega)
      refine o_ialdN (t0 := 0) (k := b) hC rfl dX8_makePick_8 (by repeat (first | with_reducible assumption | (rw [rl_u_s]; done) | (rw [rl_u_s]; rfl) | rw [rl_u_n (by first | with_reducible assumption | omega)])) (by omega) (by decide) ?_
      rw [et8]
      refine o_icmp_ge (tgt := 156) hC dX8_makePick_9 (by decide) (fun c_9 => ?_) (fun c_9 => ?_)
      · refine o_vret hC hB dX8_makePick_156 (Nat.le_of_ble_eq_true rfl) (Nat.le_of_ble_eq_true rfl) ?_
        exact ⟨rfl, rfl, _, _, hq1⟩
      · refine o_aload_n hC dX8_makePick_12 (by rfl) ?_
        refine o_iload_n hC dX8_makePick_13 (by rfl) ?_
        refine o_iload_n hC dX8_makePick_14 (by rfl) ?_
        refine o_aload_n hC dX8_makePick_15 (by rfl) ?_
        refine o_getf hC (fX8_28 hC rfl) dX8_makePick_16 (by repeat (first | with_reducible assumption | (rw [rl_u_s]; done) | (rw [rl_u_s]; rfl) | rw [rl_u_n (by first | with_reducible assumption | omega)])) (by first | rfl | with_reducible assumption) ?_
        refine o_iload_n hC dX8_makePick_19 (by rfl) ?_
        refine o_ialdN (t0 := 0) (k := a) hC rfl dX8_makePick_20 (by repeat (first | with_reducible assumption | (rw [rl_u_s]; done) | (rw [rl_u_s]; rfl) | rw [rl_u_n (by first | with_reducible assumption | omega)])) (by omega) (by decide) ?_
        rw [hnA]
        refine o_callV3 hC rl_BW_good rl_Ns_nw (by exact hB.2.2.2.2.2) YX8_cellAt IX8_cellAt VX8_cellAt (mX8_138 hC) (by rw [hB.1]; exact cm_X8_cellAt l D ids H0 _ _ m T _ _ b t ca hq1.rf (by omega)) (by exact hq1.rf.1) rfl rfl (Nat.le_of_ble_eq_true rfl) (by rw [hB.2.1]; first | exact Nat.le_of_ble_eq_true rfl | (dsimp only; omega)) (by rw [hB.2.1]; first | exact Nat.le_of_ble_eq_true rfl | (dsimp only; omega)) (by rw [hB.2.1]; first | exact Nat.le_of_ble_eq_true rfl | (dsimp only; omega)) (by rw [hB.2.1]; first | exact Nat.le_of_ble_eq_true rfl | (dsimp only; omega)) dX8_makePick_21 (fun v h_21 n_21 p_21 => ?_)
        obtain ⟨r21, rfl, rfl, rfl⟩ := p_21
        try dsimp only [Option.toList, List.cons_append, List.nil_append]
        refine o_istore hC dX8_makePick_24 (Nat.le_of_ble_eq_true rfl) ?_
        refine o_aload_n hC dX8_makePick_26 (by rfl) ?_
        refine o_getf hC (fX8_34 hC rfl) dX8_makePick_27 (by repeat (first | with_reducible assumption | (rw [rl_u_s]; done) | (rw [rl_u_s]; rfl) | rw [rl_u_n (by first | with_reducible assumption | omega)])) (by first | rfl | with_reducible assumption) ?_
        refine o_iload_n hC dX8_makePick_30 (by rfl) ?_
        refine o_ialdN (t0 := 0) hC rfl dX8_makePick_31 (by repeat (first | with_reducible assumption | (rw [rl_u_s]; done) | (rw [rl_u_s]; rfl) | rw [rl_u_n (by first | with_reducible assumption | omega)])) (by omega) (by decide) ?_
        refine o_iconst (v := (-1 : Int32)) hC dX8_makePick_32 (by decide +kernel) ?_
        refine o_icmp_ne (tgt := 45) hC dX8_makePick_33 (by decide) (fun c_33 => ?_) (fun c_33 => ?_)
        · refine o_aload_n hC dX8_makePick_45 (by rfl) ?_
          refine o_iload_n hC dX8_makePick_46 (by rfl) ?_
          refine o_iload_n hC dX8_makePick_47 (by rfl) ?_
          refine o_aload_n hC dX8_makePick_48 (by rfl) ?_
          refine o_getf hC (fX8_34 hC rfl) dX8_makePick_49 (by repeat (first | with_reducible assumption | (rw [rl_u_s]; done) | (rw [rl_u_s]; rfl) | rw [rl_u_n (by first | with_reducible assumption | omega)])) (by first | rfl | with_reducible assumption) ?_
          refine o_iload_n hC dX8_makePick_52 (by rfl) ?_
          obtain ⟨cc, hcc, ec⟩ := hnC.resolve_left c_33
          refine o_ialdN (t0 := 0) (k := a) hC rfl dX8_makePick_53 (by repeat (first | with_reducible assumption | (rw [rl_u_s]; done) | (rw [rl_u_s]; rfl) | rw [rl_u_n (by first | with_reducible assumption | omega)])) (by omega) (by decide) ?_
          rw [ec]
          refine o_callV3 hC rl_BW_good rl_Ns_nw (by exact hB.2.2.2.2.2) YX8_cellAt IX8_cellAt VX8_cellAt (mX8_138 hC) (by rw [hB.1]; exact cm_X8_cellAt l D ids H0 _ _ m T _ _ b t cc hq1.rf (by omega)) (by exact hq1.rf.1) rfl rfl (Nat.le_of_ble_eq_true rfl) (by rw [hB.2.1]; first | exact Nat.le_of_ble_eq_true rfl | (dsimp only; omega)) (by rw [hB.2.1]; first | exact Nat.le_of_ble_eq_true rfl | (dsimp only; omega)) (by rw [hB.2.1]; first | exact Nat.le_of_ble_eq_true rfl | (dsimp only; omega)) (by rw [hB.2.1]; first | exact Nat.le_of_ble_eq_true rfl | (dsimp only; omega)) dX8_makePick_54 (fun v h_54 n_54 p_54 => ?_)
          obtain ⟨r54, rfl, rfl, rfl⟩ := p_54
          try dsimp only [Option.toList, List.cons_append, List.nil_append]
          refine o_istore hC dX8_makePick_57 (Nat.le_of_ble_eq_true rfl) ?_
          refine o_aload_n hC dX8_makePick_59 (by rfl) ?_
          refine o_getf hC (fX8_31 hC rfl) dX8_makePick_60 (by repeat (first | with_reducible assumption | (rw [rl_u_s]; done) | (rw [rl_u_s]; rfl) | rw [rl_u_n (by first | with_reducible assumption | omega)])) (by first | rfl | with_reducible assumption) ?_
          refine o_iload_n hC dX8_makePick_63 (by rfl) ?_
          refine o_ialdN (t0 := 0) hC rfl dX8_makePick_64 (by repeat (first | with_reducible assumption | (rw [rl_u_s]; done) | (rw [rl_u_s]; rfl) | rw [rl_u_n (by first | with_reducible assumption | omega)])) (by omega) (by decide) ?_
          refine o_if_ne (tgt := 83) hC dX8_makePick_65 (by decide) (fun c_65 => ?_) (fun c_65 => ?_)
          · refine o_aload_n hC dX8_makePick_83 (by rfl) ?_
            refine o_getf hC (fX8_31 hC rfl) dX8_makePick_84 (by repeat (first | with_reducible assumption | (rw [rl_u_s]; done) | (rw [rl_u_s]; rfl) | rw [rl_u_n (by first | with_reducible assumption | omega)])) (by first | rfl | with_reducible assumption) ?_
            refine o_iload_n hC dX8_makePick_87 (by rfl) ?_
            refine o_ialdN (t0 := 0) hC rfl dX8_makePick_88 (by repeat (first | with_reducible assumption | (rw [rl_u_s]; done) | (rw [rl_u_s]; rfl) | rw [rl_u_n (by first | with_reducible assumption | omega)])) (by omega) (by decide) ?_
            refine o_iconst (v := nI 1) hC dX8_makePick_89 (by decide +kernel) ?_
            refine o_icmp_ne (tgt := 108) hC dX8_makePick_90 (by decide) (fun c_90 => ?_) (fun c_90 => ?_)
            · refine o_iload hC dX8_makePick_108 (by rfl) ?_
              refine o_iload hC dX8_makePick_110 (by rfl) ?_
              refine o_icmp_le (tgt := 119) hC dX8_makePick_112 (by decide) (fun c_112 => ?_) (fun c_112 => ?_)
              · refine o_iconst (v := nI 0) hC dX8_makePick_119 (by decide +kernel) ?_
                refine o_istore hC dX8_makePick_120 (Nat.le_of_ble_eq_true rfl) ?_
                exact go _ _ _
              · refine o_iconst (v := nI 1) hC dX8_makePick_115 (by decide +kernel) ?_
                refine o_goto (tgt := 120) hC dX8_makePick_116 (by decide) ?_
                refine o_istore hC dX8_makePick_120 (Nat.le_of_ble_eq_true rfl) ?_
                exact go _ _ _
            · refine o_iload hC dX8_makePick_93 (by rfl) ?_
              refine o_iload hC dX8_makePick_95 (by rfl) ?_
              refine o_icmp_ne (tgt := 104) hC dX8_makePick_97 (by decide) (fun c_97 => ?_) (fun c_97 => ?_)
              · refine o_iconst (v := nI 0) hC dX8_makePick_104 (by decide +kernel) ?_
                refine o_goto (tgt := 120) hC dX8_makePick_105 (by decide) ?_
                refine o_istore hC dX8_makePick_120 (Nat.le_of_ble_eq_true rfl) ?_
                exact go _ _ _
              · refine o_iconst (v := nI 1) hC dX8_makePick_100 (by decide +kernel) ?_
                refine o_goto (tgt := 120) hC dX8_makePick_101 (by decide) ?_
                refine o_istore hC dX8_makePick_120 (Nat.le_of_ble_eq_true rfl) ?_
                exact go _ _ _
          · refine o_iload hC dX8_makePick_68 (by rfl) ?_
            refine o_iload hC dX8_makePick_70 (by rfl) ?_
            refine o_icmp_ge (tgt := 79) hC dX8_makePick_72 (by decide) (fun c_72 => ?_) (fun c_72 => ?_)
            · refine o_iconst (v := nI 0) hC dX8_makePick_79 (by decide +kernel) ?_
              refine o_goto (tgt := 120) hC dX8_makePick_80 (by decide) ?_
              refine o_istore hC dX8_makePick_120 (Nat.le_of_ble_eq_true rfl) ?_
              exact go _ _ _
            · refine o_iconst (v := nI 1) hC dX8_makePick_75 (by decide +kernel) ?_
              refine o_goto (tgt := 120) hC dX8_makePick_76 (by decide) ?_
              refine o_istore hC dX8_makePick_120 (Nat.le_of_ble_eq_true rfl) ?_
              exact go _ _ _
        · refine o_aload_n hC dX8_makePick_36 (by rfl) ?_
          refine o_getf hC (fX8_37 hC rfl) dX8_makePick_37 (by repeat (first | with_reducible assumption | (rw [rl_u_s]; done) | (rw [rl_u_s]; rfl) | rw [rl_u_n (by first | with_reducible assumption | omega)])) (by first | rfl | with_reducible assumption) ?_
          refine o_iload_n hC dX8_makePick_40 (by rfl) ?_
          refine o_ialdN (t0 := 0) hC rfl dX8_makePick_41 (by repeat (first | with_reducible assumption | (rw [rl_u_s]; done) | (rw [rl_u_s]; rfl) | rw [rl_u_n (by first | with_reducible assumption | omega)])) (by omega) (by decide) ?_
          refine o_goto (tgt := 57) hC dX8_makePick_42 (by decide) ?_
          refine o_istore hC dX8_makePick_57 (Nat.le_of_ble_eq_true rfl) ?_
          refine o_aload_n hC dX8_makePick_59 (by rfl) ?_
          refine o_getf hC (fX8_31 hC rfl) dX8_makePick_60 (by repeat (first | with_reducible assumption | (rw [rl_u_s]; done) | (rw [rl_u_s]; rfl) | rw [rl_u_n (by first | with_reducible assumption | omega)])) (by first | rfl | with_reducible assumption) ?_
          refine o_iload_n hC dX8_makePick_63 (by rfl) ?_
          refine o_ialdN (t0 := 0) hC rfl dX8_makePick_64 (by repeat (first | with_reducible assumption | (rw [rl_u_s]; done) | (rw [rl_u_s]; rfl) | rw [rl_u_n (by first | with_reducible assumption | omega)])) (by omega) (by decide) ?_
          refine o_if_ne (tgt := 83) hC dX8_makePick_65 (by decide) (fun c_65 => ?_) (fun c_65 => ?_)
          · refine o_aload_n hC dX8_makePick_83 (by rfl) ?_
            refine o_getf hC (fX8_31 hC rfl) dX8_makePick_84 (by repeat (first | with_reducible assumption | (rw [rl_u_s]; done) | (rw [rl_u_s]; rfl) | rw [rl_u_n (by first | with_reducible assumption | omega)])) (by first | rfl | with_reducible assumption) ?_
            refine o_iload_n hC dX8_makePick_87 (by rfl) ?_
            refine o_ialdN (t0 := 0) hC rfl dX8_makePick_88 (by repeat (first | with_reducible assumption | (rw [rl_u_s]; done) | (rw [rl_u_s]; rfl) | rw [rl_u_n (by first | with_reducible assumption | omega)])) (by omega) (by decide) ?_
            refine o_iconst (v := nI 1) hC dX8_makePick_89 (by decide +kernel) ?_
            refine o_icmp_ne (tgt := 108) hC dX8_makePick_90 (by decide) (fun c_90 => ?_) (fun c_90 => ?_)
            · refine o_iload hC dX8_makePick_108 (by rfl) ?_
              refine o_iload hC dX8_makePick_110 (by rfl) ?_
              refine o_icmp_le (tgt := 119) hC dX8_makePick_112 (by decide) (fun c_112 => ?_) (fun c_112 => ?_)
              · refine o_iconst (v := nI 0) hC dX8_makePick_119 (by decide +kernel) ?_
                refine o_istore hC dX8_makePick_120 (Nat.le_of_ble_eq_true rfl) ?_
                exact go _ _ _
              · refine o_iconst (v := nI 1) hC dX8_makePick_115 (by decide +kernel) ?_
                refine o_goto (tgt := 120) hC dX8_makePick_116 (by decide) ?_
                refine o_istore hC dX8_makePick_120 (Nat.le_of_ble_eq_true rfl) ?_
                exact go _ _ _
            · refine o_iload hC dX8_makePick_93 (by rfl) ?_
              refine o_iload hC dX8_makePick_95 (by rfl) ?_
              refine o_icmp_ne (tgt := 104) hC dX8_makePick_97 (by decide) (fun c_97 => ?_) (fun c_97 => ?_)
              · refine o_iconst (v := nI 0) hC dX8_makePick_104 (by decide +kernel) ?_
                refine o_goto (tgt := 120) hC dX8_makePick_105 (by decide) ?_
                refine o_istore hC dX8_makePick_120 (Nat.le_of_ble_eq_true rfl) ?_
                exact go _ _ _
              · refine o_iconst (v := nI 1) hC dX8_makePick_100 (by decide +kernel) ?_
                refine o_goto (tgt := 120) hC dX8_makePick_101 (by decide) ?_
                refine o_istore hC dX8_makePick_120 (Nat.le_of_ble_eq_true rfl) ?_
                exact go _ _ _
          · refine o_iload hC dX8_makePick_68 (by rfl) ?_
            refine o_iload hC dX8_makePick_70 (by rfl) ?_
            refine o_icmp_ge (tgt := 79) hC dX8_makePick_72 (by decide) (fun c_72 => ?_) (fun c_72 => ?_)
            · refine o_iconst (v := nI 0) hC dX8_makePick_79 (by decide +kernel) ?_
              refine o_goto (tgt := 120) hC dX8_makePick_80 (by decide) ?_
              refine o_istore hC dX8_makePick_120 (Nat.le_of_ble_eq_true rfl) ?_
              exact go _ _ _
            · refine o_iconst (v := nI 1) hC dX8_makePick_75 (by decide +kernel) ?_
              refine o_goto (tgt := 120) hC dX8_makePick_76 (by decide) ?_
              refine o_istore hC dX8_makePick_120 (Nat.le_of_ble_eq_true rfl) ?_
              exact go _ _ _
  show rl_G X (rl_e D ids H0) 0 [some (.ref m), some (.int (nI a)), some (.int (nI b)), none, none, none, none] [] h n 0 0
  refine o_iconst (v := nI 0) hC dX8_makePick_0 (by decide +kernel) ?_
  refine o_istore_n hC dX8_makePick_1 (Nat.le_of_ble_eq_true rfl) ?_
  exact loop 80 0 _ _ _ _ _ _ (by omega) hq

set_option maxHeartbeats 4000000 in
set_option maxRecDepth 100000 in
theorem cm_X8_makeCols (l : Launch) (D : va_G) (ids : Nat → ClassId) (H0 : Heap) (h : rl_H) (n : Nat) (m : Nat) (T : md_T) (fu : Int32) (k : Nat) (S : md_A) (a b w wb N : Nat) (hq : mq ids h h m T fu k) (hs : md_sa ids h m S) (ha : a < 16) (hb : b < 16) (hw : S.2.2.2.2.2.2.2.2.2.2 a = nI w) (hw6 : w ≤ 6) (hwb : S.2.2.2.2.2.2.2.2.2.2 b = nI wb) (hwb6 : wb ≤ 6) (hnA : S.2.2.2.2.2.2.1 a = nI N) (hN : N < 10 ^ 6) (hd : ∀ c : Nat, N / 10 ^ c ≠ 0 → 1 ≤ N / 10 ^ c % 10 ∧ N / 10 ^ c % 10 ≤ 6) : rl_Met l (rl_e D ids H0) rl_BW rl_Ns yX8_makeCols cX8_makeCols 6 none ({ frames := 4, cells := 0, slots := 0, locals := 98 }) [.ref m, .int (nI a), .int (nI b)] h n (fun v h' n' => v = none ∧ n' = n ∧ ∃ (fu' : Int32) (k' : Nat), mq ids h h' m T fu' k') := by
  refine rl_Met.of (by decide +kernel) (Nat.le_of_ble_eq_true rfl) ?_
  intro X hC hB
  have loop : ∀ (mm t : Nat) (h1 : rl_H) (f1 : Int32) (k1 : Nat) (o4 o5 : Option Value), t + mm = 80 → mq ids h h1 m T f1 k1 → rl_G X (rl_e D ids H0) 2 [some (.ref m), some (.int (nI a)), some (.int (nI b)), some (.int (nI t)), o4, o5] [] h1 n 0 0 := by
    intro mm
    induction mm with
    | zero =>
      intro t h1 f1 k1 o4 o5 hm hq1
      have hs1 := hq1.sa hs
      obtain ⟨g0, gk, ⟨⟨cl, g12⟩, ⟨tu, g13, b13⟩, ⟨im, g14⟩, ⟨te, g15, b15⟩, ⟨ne, g16⟩, ⟨la, g17⟩, ⟨hn, g18⟩, ⟨hl, g19⟩, ⟨tp, g20⟩, ⟨gr, g21, b21⟩, ⟨it, g22⟩⟩, gf⟩ := id hq1
      obtain ⟨a1, a2, a3, a4, a5, a6, a7, a8, a9, a10, a11⟩ := id hs1
      refine o_iload_n hC dX8_makeCols_2 (by rfl) ?_
      refine o_aload_n hC dX8_makeCols_3 (by rfl) ?_
      refine o_getf hC (fX8_46 hC rfl) dX8_makeCols_4 (by repeat (first | with_reducible assumption | (rw [rl_u_s]; done) | (rw [rl_u_s]; rfl) | rw [rl_u_n (by first | with_reducible assumption | omega)])) (by first | rfl | with_reducible assumption) ?_
      refine o_iload_n hC dX8_makeCols_7 (by rfl) ?_
      obtain ⟨t8, ht8, et8⟩ := b13 b (by omega)
      refine o_ialdN (t0 := 0) (k := b) hC rfl dX8_makeCols_8 (by repeat (first | with_reducible assumption | (rw [rl_u_s]; done) | (rw [rl_u_s]; rfl) | rw [rl_u_n (by first | with_reducible assumption | omega)])) (by omega) (by decide) ?_
      rw [et8]
      refine o_icmp_ge (tgt := 85) hC dX8_makeCols_9 (by decide) (fun c_9 => ?_) (fun c_9 => ?_)
      · refine o_vret hC hB dX8_makeCols_85 (Nat.le_of_ble_eq_true rfl) (Nat.le_of_ble_eq_true rfl) ?_
        exact ⟨rfl, rfl, _, _, hq1⟩
      · exact absurd (nI_le (by omega) (by omega)) c_9
    | succ mm ih =>
      intro t h1 f1 k1 o4 o5 hm hq1
      have loopC : ∀ (m2 c : Nat) (h2 : rl_H), c + m2 = 6 → mq ids h h2 m T f1 k1 → rl_G X (rl_e D ids H0) 30 [some (.ref m), some (.int (nI a)), some (.int (nI b)), some (.int (nI t)), some (.int (nI c)), some (.int (nI (N / 10 ^ c)))] [] h2 n 0 0 := by
        intro m2
        induction m2 with
        | zero =>
          intro c h2 hm2 hq2
          have c6 : c = 6 := by omega
          subst c6
          have z0 : N / 10 ^ 6 = 0 := Nat.div_eq_of_lt hN
          rw [z0]
          have hs2 := hq2.sa hs
          refine o_iload hC dX8_makeCols_30 (by rfl) ?_
          refine o_if_le (tgt := 68) hC dX8_makeCols_32 (by decide) (fun c_32 => ?_) (fun c_32 => ?_)
          · refine o_aload_n hC dX8_makeCols_68 (by rfl) ?_
            refine o_iload_n hC dX8_makeCols_69 (by rfl) ?_
            refine o_bipush (v := nI 80) hC dX8_makeCols_70 (by decide +kernel) ?_
            refine o_iload_n hC dX8_makeCols_72 (by rfl) ?_
            refine o_imul hC dX8_makeCols_73 ?_
            try rw [nI_mul]
            refine o_iload_n hC dX8_makeCols_74 (by rfl) ?_
            refine o_iadd hC dX8_makeCols_75 ?_
            try rw [nI_add]
            refine o_callV2 hC rl_BW_good rl_Ns_nw (by exact hB.2.2.2.2.2) YX8_comes IX8_comes VX8_comes (mX8_178 hC) (by rw [hB.1]; exact cm_X8_comes l D ids H0 _ _ m T _ _ S a (80 * b + t) w hq2.rf hs2 (by omega) (by omega) hw hw6) (by exact hq2.1) rfl rfl (Nat.le_of_ble_eq_true rfl) (by rw [hB.2.1]; first | exact Nat.le_of_ble_eq_true rfl | (dsimp only; omega)) (by rw [hB.2.1]; first | exact Nat.le_of_ble_eq_true rfl | (dsimp only; omega)) (by rw [hB.2.1]; first | exact Nat.le_of_ble_eq_true rfl | (dsimp only; omega)) (by rw [hB.2.1]; first | exact Nat.le_of_ble_eq_true rfl | (dsimp only; omega)) dX8_makeCols_76 (fun v h_76 n_76 p_76 => ?_)
            obtain ⟨rfl, rfl, f76, k76, q76⟩ := p_76
            try dsimp only [Option.toList, List.cons_append, List.nil_append]
            refine o_iinc hC dX8_makeCols_79 (by rfl) (rl_inc _) (Nat.le_of_ble_eq_true rfl) ?_
            refine o_goto (tgt := 2) hC dX8_makeCols_82 (by decide) ?_
            exact ih (t + 1) _ _ _ _ _ (by omega) (hq2.tr q76)
          · exact absurd (by decide +kernel) c_32
        | succ m2 ih2 =>
          intro c h2 hm2 hq2
          have hs2 := hq2.sa hs
          have NR : N / 10 ^ c ≤ N := Nat.div_le_self _ _
          have NL : N < 1000000 := hN
          obtain ⟨R, hR⟩ : ∃ R : Nat, R = N / 10 ^ c := ⟨_, rfl⟩
          have hR10 : N / 10 ^ (c + 1) = R / 10 := by rw [hR, Nat.div_div_eq_div_mul, Nat.pow_succ]
          have hdg := hd c
          rw [← hR] at hdg NR ⊢
          obtain ⟨g0, gk, ⟨⟨cl, g12⟩, ⟨tu, g13, b13⟩, ⟨im, g14⟩, ⟨te, g15, b15⟩, ⟨ne, g16⟩, ⟨la, g17⟩, ⟨hn, g18⟩, ⟨hl, g19⟩, ⟨tp, g20⟩, ⟨gr, g21, b21⟩, ⟨it, g22⟩⟩, gf⟩ := id hq2
          refine o_iload hC dX8_makeCols_30 (by rfl) ?_
          refine o_if_le (tgt := 68) hC dX8_makeCols_32 (by decide) (fun c_32 => ?_) (fun c_32 => ?_)
          · refine o_aload_n hC dX8_makeCols_68 (by rfl) ?_
            refine o_iload_n hC dX8_makeCols_69 (by rfl) ?_
            refine o_bipush (v := nI 80) hC dX8_makeCols_70 (by decide +kernel) ?_
            refine o_iload_n hC dX8_makeCols_72 (by rfl) ?_
            refine o_imul hC dX8_makeCols_73 ?_
            try rw [nI_mul]
            refine o_iload_n hC dX8_makeCols_74 (by rfl) ?_
            refine o_iadd hC dX8_makeCols_75 ?_
            try rw [nI_add]
            refine o_callV2 hC rl_BW_good rl_Ns_nw (by exact hB.2.2.2.2.2) YX8_comes IX8_comes VX8_comes (mX8_178 hC) (by rw [hB.1]; exact cm_X8_comes l D ids H0 _ _ m T _ _ S a (80 * b + t) w hq2.rf hs2 (by omega) (by omega) hw hw6) (by exact hq2.1) rfl rfl (Nat.le_of_ble_eq_true rfl) (by rw [hB.2.1]; first | exact Nat.le_of_ble_eq_true rfl | (dsimp only; omega)) (by rw [hB.2.1]; first | exact Nat.le_of_ble_eq_true rfl | (dsimp only; omega)) (by rw [hB.2.1]; first | exact Nat.le_of_ble_eq_true rfl | (dsimp only; omega)) (by rw [hB.2.1]; first | exact Nat.le_of_ble_eq_true rfl | (dsimp only; omega)) dX8_makeCols_76 (fun v h_76 n_76 p_76 => ?_)
            obtain ⟨rfl, rfl, f76, k76, q76⟩ := p_76
            try dsimp only [Option.toList, List.cons_append, List.nil_append]
            refine o_iinc hC dX8_makeCols_79 (by rfl) (rl_inc _) (Nat.le_of_ble_eq_true rfl) ?_
            refine o_goto (tgt := 2) hC dX8_makeCols_82 (by decide) ?_
            exact ih (t + 1) _ _ _ _ _ (by omega) (hq2.tr q76)
          · refine o_aload_n hC dX8_makeCols_35 (by rfl) ?_
            refine o_getf hC (fX8_69 hC rfl) dX8_makeCols_36 (by repeat (first | with_reducible assumption | (rw [rl_u_s]; done) | (rw [rl_u_s]; rfl) | rw [rl_u_n (by first | with_reducible assumption | omega)])) (by first | rfl | with_reducible assumption) ?_
            refine o_iload hC dX8_makeCols_39 (by rfl) ?_
            refine o_aload_n hC dX8_makeCols_41 (by rfl) ?_
            refine o_iload_n hC dX8_makeCols_42 (by rfl) ?_
            refine o_iload_n hC dX8_makeCols_43 (by rfl) ?_
            refine o_iload hC dX8_makeCols_44 (by rfl) ?_
            refine o_bipush (v := nI 10) hC dX8_makeCols_46 (by decide +kernel) ?_
            obtain ⟨e, he⟩ : ∃ e : Nat, R % 10 = e + 1 := by
              have := hdg (fun z => c_32 (by rw [z]; decide +kernel))
              exact ⟨R % 10 - 1, by omega⟩
            have he6 : e < 6 := by
              have := hdg (fun z => c_32 (by rw [z]; decide +kernel))
              omega
            refine o_irem hC dX8_makeCols_48 (by decide +kernel) ?_
            rw [pk_rem (by omega) (by decide) (by decide), he]
            refine o_iconst (v := nI 1) hC dX8_makeCols_49 (by decide +kernel) ?_
            refine o_isub hC dX8_makeCols_50 ?_
            rw [rl_pred e]
            refine o_callV3 hC rl_BW_good rl_Ns_nw (by exact hB.2.2.2.2.2) YX8_cellAt IX8_cellAt VX8_cellAt (mX8_138 hC) (by rw [hB.1]; exact cm_X8_cellAt l D ids H0 _ _ m T _ _ b t e hq2.rf (by omega)) (by exact hq2.rf.1) rfl rfl (Nat.le_of_ble_eq_true rfl) (by rw [hB.2.1]; first | exact Nat.le_of_ble_eq_true rfl | (dsimp only; omega)) (by rw [hB.2.1]; first | exact Nat.le_of_ble_eq_true rfl | (dsimp only; omega)) (by rw [hB.2.1]; first | exact Nat.le_of_ble_eq_true rfl | (dsimp only; omega)) (by rw [hB.2.1]; first | exact Nat.le_of_ble_eq_true rfl | (dsimp only; omega)) dX8_makeCols_51 (fun v h_51 n_51 p_51 => ?_)
            obtain ⟨r51, rfl, rfl, rfl⟩ := p_51
            try dsimp only [Option.toList, List.cons_append, List.nil_append]
            refine o_iastN (t0 := 0) hC rfl dX8_makeCols_54 (by repeat (first | with_reducible assumption | (rw [rl_u_s]; done) | (rw [rl_u_s]; rfl) | rw [rl_u_n (by first | with_reducible assumption | omega)])) (by omega) (by decide) ?_
            refine o_iinc hC dX8_makeCols_55 (by rfl) (rl_inc _) (Nat.le_of_ble_eq_true rfl) ?_
            refine o_iload hC dX8_makeCols_58 (by rfl) ?_
            refine o_bipush (v := nI 10) hC dX8_makeCols_60 (by decide +kernel) ?_
            refine o_idiv hC dX8_makeCols_62 (by decide +kernel) ?_
            rw [pk_div (by omega) (by decide) (by decide), ← hR10]
            refine o_istore hC dX8_makeCols_63 (Nat.le_of_ble_eq_true rfl) ?_
            refine o_goto (tgt := 30) hC dX8_makeCols_65 (by decide) ?_
            exact ih2 (c + 1) _ (by omega) (hq2.s20 _)
      have hs1 := hq1.sa hs
      obtain ⟨g0, gk, ⟨⟨cl, g12⟩, ⟨tu, g13, b13⟩, ⟨im, g14⟩, ⟨te, g15, b15⟩, ⟨ne, g16⟩, ⟨la, g17⟩, ⟨hn, g18⟩, ⟨hl, g19⟩, ⟨tp, g20⟩, ⟨gr, g21, b21⟩, ⟨it, g22⟩⟩, gf⟩ := id hq1
      obtain ⟨a1, a2, a3, a4, a5, a6, a7, a8, a9, a10, a11⟩ := id hs1
      refine o_iload_n hC dX8_makeCols_2 (by rfl) ?_
      refine o_aload_n hC dX8_makeCols_3 (by rfl) ?_
      refine o_getf hC (fX8_46 hC rfl) dX8_makeCols_4 (by repeat (first | with_reducible assumption | (rw [rl_u_s]; done) | (rw [rl_u_s]; rfl) | rw [rl_u_n (by first | with_reducible assumption | omega)])) (by first | rfl | with_reducible assumption) ?_
      refine o_iload_n hC dX8_makeCols_7 (by rfl) ?_
      obtain ⟨t8, ht8, et8⟩ := b13 b (by omega)
      refine o_ialdN (t0 := 0) (k := b) hC rfl dX8_makeCols_8 (by repeat (first | with_reducible assumption | (rw [rl_u_s]; done) | (rw [rl_u_s]; rfl) | rw [rl_u_n (by first | with_reducible assumption | omega)])) (by omega) (by decide) ?_
      rw [et8]
      refine o_icmp_ge (tgt := 85) hC dX8_makeCols_9 (by decide) (fun c_9 => ?_) (fun c_9 => ?_)
      · refine o_vret hC hB dX8_makeCols_85 (Nat.le_of_ble_eq_true rfl) (Nat.le_of_ble_eq_true rfl) ?_
        exact ⟨rfl, rfl, _, _, hq1⟩
      · refine o_aload_n hC dX8_makeCols_12 (by rfl) ?_
        refine o_getf hC (fX8_91 hC rfl) dX8_makeCols_13 (by repeat (first | with_reducible assumption | (rw [rl_u_s]; done) | (rw [rl_u_s]; rfl) | rw [rl_u_n (by first | with_reducible assumption | omega)])) (by first | rfl | with_reducible assumption) ?_
        refine o_if_ne (tgt := 85) hC dX8_makeCols_16 (by decide) (fun c_16 => ?_) (fun c_16 => ?_)
        · refine o_vret hC hB dX8_makeCols_85 (Nat.le_of_ble_eq_true rfl) (Nat.le_of_ble_eq_true rfl) ?_
          exact ⟨rfl, rfl, _, _, hq1⟩
        · refine o_iconst (v := nI 0) hC dX8_makeCols_19 (by decide +kernel) ?_
          refine o_istore hC dX8_makeCols_20 (Nat.le_of_ble_eq_true rfl) ?_
          refine o_aload_n hC dX8_makeCols_22 (by rfl) ?_
          refine o_getf hC (fX8_28 hC rfl) dX8_makeCols_23 (by repeat (first | with_reducible assumption | (rw [rl_u_s]; done) | (rw [rl_u_s]; rfl) | rw [rl_u_n (by first | with_reducible assumption | omega)])) (by first | rfl | with_reducible assumption) ?_
          refine o_iload_n hC dX8_makeCols_26 (by rfl) ?_
          refine o_ialdN (t0 := 0) (k := a) hC rfl dX8_makeCols_27 (by repeat (first | with_reducible assumption | (rw [rl_u_s]; done) | (rw [rl_u_s]; rfl) | rw [rl_u_n (by first | with_reducible assumption | omega)])) (by omega) (by decide) ?_
          rw [hnA]
          refine o_istore hC dX8_makeCols_28 (Nat.le_of_ble_eq_true rfl) ?_
          have lp := loopC 6 0 _ (by omega) hq1
          rw [Nat.pow_zero, Nat.div_one] at lp
          exact lp
  show rl_G X (rl_e D ids H0) 0 [some (.ref m), some (.int (nI a)), some (.int (nI b)), none, none, none] [] h n 0 0
  refine o_iconst (v := nI 0) hC dX8_makeCols_0 (by decide +kernel) ?_
  refine o_istore_n hC dX8_makeCols_1 (Nat.le_of_ble_eq_true rfl) ?_
  exact loop 80 0 _ _ _ _ _ (by omega) hq
