/-! THE MODEL by shapes: either, both, turn, not -/

set_option maxHeartbeats 4000000 in
set_option maxRecDepth 100000 in
theorem cm_X8_either (l : Launch) (D : va_G) (ids : Nat → ClassId) (H0 : Heap) (h : rl_H) (n : Nat) (m : Nat) (T : md_T) (fu : Int32) (k : Nat) (c a b : Nat) (hq : mq ids h h m T fu k) (hc : c < 1368) (ha : a < 1368) (hb : b < 1368) : rl_Met l (rl_e D ids H0) rl_BW rl_Ns yX8_either cX8_either 5 none ({ frames := 2, cells := 0, slots := 0, locals := 49 }) [.ref m, .int (nI c), .int (nI a), .int (nI b)] h n (fun v h' n' => v = none ∧ n' = n ∧ ∃ (fu' : Int32) (k' : Nat), mq ids h h' m T fu' k') := by
  obtain ⟨g0, gk, ⟨⟨cl, g12⟩, ⟨tu, g13, b13⟩, ⟨im, g14⟩, ⟨te, g15, b15⟩, ⟨ne, g16⟩, ⟨la, g17⟩, ⟨hn, g18⟩, ⟨hl, g19⟩, ⟨tp, g20⟩, ⟨gr, g21, b21⟩, ⟨it, g22⟩⟩, gf⟩ := id hq
  refine rl_Met.of (by decide +kernel) (Nat.le_of_ble_eq_true rfl) ?_
  intro X hC hB
  have loop2 : ∀ (mm i j : Nat) (h1 : rl_H), i + mm = 12 → j ≤ 12 → mq ids h h1 m T fu (j + i) → rl_G X (rl_e D ids H0) 56 [some (.ref m), some (.int (nI c)), some (.int (nI a)), some (.int (nI b)), some (.int (nI i))] [] h1 n 0 0 := by
    intro mm
    induction mm with
    | zero =>
      intro i j h1 hm hj hq1
      obtain ⟨g0, gk, ⟨⟨cl, g12⟩, ⟨tu, g13, b13⟩, ⟨im, g14⟩, ⟨te, g15, b15⟩, ⟨ne, g16⟩, ⟨la, g17⟩, ⟨hn, g18⟩, ⟨hl, g19⟩, ⟨tp, g20⟩, ⟨gr, g21, b21⟩, ⟨it, g22⟩⟩, gf⟩ := id hq1
      refine o_iload hC dX8_either_56 (by rfl) ?_
      refine o_aload_n hC dX8_either_58 (by rfl) ?_
      refine o_getf hC (fX8_53 hC rfl) dX8_either_59 (by repeat (first | with_reducible assumption | (rw [rl_u_s]; done) | (rw [rl_u_s]; rfl) | rw [rl_u_n (by first | with_reducible assumption | omega)])) (by first | rfl | with_reducible assumption) ?_
      refine o_iload_n hC dX8_either_62 (by rfl) ?_
      obtain ⟨t63, ht63, et63⟩ := b15 b (by omega)
      refine o_ialdN (t0 := 0) (k := b) hC rfl dX8_either_63 (by repeat (first | with_reducible assumption | (rw [rl_u_s]; done) | (rw [rl_u_s]; rfl) | rw [rl_u_n (by first | with_reducible assumption | omega)])) (by omega) (by decide) ?_
      rw [et63]
      refine o_icmp_ge (tgt := 101) hC dX8_either_64 (by decide) (fun c_64 => ?_) (fun c_64 => ?_)
      · refine o_aload_n hC dX8_either_101 (by rfl) ?_
        refine o_iload_n hC dX8_either_102 (by rfl) ?_
        refine o_callV1 hC rl_BW_good rl_Ns_nw (by exact hB.2.2.2.2.2) YX8_settle IX8_settle VX8_settle (mX8_99 hC) (by rw [hB.1]; exact cm_X8_settle l D ids H0 _ _ m T _ _ c hq1.rf (by omega)) (by exact hq1.1) rfl rfl (Nat.le_of_ble_eq_true rfl) (by rw [hB.2.1]; first | exact Nat.le_of_ble_eq_true rfl | (dsimp only; omega)) (by rw [hB.2.1]; first | exact Nat.le_of_ble_eq_true rfl | (dsimp only; omega)) (by rw [hB.2.1]; first | exact Nat.le_of_ble_eq_true rfl | (dsimp only; omega)) (by rw [hB.2.1]; first | exact Nat.le_of_ble_eq_true rfl | (dsimp only; omega)) dX8_either_103 (fun v h_103 n_103 p_103 => ?_)
        obtain ⟨rfl, rfl, fs, q9⟩ := p_103
        try dsimp only [Option.toList, List.cons_append, List.nil_append]
        refine o_vret hC hB dX8_either_106 (Nat.le_of_ble_eq_true rfl) (Nat.le_of_ble_eq_true rfl) ?_
        exact ⟨rfl, rfl, _, _, hq1.tr q9⟩
      · exact absurd (nI_le (by omega) (by omega)) c_64
    | succ mm ih =>
      intro i j h1 hm hj hq1
      obtain ⟨g0, gk, ⟨⟨cl, g12⟩, ⟨tu, g13, b13⟩, ⟨im, g14⟩, ⟨te, g15, b15⟩, ⟨ne, g16⟩, ⟨la, g17⟩, ⟨hn, g18⟩, ⟨hl, g19⟩, ⟨tp, g20⟩, ⟨gr, g21, b21⟩, ⟨it, g22⟩⟩, gf⟩ := id hq1
      refine o_iload hC dX8_either_56 (by rfl) ?_
      refine o_aload_n hC dX8_either_58 (by rfl) ?_
      refine o_getf hC (fX8_53 hC rfl) dX8_either_59 (by repeat (first | with_reducible assumption | (rw [rl_u_s]; done) | (rw [rl_u_s]; rfl) | rw [rl_u_n (by first | with_reducible assumption | omega)])) (by first | rfl | with_reducible assumption) ?_
      refine o_iload_n hC dX8_either_62 (by rfl) ?_
      obtain ⟨t63, ht63, et63⟩ := b15 b (by omega)
      refine o_ialdN (t0 := 0) (k := b) hC rfl dX8_either_63 (by repeat (first | with_reducible assumption | (rw [rl_u_s]; done) | (rw [rl_u_s]; rfl) | rw [rl_u_n (by first | with_reducible assumption | omega)])) (by omega) (by decide) ?_
      rw [et63]
      refine o_icmp_ge (tgt := 101) hC dX8_either_64 (by decide) (fun c_64 => ?_) (fun c_64 => ?_)
      · refine o_aload_n hC dX8_either_101 (by rfl) ?_
        refine o_iload_n hC dX8_either_102 (by rfl) ?_
        refine o_callV1 hC rl_BW_good rl_Ns_nw (by exact hB.2.2.2.2.2) YX8_settle IX8_settle VX8_settle (mX8_99 hC) (by rw [hB.1]; exact cm_X8_settle l D ids H0 _ _ m T _ _ c hq1.rf (by omega)) (by exact hq1.1) rfl rfl (Nat.le_of_ble_eq_true rfl) (by rw [hB.2.1]; first | exact Nat.le_of_ble_eq_true rfl | (dsimp only; omega)) (by rw [hB.2.1]; first | exact Nat.le_of_ble_eq_true rfl | (dsimp only; omega)) (by rw [hB.2.1]; first | exact Nat.le_of_ble_eq_true rfl | (dsimp only; omega)) (by rw [hB.2.1]; first | exact Nat.le_of_ble_eq_true rfl | (dsimp only; omega)) dX8_either_103 (fun v h_103 n_103 p_103 => ?_)
        obtain ⟨rfl, rfl, fs, q9⟩ := p_103
        try dsimp only [Option.toList, List.cons_append, List.nil_append]
        refine o_vret hC hB dX8_either_106 (Nat.le_of_ble_eq_true rfl) (Nat.le_of_ble_eq_true rfl) ?_
        exact ⟨rfl, rfl, _, _, hq1.tr q9⟩
      · refine o_aload_n hC dX8_either_67 (by rfl) ?_
        refine o_aload_n hC dX8_either_68 (by rfl) ?_
        refine o_getf hC (fX8_56 hC rfl) dX8_either_69 (by repeat (first | with_reducible assumption | (rw [rl_u_s]; done) | (rw [rl_u_s]; rfl) | rw [rl_u_n (by first | with_reducible assumption | omega)])) (by first | rfl | with_reducible assumption) ?_
        refine o_bipush (v := nI 12) hC dX8_either_72 (by decide +kernel) ?_
        refine o_iload_n hC dX8_either_74 (by rfl) ?_
        refine o_imul hC dX8_either_75 ?_
        try rw [nI_mul]
        refine o_iload hC dX8_either_76 (by rfl) ?_
        refine o_iadd hC dX8_either_78 ?_
        try rw [nI_add]
        refine o_laldN (t0 := 1) hC rfl dX8_either_79 (by repeat (first | with_reducible assumption | (rw [rl_u_s]; done) | (rw [rl_u_s]; rfl) | rw [rl_u_n (by first | with_reducible assumption | omega)])) (by omega) (by decide) ?_
        refine o_aload_n hC dX8_either_80 (by rfl) ?_
        refine o_getf hC (fX8_60 hC rfl) dX8_either_81 (by repeat (first | with_reducible assumption | (rw [rl_u_s]; done) | (rw [rl_u_s]; rfl) | rw [rl_u_n (by first | with_reducible assumption | omega)])) (by first | rfl | with_reducible assumption) ?_
        refine o_bipush (v := nI 12) hC dX8_either_84 (by decide +kernel) ?_
        refine o_iload_n hC dX8_either_86 (by rfl) ?_
        refine o_imul hC dX8_either_87 ?_
        try rw [nI_mul]
        refine o_iload hC dX8_either_88 (by rfl) ?_
        refine o_iadd hC dX8_either_90 ?_
        try rw [nI_add]
        refine o_laldN (t0 := 1) hC rfl dX8_either_91 (by repeat (first | with_reducible assumption | (rw [rl_u_s]; done) | (rw [rl_u_s]; rfl) | rw [rl_u_n (by first | with_reducible assumption | omega)])) (by omega) (by decide) ?_
        refine o_callV2 hC rl_BW_good rl_Ns_nw (by exact hB.2.2.2.2.2) YX8_heapTerm IX8_heapTerm VX8_heapTerm (mX8_95 hC) (by rw [hB.1]; exact cm_X8_heapTerm l D ids H0 _ _ m T _ _ _ _ hq1.rf (by omega)) (by exact hq1.1) rfl rfl (Nat.le_of_ble_eq_true rfl) (by rw [hB.2.1]; first | exact Nat.le_of_ble_eq_true rfl | (dsimp only; omega)) (by rw [hB.2.1]; first | exact Nat.le_of_ble_eq_true rfl | (dsimp only; omega)) (by rw [hB.2.1]; first | exact Nat.le_of_ble_eq_true rfl | (dsimp only; omega)) (by rw [hB.2.1]; first | exact Nat.le_of_ble_eq_true rfl | (dsimp only; omega)) dX8_either_92 (fun v h_92 n_92 p_92 => ?_)
        obtain ⟨rfl, rfl, q1⟩ := p_92
        try dsimp only [Option.toList, List.cons_append, List.nil_append]
        refine o_iinc hC dX8_either_95 (by rfl) (rl_inc _) (Nat.le_of_ble_eq_true rfl) ?_
        refine o_goto (tgt := 56) hC dX8_either_98 (by decide) ?_
        exact ih (i + 1) j _ (by omega) hj (hq1.tr q1)
  have loop1 : ∀ (mm i : Nat) (h1 : rl_H), i + mm = 12 → mq ids h h1 m T fu i → rl_G X (rl_e D ids H0) 8 [some (.ref m), some (.int (nI c)), some (.int (nI a)), some (.int (nI b)), some (.int (nI i))] [] h1 n 0 0 := by
    intro mm
    induction mm with
    | zero =>
      intro i h1 hm hq1
      obtain ⟨g0, gk, ⟨⟨cl, g12⟩, ⟨tu, g13, b13⟩, ⟨im, g14⟩, ⟨te, g15, b15⟩, ⟨ne, g16⟩, ⟨la, g17⟩, ⟨hn, g18⟩, ⟨hl, g19⟩, ⟨tp, g20⟩, ⟨gr, g21, b21⟩, ⟨it, g22⟩⟩, gf⟩ := id hq1
      refine o_iload hC dX8_either_8 (by rfl) ?_
      refine o_aload_n hC dX8_either_10 (by rfl) ?_
      refine o_getf hC (fX8_53 hC rfl) dX8_either_11 (by repeat (first | with_reducible assumption | (rw [rl_u_s]; done) | (rw [rl_u_s]; rfl) | rw [rl_u_n (by first | with_reducible assumption | omega)])) (by first | rfl | with_reducible assumption) ?_
      refine o_iload_n hC dX8_either_14 (by rfl) ?_
      obtain ⟨t15, ht15, et15⟩ := b15 a (by omega)
      refine o_ialdN (t0 := 0) (k := a) hC rfl dX8_either_15 (by repeat (first | with_reducible assumption | (rw [rl_u_s]; done) | (rw [rl_u_s]; rfl) | rw [rl_u_n (by first | with_reducible assumption | omega)])) (by omega) (by decide) ?_
      rw [et15]
      refine o_icmp_ge (tgt := 53) hC dX8_either_16 (by decide) (fun c_16 => ?_) (fun c_16 => ?_)
      · refine o_iconst (v := nI 0) hC dX8_either_53 (by decide +kernel) ?_
        refine o_istore hC dX8_either_54 (Nat.le_of_ble_eq_true rfl) ?_
        exact loop2 12 0 i _ (by omega) (by omega) hq1
      · exact absurd (nI_le (by omega) (by omega)) c_16
    | succ mm ih =>
      intro i h1 hm hq1
      obtain ⟨g0, gk, ⟨⟨cl, g12⟩, ⟨tu, g13, b13⟩, ⟨im, g14⟩, ⟨te, g15, b15⟩, ⟨ne, g16⟩, ⟨la, g17⟩, ⟨hn, g18⟩, ⟨hl, g19⟩, ⟨tp, g20⟩, ⟨gr, g21, b21⟩, ⟨it, g22⟩⟩, gf⟩ := id hq1
      refine o_iload hC dX8_either_8 (by rfl) ?_
      refine o_aload_n hC dX8_either_10 (by rfl) ?_
      refine o_getf hC (fX8_53 hC rfl) dX8_either_11 (by repeat (first | with_reducible assumption | (rw [rl_u_s]; done) | (rw [rl_u_s]; rfl) | rw [rl_u_n (by first | with_reducible assumption | omega)])) (by first | rfl | with_reducible assumption) ?_
      refine o_iload_n hC dX8_either_14 (by rfl) ?_
      obtain ⟨t15, ht15, et15⟩ := b15 a (by omega)
      refine o_ialdN (t0 := 0) (k := a) hC rfl dX8_either_15 (by repeat (first | with_reducible assumption | (rw [rl_u_s]; done) | (rw [rl_u_s]; rfl) | rw [rl_u_n (by first | with_reducible assumption | omega)])) (by omega) (by decide) ?_
      rw [et15]
      refine o_icmp_ge (tgt := 53) hC dX8_either_16 (by decide) (fun c_16 => ?_) (fun c_16 => ?_)
      · refine o_iconst (v := nI 0) hC dX8_either_53 (by decide +kernel) ?_
        refine o_istore hC dX8_either_54 (Nat.le_of_ble_eq_true rfl) ?_
        exact loop2 12 0 i _ (by omega) (by omega) hq1
      · refine o_aload_n hC dX8_either_19 (by rfl) ?_
        refine o_aload_n hC dX8_either_20 (by rfl) ?_
        refine o_getf hC (fX8_56 hC rfl) dX8_either_21 (by repeat (first | with_reducible assumption | (rw [rl_u_s]; done) | (rw [rl_u_s]; rfl) | rw [rl_u_n (by first | with_reducible assumption | omega)])) (by first | rfl | with_reducible assumption) ?_
        refine o_bipush (v := nI 12) hC dX8_either_24 (by decide +kernel) ?_
        refine o_iload_n hC dX8_either_26 (by rfl) ?_
        refine o_imul hC dX8_either_27 ?_
        try rw [nI_mul]
        refine o_iload hC dX8_either_28 (by rfl) ?_
        refine o_iadd hC dX8_either_30 ?_
        try rw [nI_add]
        refine o_laldN (t0 := 1) hC rfl dX8_either_31 (by repeat (first | with_reducible assumption | (rw [rl_u_s]; done) | (rw [rl_u_s]; rfl) | rw [rl_u_n (by first | with_reducible assumption | omega)])) (by omega) (by decide) ?_
        refine o_aload_n hC dX8_either_32 (by rfl) ?_
        refine o_getf hC (fX8_60 hC rfl) dX8_either_33 (by repeat (first | with_reducible assumption | (rw [rl_u_s]; done) | (rw [rl_u_s]; rfl) | rw [rl_u_n (by first | with_reducible assumption | omega)])) (by first | rfl | with_reducible assumption) ?_
        refine o_bipush (v := nI 12) hC dX8_either_36 (by decide +kernel) ?_
        refine o_iload_n hC dX8_either_38 (by rfl) ?_
        refine o_imul hC dX8_either_39 ?_
        try rw [nI_mul]
        refine o_iload hC dX8_either_40 (by rfl) ?_
        refine o_iadd hC dX8_either_42 ?_
        try rw [nI_add]
        refine o_laldN (t0 := 1) hC rfl dX8_either_43 (by repeat (first | with_reducible assumption | (rw [rl_u_s]; done) | (rw [rl_u_s]; rfl) | rw [rl_u_n (by first | with_reducible assumption | omega)])) (by omega) (by decide) ?_
        refine o_callV2 hC rl_BW_good rl_Ns_nw (by exact hB.2.2.2.2.2) YX8_heapTerm IX8_heapTerm VX8_heapTerm (mX8_95 hC) (by rw [hB.1]; exact cm_X8_heapTerm l D ids H0 _ _ m T _ _ _ _ hq1.rf (by omega)) (by exact hq1.1) rfl rfl (Nat.le_of_ble_eq_true rfl) (by rw [hB.2.1]; first | exact Nat.le_of_ble_eq_true rfl | (dsimp only; omega)) (by rw [hB.2.1]; first | exact Nat.le_of_ble_eq_true rfl | (dsimp only; omega)) (by rw [hB.2.1]; first | exact Nat.le_of_ble_eq_true rfl | (dsimp only; omega)) (by rw [hB.2.1]; first | exact Nat.le_of_ble_eq_true rfl | (dsimp only; omega)) dX8_either_44 (fun v h_44 n_44 p_44 => ?_)
        obtain ⟨rfl, rfl, q1⟩ := p_44
        try dsimp only [Option.toList, List.cons_append, List.nil_append]
        refine o_iinc hC dX8_either_47 (by rfl) (rl_inc _) (Nat.le_of_ble_eq_true rfl) ?_
        refine o_goto (tgt := 8) hC dX8_either_50 (by decide) ?_
        exact ih (i + 1) _ (by omega) (hq1.tr q1)
  show rl_G X (rl_e D ids H0) 0 [some (.ref m), some (.int (nI c)), some (.int (nI a)), some (.int (nI b)), none] [] h n 0 0
  refine o_aload_n hC dX8_either_0 (by rfl) ?_
  refine o_iconst (v := nI 0) hC dX8_either_1 (by decide +kernel) ?_
  refine o_putf hC (fX8_82 hC rfl) (fwX8 rfl rfl rfl (Or.inl rfl)) dX8_either_2 (by repeat (first | with_reducible assumption | (rw [rl_u_s]; done) | (rw [rl_u_s]; rfl) | rw [rl_u_n (by first | with_reducible assumption | omega)])) (Nat.le_of_ble_eq_true rfl) ?_
  try simp only [List.set_cons_zero, List.set_cons_succ]
  refine o_iconst (v := nI 0) hC dX8_either_5 (by decide +kernel) ?_
  refine o_istore hC dX8_either_6 (Nat.le_of_ble_eq_true rfl) ?_
  exact loop1 12 0 _ (by omega) (hq.ob T fu 0 (by omega))

set_option maxHeartbeats 4000000 in
set_option maxRecDepth 100000 in
theorem cm_X8_both (l : Launch) (D : va_G) (ids : Nat → ClassId) (H0 : Heap) (h : rl_H) (n : Nat) (m : Nat) (T : md_T) (fu : Int32) (k : Nat) (c a b : Nat) (hq : mq ids h h m T fu k) (hc : c < 1368) (ha : a < 1368) (hb : b < 1368) : rl_Met l (rl_e D ids H0) rl_BW rl_Ns yX8_both cX8_both 10 none ({ frames := 2, cells := 0, slots := 0, locals := 49 }) [.ref m, .int (nI c), .int (nI a), .int (nI b)] h n (fun v h' n' => v = none ∧ n' = n ∧ ∃ (fu' : Int32) (k' : Nat), mq ids h h' m T fu' k') := by
  obtain ⟨g0, gk, ⟨⟨cl, g12⟩, ⟨tu, g13, b13⟩, ⟨im, g14⟩, ⟨te, g15, b15⟩, ⟨ne, g16⟩, ⟨la, g17⟩, ⟨hn, g18⟩, ⟨hl, g19⟩, ⟨tp, g20⟩, ⟨gr, g21, b21⟩, ⟨it, g22⟩⟩, gf⟩ := id hq
  refine rl_Met.of (by decide +kernel) (Nat.le_of_ble_eq_true rfl) ?_
  intro X hC hB
  have loop1 : ∀ (mm i k1 : Nat) (h1 : rl_H) (o5 o6 o8 : Option Value), i + mm = 12 → k1 ≤ 12 * i → mq ids h h1 m T fu k1 → rl_G X (rl_e D ids H0) 8 [some (.ref m), some (.int (nI c)), some (.int (nI a)), some (.int (nI b)), some (.int (nI i)), o5, o6, none, o8, none] [] h1 n 0 0 := by
    intro mm
    induction mm with
    | zero =>
      intro i k1 h1 o5 o6 o8 hm hk1 hq1
      obtain ⟨g0, gk, ⟨⟨cl, g12⟩, ⟨tu, g13, b13⟩, ⟨im, g14⟩, ⟨te, g15, b15⟩, ⟨ne, g16⟩, ⟨la, g17⟩, ⟨hn, g18⟩, ⟨hl, g19⟩, ⟨tp, g20⟩, ⟨gr, g21, b21⟩, ⟨it, g22⟩⟩, gf⟩ := id hq1
      refine o_iload hC dX8_both_8 (by rfl) ?_
      refine o_aload_n hC dX8_both_10 (by rfl) ?_
      refine o_getf hC (fX8_53 hC rfl) dX8_both_11 (by repeat (first | with_reducible assumption | (rw [rl_u_s]; done) | (rw [rl_u_s]; rfl) | rw [rl_u_n (by first | with_reducible assumption | omega)])) (by first | rfl | with_reducible assumption) ?_
      refine o_iload_n hC dX8_both_14 (by rfl) ?_
      obtain ⟨t15, ht15, et15⟩ := b15 a (by omega)
      refine o_ialdN (t0 := 0) (k := a) hC rfl dX8_both_15 (by repeat (first | with_reducible assumption | (rw [rl_u_s]; done) | (rw [rl_u_s]; rfl) | rw [rl_u_n (by first | with_reducible assumption | omega)])) (by omega) (by decide) ?_
      rw [et15]
      refine o_icmp_ge (tgt := 117) hC dX8_both_16 (by decide) (fun c_16 => ?_) (fun c_16 => ?_)
      · refine o_aload_n hC dX8_both_117 (by rfl) ?_
        refine o_iload_n hC dX8_both_118 (by rfl) ?_
        refine o_callV1 hC rl_BW_good rl_Ns_nw (by exact hB.2.2.2.2.2) YX8_settle IX8_settle VX8_settle (mX8_99 hC) (by rw [hB.1]; exact cm_X8_settle l D ids H0 _ _ m T _ _ c hq1.rf (by omega)) (by exact hq1.1) rfl rfl (Nat.le_of_ble_eq_true rfl) (by rw [hB.2.1]; first | exact Nat.le_of_ble_eq_true rfl | (dsimp only; omega)) (by rw [hB.2.1]; first | exact Nat.le_of_ble_eq_true rfl | (dsimp only; omega)) (by rw [hB.2.1]; first | exact Nat.le_of_ble_eq_true rfl | (dsimp only; omega)) (by rw [hB.2.1]; first | exact Nat.le_of_ble_eq_true rfl | (dsimp only; omega)) dX8_both_119 (fun v h_119 n_119 p_119 => ?_)
        obtain ⟨rfl, rfl, fs, q9⟩ := p_119
        try dsimp only [Option.toList, List.cons_append, List.nil_append]
        refine o_vret hC hB dX8_both_122 (Nat.le_of_ble_eq_true rfl) (Nat.le_of_ble_eq_true rfl) ?_
        exact ⟨rfl, rfl, _, _, hq1.tr q9⟩
      · exact absurd (nI_le (by omega) (by omega)) c_16
    | succ mm ih =>
      intro i k1 h1 o5 o6 o8 hm hk1 hq1
      have loop2 : ∀ (m2 j k2 : Nat) (h2 : rl_H) (o6 o8 : Option Value), j + m2 = 12 → k2 ≤ 12 * i + j → mq ids h h2 m T fu k2 → rl_G X (rl_e D ids H0) 22 [some (.ref m), some (.int (nI c)), some (.int (nI a)), some (.int (nI b)), some (.int (nI i)), some (.int (nI j)), o6, none, o8, none] [] h2 n 0 0 := by
        intro m2
        induction m2 with
        | zero =>
          intro j k2 h2 o6 o8 hm2 hk2 hq2
          obtain ⟨g0, gk, ⟨⟨cl, g12⟩, ⟨tu, g13, b13⟩, ⟨im, g14⟩, ⟨te, g15, b15⟩, ⟨ne, g16⟩, ⟨la, g17⟩, ⟨hn, g18⟩, ⟨hl, g19⟩, ⟨tp, g20⟩, ⟨gr, g21, b21⟩, ⟨it, g22⟩⟩, gf⟩ := id hq2
          refine o_iload hC dX8_both_22 (by rfl) ?_
          refine o_aload_n hC dX8_both_24 (by rfl) ?_
          refine o_getf hC (fX8_53 hC rfl) dX8_both_25 (by repeat (first | with_reducible assumption | (rw [rl_u_s]; done) | (rw [rl_u_s]; rfl) | rw [rl_u_n (by first | with_reducible assumption | omega)])) (by first | rfl | with_reducible assumption) ?_
          refine o_iload_n hC dX8_both_28 (by rfl) ?_
          obtain ⟨t29, ht29, et29⟩ := b15 b (by omega)
          refine o_ialdN (t0 := 0) (k := b) hC rfl dX8_both_29 (by repeat (first | with_reducible assumption | (rw [rl_u_s]; done) | (rw [rl_u_s]; rfl) | rw [rl_u_n (by first | with_reducible assumption | omega)])) (by omega) (by decide) ?_
          rw [et29]
          refine o_icmp_ge (tgt := 111) hC dX8_both_30 (by decide) (fun c_30 => ?_) (fun c_30 => ?_)
          · refine o_iinc hC dX8_both_111 (by rfl) (rl_inc _) (Nat.le_of_ble_eq_true rfl) ?_
            refine o_goto (tgt := 8) hC dX8_both_114 (by decide) ?_
            exact ih (i + 1) _ _ _ _ _ (by omega) (by omega) hq2
          · exact absurd (nI_le (by omega) (by omega)) c_30
        | succ m2 ih2 =>
          intro j k2 h2 o6 o8 hm2 hk2 hq2
          obtain ⟨g0, gk, ⟨⟨cl, g12⟩, ⟨tu, g13, b13⟩, ⟨im, g14⟩, ⟨te, g15, b15⟩, ⟨ne, g16⟩, ⟨la, g17⟩, ⟨hn, g18⟩, ⟨hl, g19⟩, ⟨tp, g20⟩, ⟨gr, g21, b21⟩, ⟨it, g22⟩⟩, gf⟩ := id hq2
          refine o_iload hC dX8_both_22 (by rfl) ?_
          refine o_aload_n hC dX8_both_24 (by rfl) ?_
          refine o_getf hC (fX8_53 hC rfl) dX8_both_25 (by repeat (first | with_reducible assumption | (rw [rl_u_s]; done) | (rw [rl_u_s]; rfl) | rw [rl_u_n (by first | with_reducible assumption | omega)])) (by first | rfl | with_reducible assumption) ?_
          refine o_iload_n hC dX8_both_28 (by rfl) ?_
          obtain ⟨t29, ht29, et29⟩ := b15 b (by omega)
          refine o_ialdN (t0 := 0) (k := b) hC rfl dX8_both_29 (by repeat (first | with_reducible assumption | (rw [rl_u_s]; done) | (rw [rl_u_s]; rfl) | rw [rl_u_n (by first | with_reducible assumption | omega)])) (by omega) (by decide) ?_
          rw [et29]
          refine o_icmp_ge (tgt := 111) hC dX8_both_30 (by decide) (fun c_30 => ?_) (fun c_30 => ?_)
          · refine o_iinc hC dX8_both_111 (by rfl) (rl_inc _) (Nat.le_of_ble_eq_true rfl) ?_
            refine o_goto (tgt := 8) hC dX8_both_114 (by decide) ?_
            exact ih (i + 1) _ _ _ _ _ (by omega) (by omega) hq2
          · refine o_aload_n hC dX8_both_33 (by rfl) ?_
            refine o_getf hC (fX8_56 hC rfl) dX8_both_34 (by repeat (first | with_reducible assumption | (rw [rl_u_s]; done) | (rw [rl_u_s]; rfl) | rw [rl_u_n (by first | with_reducible assumption | omega)])) (by first | rfl | with_reducible assumption) ?_
            refine o_bipush (v := nI 12) hC dX8_both_37 (by decide +kernel) ?_
            refine o_iload_n hC dX8_both_39 (by rfl) ?_
            refine o_imul hC dX8_both_40 ?_
            try rw [nI_mul]
            refine o_iload hC dX8_both_41 (by rfl) ?_
            refine o_iadd hC dX8_both_43 ?_
            try rw [nI_add]
            refine o_laldN (t0 := 1) hC rfl dX8_both_44 (by repeat (first | with_reducible assumption | (rw [rl_u_s]; done) | (rw [rl_u_s]; rfl) | rw [rl_u_n (by first | with_reducible assumption | omega)])) (by omega) (by decide) ?_
            refine o_aload_n hC dX8_both_45 (by rfl) ?_
            refine o_getf hC (fX8_56 hC rfl) dX8_both_46 (by repeat (first | with_reducible assumption | (rw [rl_u_s]; done) | (rw [rl_u_s]; rfl) | rw [rl_u_n (by first | with_reducible assumption | omega)])) (by first | rfl | with_reducible assumption) ?_
            refine o_bipush (v := nI 12) hC dX8_both_49 (by decide +kernel) ?_
            refine o_iload_n hC dX8_both_51 (by rfl) ?_
            refine o_imul hC dX8_both_52 ?_
            try rw [nI_mul]
            refine o_iload hC dX8_both_53 (by rfl) ?_
            refine o_iadd hC dX8_both_55 ?_
            try rw [nI_add]
            refine o_laldN (t0 := 1) hC rfl dX8_both_56 (by repeat (first | with_reducible assumption | (rw [rl_u_s]; done) | (rw [rl_u_s]; rfl) | rw [rl_u_n (by first | with_reducible assumption | omega)])) (by omega) (by decide) ?_
            refine o_lor hC dX8_both_57 ?_
            refine o_lstore hC dX8_both_58 (Nat.le_of_ble_eq_true rfl) ?_
            refine o_aload_n hC dX8_both_60 (by rfl) ?_
            refine o_getf hC (fX8_60 hC rfl) dX8_both_61 (by repeat (first | with_reducible assumption | (rw [rl_u_s]; done) | (rw [rl_u_s]; rfl) | rw [rl_u_n (by first | with_reducible assumption | omega)])) (by first | rfl | with_reducible assumption) ?_
            refine o_bipush (v := nI 12) hC dX8_both_64 (by decide +kernel) ?_
            refine o_iload_n hC dX8_both_66 (by rfl) ?_
            refine o_imul hC dX8_both_67 ?_
            try rw [nI_mul]
            refine o_iload hC dX8_both_68 (by rfl) ?_
            refine o_iadd hC dX8_both_70 ?_
            try rw [nI_add]
            refine o_laldN (t0 := 1) hC rfl dX8_both_71 (by repeat (first | with_reducible assumption | (rw [rl_u_s]; done) | (rw [rl_u_s]; rfl) | rw [rl_u_n (by first | with_reducible assumption | omega)])) (by omega) (by decide) ?_
            refine o_aload_n hC dX8_both_72 (by rfl) ?_
            refine o_getf hC (fX8_60 hC rfl) dX8_both_73 (by repeat (first | with_reducible assumption | (rw [rl_u_s]; done) | (rw [rl_u_s]; rfl) | rw [rl_u_n (by first | with_reducible assumption | omega)])) (by first | rfl | with_reducible assumption) ?_
            refine o_bipush (v := nI 12) hC dX8_both_76 (by decide +kernel) ?_
            refine o_iload_n hC dX8_both_78 (by rfl) ?_
            refine o_imul hC dX8_both_79 ?_
            try rw [nI_mul]
            refine o_iload hC dX8_both_80 (by rfl) ?_
            refine o_iadd hC dX8_both_82 ?_
            try rw [nI_add]
            refine o_laldN (t0 := 1) hC rfl dX8_both_83 (by repeat (first | with_reducible assumption | (rw [rl_u_s]; done) | (rw [rl_u_s]; rfl) | rw [rl_u_n (by first | with_reducible assumption | omega)])) (by omega) (by decide) ?_
            refine o_lor hC dX8_both_84 ?_
            refine o_lstore hC dX8_both_85 (Nat.le_of_ble_eq_true rfl) ?_
            refine o_lload hC dX8_both_87 (by rfl) ?_
            refine o_lload hC dX8_both_89 (by rfl) ?_
            refine o_land hC dX8_both_91 ?_
            refine o_lconst (v := 0) hC dX8_both_92 (by decide +kernel) ?_
            refine o_lcmp hC dX8_both_93 ?_
            refine o_if_ne (tgt := 105) hC dX8_both_94 (by decide) (fun c_94 => ?_) (fun c_94 => ?_)
            · refine o_iinc hC dX8_both_105 (by rfl) (rl_inc _) (Nat.le_of_ble_eq_true rfl) ?_
              refine o_goto (tgt := 22) hC dX8_both_108 (by decide) ?_
              first
              | exact ih2 (j + 1) _ _ _ _ (by omega) (by omega) hq2
              | exact ih2 (j + 1) _ _ _ _ (by omega) (by omega) (hq2.tr q1)
            · refine o_aload_n hC dX8_both_97 (by rfl) ?_
              refine o_lload hC dX8_both_98 (by rfl) ?_
              refine o_lload hC dX8_both_100 (by rfl) ?_
              refine o_callV2 hC rl_BW_good rl_Ns_nw (by exact hB.2.2.2.2.2) YX8_heapTerm IX8_heapTerm VX8_heapTerm (mX8_95 hC) (by rw [hB.1]; exact cm_X8_heapTerm l D ids H0 _ _ m T _ _ _ _ hq2.rf (by omega)) (by exact hq2.1) rfl rfl (Nat.le_of_ble_eq_true rfl) (by rw [hB.2.1]; first | exact Nat.le_of_ble_eq_true rfl | (dsimp only; omega)) (by rw [hB.2.1]; first | exact Nat.le_of_ble_eq_true rfl | (dsimp only; omega)) (by rw [hB.2.1]; first | exact Nat.le_of_ble_eq_true rfl | (dsimp only; omega)) (by rw [hB.2.1]; first | exact Nat.le_of_ble_eq_true rfl | (dsimp only; omega)) dX8_both_102 (fun v h_102 n_102 p_102 => ?_)
              obtain ⟨rfl, rfl, q1⟩ := p_102
              try dsimp only [Option.toList, List.cons_append, List.nil_append]
              refine o_iinc hC dX8_both_105 (by rfl) (rl_inc _) (Nat.le_of_ble_eq_true rfl) ?_
              refine o_goto (tgt := 22) hC dX8_both_108 (by decide) ?_
              first
              | exact ih2 (j + 1) _ _ _ _ (by omega) (by omega) hq2
              | exact ih2 (j + 1) _ _ _ _ (by omega) (by omega) (hq2.tr q1)
      obtain ⟨g0, gk, ⟨⟨cl, g12⟩, ⟨tu, g13, b13⟩, ⟨im, g14⟩, ⟨te, g15, b15⟩, ⟨ne, g16⟩, ⟨la, g17⟩, ⟨hn, g18⟩, ⟨hl, g19⟩, ⟨tp, g20⟩, ⟨gr, g21, b21⟩, ⟨it, g22⟩⟩, gf⟩ := id hq1
      refine o_iload hC dX8_both_8 (by rfl) ?_
      refine o_aload_n hC dX8_both_10 (by rfl) ?_
      refine o_getf hC (fX8_53 hC rfl) dX8_both_11 (by repeat (first | with_reducible assumption | (rw [rl_u_s]; done) | (rw [rl_u_s]; rfl) | rw [rl_u_n (by first | with_reducible assumption | omega)])) (by first | rfl | with_reducible assumption) ?_
      refine o_iload_n hC dX8_both_14 (by rfl) ?_
      obtain ⟨t15, ht15, et15⟩ := b15 a (by omega)
      refine o_ialdN (t0 := 0) (k := a) hC rfl dX8_both_15 (by repeat (first | with_reducible assumption | (rw [rl_u_s]; done) | (rw [rl_u_s]; rfl) | rw [rl_u_n (by first | with_reducible assumption | omega)])) (by omega) (by decide) ?_
      rw [et15]
      refine o_icmp_ge (tgt := 117) hC dX8_both_16 (by decide) (fun c_16 => ?_) (fun c_16 => ?_)
      · refine o_aload_n hC dX8_both_117 (by rfl) ?_
        refine o_iload_n hC dX8_both_118 (by rfl) ?_
        refine o_callV1 hC rl_BW_good rl_Ns_nw (by exact hB.2.2.2.2.2) YX8_settle IX8_settle VX8_settle (mX8_99 hC) (by rw [hB.1]; exact cm_X8_settle l D ids H0 _ _ m T _ _ c hq1.rf (by omega)) (by exact hq1.1) rfl rfl (Nat.le_of_ble_eq_true rfl) (by rw [hB.2.1]; first | exact Nat.le_of_ble_eq_true rfl | (dsimp only; omega)) (by rw [hB.2.1]; first | exact Nat.le_of_ble_eq_true rfl | (dsimp only; omega)) (by rw [hB.2.1]; first | exact Nat.le_of_ble_eq_true rfl | (dsimp only; omega)) (by rw [hB.2.1]; first | exact Nat.le_of_ble_eq_true rfl | (dsimp only; omega)) dX8_both_119 (fun v h_119 n_119 p_119 => ?_)
        obtain ⟨rfl, rfl, fs, q9⟩ := p_119
        try dsimp only [Option.toList, List.cons_append, List.nil_append]
        refine o_vret hC hB dX8_both_122 (Nat.le_of_ble_eq_true rfl) (Nat.le_of_ble_eq_true rfl) ?_
        exact ⟨rfl, rfl, _, _, hq1.tr q9⟩
      · refine o_iconst (v := nI 0) hC dX8_both_19 (by decide +kernel) ?_
        refine o_istore hC dX8_both_20 (Nat.le_of_ble_eq_true rfl) ?_
        exact loop2 12 0 _ _ _ _ (by omega) (by omega) hq1
  show rl_G X (rl_e D ids H0) 0 [some (.ref m), some (.int (nI c)), some (.int (nI a)), some (.int (nI b)), none, none, none, none, none, none] [] h n 0 0
  refine o_aload_n hC dX8_both_0 (by rfl) ?_
  refine o_iconst (v := nI 0) hC dX8_both_1 (by decide +kernel) ?_
  refine o_putf hC (fX8_82 hC rfl) (fwX8 rfl rfl rfl (Or.inl rfl)) dX8_both_2 (by repeat (first | with_reducible assumption | (rw [rl_u_s]; done) | (rw [rl_u_s]; rfl) | rw [rl_u_n (by first | with_reducible assumption | omega)])) (Nat.le_of_ble_eq_true rfl) ?_
  try simp only [List.set_cons_zero, List.set_cons_succ]
  refine o_iconst (v := nI 0) hC dX8_both_5 (by decide +kernel) ?_
  refine o_istore hC dX8_both_6 (Nat.le_of_ble_eq_true rfl) ?_
  exact loop1 12 0 0 _ _ _ _ (by omega) (by omega) (hq.ob T fu 0 (by omega))

set_option maxHeartbeats 4000000 in
set_option maxRecDepth 100000 in
theorem cm_X8_turn (l : Launch) (D : va_G) (ids : Nat → ClassId) (H0 : Heap) (h : rl_H) (n : Nat) (m : Nat) (T : md_T) (fu : Int32) (k : Nat) (a b : Int64) (hq : mq ids h h m T fu k)  : rl_Met l (rl_e D ids H0) rl_BW rl_Ns yX8_turn cX8_turn 7 none ({ frames := 1, cells := 0, slots := 0, locals := 24 }) [.ref m, .long a, .long b] h n (fun v h' n' => v = none ∧ n' = n ∧ ∃ (fu' : Int32) (k' : Nat), mq ids h h' m T fu' k') := by
  obtain ⟨g0, gk, ⟨⟨cl, g12⟩, ⟨tu, g13, b13⟩, ⟨im, g14⟩, ⟨te, g15, b15⟩, ⟨ne, g16⟩, ⟨la, g17⟩, ⟨hn, g18⟩, ⟨hl, g19⟩, ⟨tp, g20⟩, ⟨gr, g21, b21⟩, ⟨it, g22⟩⟩, gf⟩ := id hq
  refine rl_Met.of (by decide +kernel) (Nat.le_of_ble_eq_true rfl) ?_
  intro X hC hB
  have loop2 : ∀ (mm i lf : Nat) (h1 : rl_H), i + mm = k → lf ≤ i → mq ids h h1 m T fu k → rl_G X (rl_e D ids H0) 70 [some (.ref m), some (.long a), none, some (.long b), none, some (.int (nI lf)), some (.int (nI i))] [] h1 n 0 0 := by
    intro mm
    induction mm with
    | zero =>
      intro i lf h1 hm hl1 hq1
      obtain ⟨g0, gk, ⟨⟨cl, g12⟩, ⟨tu, g13, b13⟩, ⟨im, g14⟩, ⟨te, g15, b15⟩, ⟨ne, g16⟩, ⟨la, g17⟩, ⟨hn, g18⟩, ⟨hl, g19⟩, ⟨tp, g20⟩, ⟨gr, g21, b21⟩, ⟨it, g22⟩⟩, gf⟩ := id hq1
      refine o_iload hC dX8_turn_70 (by rfl) ?_
      refine o_aload_n hC dX8_turn_72 (by rfl) ?_
      refine o_getf hC (fX8_82 hC rfl) dX8_turn_73 (by repeat (first | with_reducible assumption | (rw [rl_u_s]; done) | (rw [rl_u_s]; rfl) | rw [rl_u_n (by first | with_reducible assumption | omega)])) (by first | rfl | with_reducible assumption) ?_
      refine o_icmp_ge (tgt := 152) hC dX8_turn_76 (by decide) (fun c_76 => ?_) (fun c_76 => ?_)
      · refine o_aload_n hC dX8_turn_152 (by rfl) ?_
        refine o_iload hC dX8_turn_153 (by rfl) ?_
        refine o_putf hC (fX8_82 hC rfl) (fwX8 rfl rfl rfl (Or.inl rfl)) dX8_turn_155 (by repeat (first | with_reducible assumption | (rw [rl_u_s]; done) | (rw [rl_u_s]; rfl) | rw [rl_u_n (by first | with_reducible assumption | omega)])) (Nat.le_of_ble_eq_true rfl) ?_
        try simp only [List.set_cons_zero, List.set_cons_succ]
        refine o_aload_n hC dX8_turn_158 (by rfl) ?_
        refine o_getf hC (fX8_82 hC rfl) dX8_turn_159 (by repeat (first | with_reducible assumption | (rw [rl_u_s]; done) | (rw [rl_u_s]; rfl) | rw [rl_u_n (by first | with_reducible assumption | omega)])) (by first | rfl | with_reducible assumption) ?_
        refine o_sipush (v := nI 160) hC dX8_turn_162 (by decide +kernel) ?_
        refine o_icmp_ne (tgt := 178) hC dX8_turn_165 (by decide) (fun c_165 => ?_) (fun c_165 => ?_)
        · have l160 : lf ≠ 160 := fun e => c_165 (by rw [e])
          have hq3 := hq1.ob T fu lf (by omega)
          refine o_aload_n hC dX8_turn_178 (by rfl) ?_
          refine o_lload_n hC dX8_turn_179 (by rfl) ?_
          refine o_lload_n hC dX8_turn_180 (by rfl) ?_
          refine o_callV2 hC rl_BW_good rl_Ns_nw (by exact hB.2.2.2.2.2) YX8_heapTerm IX8_heapTerm VX8_heapTerm (mX8_95 hC) (by rw [hB.1]; exact cm_X8_heapTerm l D ids H0 _ _ m T _ _ _ _ hq3.rf (by omega)) (by exact hq3.1) rfl rfl (Nat.le_of_ble_eq_true rfl) (by rw [hB.2.1]; first | exact Nat.le_of_ble_eq_true rfl | (dsimp only; omega)) (by rw [hB.2.1]; first | exact Nat.le_of_ble_eq_true rfl | (dsimp only; omega)) (by rw [hB.2.1]; first | exact Nat.le_of_ble_eq_true rfl | (dsimp only; omega)) (by rw [hB.2.1]; first | exact Nat.le_of_ble_eq_true rfl | (dsimp only; omega)) dX8_turn_181 (fun v h_181 n_181 p_181 => ?_)
          obtain ⟨rfl, rfl, q1⟩ := p_181
          try dsimp only [Option.toList, List.cons_append, List.nil_append]
          refine o_vret hC hB dX8_turn_184 (Nat.le_of_ble_eq_true rfl) (Nat.le_of_ble_eq_true rfl) ?_
          exact ⟨rfl, rfl, _, _, hq3.tr q1⟩
        · have hq2 := hq1.ob T fu lf (by omega)
          refine o_aload_n hC dX8_turn_168 (by rfl) ?_
          refine o_iconst (v := nI 1) hC dX8_turn_169 (by decide +kernel) ?_
          refine o_putf hC (fX8_91 hC rfl) (fwX8 rfl rfl rfl (Or.inl rfl)) dX8_turn_170 (by repeat (first | with_reducible assumption | (rw [rl_u_s]; done) | (rw [rl_u_s]; rfl) | rw [rl_u_n (by first | with_reducible assumption | omega)])) (Nat.le_of_ble_eq_true rfl) ?_
          try simp only [List.set_cons_zero, List.set_cons_succ]
          refine o_aload_n hC dX8_turn_173 (by rfl) ?_
          refine o_iconst (v := nI 0) hC dX8_turn_174 (by decide +kernel) ?_
          refine o_putf hC (fX8_82 hC rfl) (fwX8 rfl rfl rfl (Or.inl rfl)) dX8_turn_175 (by repeat (first | with_reducible assumption | (rw [rl_u_s]; done) | (rw [rl_u_s]; rfl) | rw [rl_u_n (by first | with_reducible assumption | omega)])) (Nat.le_of_ble_eq_true rfl) ?_
          try simp only [List.set_cons_zero, List.set_cons_succ]
          have hq3 := (hq2.ob T (nI 1) lf (by omega)).ob T (nI 1) 0 (by omega)
          refine o_aload_n hC dX8_turn_178 (by rfl) ?_
          refine o_lload_n hC dX8_turn_179 (by rfl) ?_
          refine o_lload_n hC dX8_turn_180 (by rfl) ?_
          refine o_callV2 hC rl_BW_good rl_Ns_nw (by exact hB.2.2.2.2.2) YX8_heapTerm IX8_heapTerm VX8_heapTerm (mX8_95 hC) (by rw [hB.1]; exact cm_X8_heapTerm l D ids H0 _ _ m T _ _ _ _ hq3.rf (by omega)) (by exact hq3.1) rfl rfl (Nat.le_of_ble_eq_true rfl) (by rw [hB.2.1]; first | exact Nat.le_of_ble_eq_true rfl | (dsimp only; omega)) (by rw [hB.2.1]; first | exact Nat.le_of_ble_eq_true rfl | (dsimp only; omega)) (by rw [hB.2.1]; first | exact Nat.le_of_ble_eq_true rfl | (dsimp only; omega)) (by rw [hB.2.1]; first | exact Nat.le_of_ble_eq_true rfl | (dsimp only; omega)) dX8_turn_181 (fun v h_181 n_181 p_181 => ?_)
          obtain ⟨rfl, rfl, q1⟩ := p_181
          try dsimp only [Option.toList, List.cons_append, List.nil_append]
          refine o_vret hC hB dX8_turn_184 (Nat.le_of_ble_eq_true rfl) (Nat.le_of_ble_eq_true rfl) ?_
          exact ⟨rfl, rfl, _, _, hq3.tr q1⟩
      · exact absurd (nI_le (by omega) (by omega)) c_76
    | succ mm ih =>
      intro i lf h1 hm hl1 hq1
      obtain ⟨g0, gk, ⟨⟨cl, g12⟩, ⟨tu, g13, b13⟩, ⟨im, g14⟩, ⟨te, g15, b15⟩, ⟨ne, g16⟩, ⟨la, g17⟩, ⟨hn, g18⟩, ⟨hl, g19⟩, ⟨tp, g20⟩, ⟨gr, g21, b21⟩, ⟨it, g22⟩⟩, gf⟩ := id hq1
      refine o_iload hC dX8_turn_70 (by rfl) ?_
      refine o_aload_n hC dX8_turn_72 (by rfl) ?_
      refine o_getf hC (fX8_82 hC rfl) dX8_turn_73 (by repeat (first | with_reducible assumption | (rw [rl_u_s]; done) | (rw [rl_u_s]; rfl) | rw [rl_u_n (by first | with_reducible assumption | omega)])) (by first | rfl | with_reducible assumption) ?_
      refine o_icmp_ge (tgt := 152) hC dX8_turn_76 (by decide) (fun c_76 => ?_) (fun c_76 => ?_)
      · exact absurd c_76 (nI_ge (by omega) (by omega))
      · refine o_lload_n hC dX8_turn_79 (by rfl) ?_
        refine o_aload_n hC dX8_turn_80 (by rfl) ?_
        refine o_getf hC (fX8_63 hC rfl) dX8_turn_81 (by repeat (first | with_reducible assumption | (rw [rl_u_s]; done) | (rw [rl_u_s]; rfl) | rw [rl_u_n (by first | with_reducible assumption | omega)])) (by first | rfl | with_reducible assumption) ?_
        refine o_iload hC dX8_turn_84 (by rfl) ?_
        refine o_laldN (t0 := 1) hC rfl dX8_turn_86 (by repeat (first | with_reducible assumption | (rw [rl_u_s]; done) | (rw [rl_u_s]; rfl) | rw [rl_u_n (by first | with_reducible assumption | omega)])) (by omega) (by decide) ?_
        refine o_ldc2 hC nX8_85 dX8_turn_87 ?_
        refine o_lxor hC dX8_turn_90 ?_
        refine o_land hC dX8_turn_91 ?_
        refine o_lconst (v := 0) hC dX8_turn_92 (by decide +kernel) ?_
        refine o_lcmp hC dX8_turn_93 ?_
        refine o_if_ne (tgt := 115) hC dX8_turn_94 (by decide) (fun c_94 => ?_) (fun c_94 => ?_)
        · refine o_aload_n hC dX8_turn_115 (by rfl) ?_
          refine o_getf hC (fX8_63 hC rfl) dX8_turn_116 (by repeat (first | with_reducible assumption | (rw [rl_u_s]; done) | (rw [rl_u_s]; rfl) | rw [rl_u_n (by first | with_reducible assumption | omega)])) (by first | rfl | with_reducible assumption) ?_
          refine o_iload hC dX8_turn_119 (by rfl) ?_
          refine o_aload_n hC dX8_turn_121 (by rfl) ?_
          refine o_getf hC (fX8_63 hC rfl) dX8_turn_122 (by repeat (first | with_reducible assumption | (rw [rl_u_s]; done) | (rw [rl_u_s]; rfl) | rw [rl_u_n (by first | with_reducible assumption | omega)])) (by first | rfl | with_reducible assumption) ?_
          refine o_iload hC dX8_turn_125 (by rfl) ?_
          refine o_laldN (t0 := 1) hC rfl dX8_turn_127 (by repeat (first | with_reducible assumption | (rw [rl_u_s]; done) | (rw [rl_u_s]; rfl) | rw [rl_u_n (by first | with_reducible assumption | omega)])) (by omega) (by decide) ?_
          refine o_lastN (t0 := 1) hC rfl dX8_turn_128 (by repeat (first | with_reducible assumption | (rw [rl_u_s]; done) | (rw [rl_u_s]; rfl) | rw [rl_u_n (by first | with_reducible assumption | omega)])) (by omega) (by decide) ?_
          refine o_aload_n hC dX8_turn_129 (by rfl) ?_
          refine o_getf hC (fX8_66 hC rfl) dX8_turn_130 (by repeat (first | with_reducible assumption | (rw [rl_u_s]; done) | (rw [rl_u_s]; rfl) | rw [rl_u_n (by first | with_reducible assumption | omega)])) (by first | rfl | with_reducible assumption) ?_
          refine o_iload hC dX8_turn_133 (by rfl) ?_
          refine o_aload_n hC dX8_turn_135 (by rfl) ?_
          refine o_getf hC (fX8_66 hC rfl) dX8_turn_136 (by repeat (first | with_reducible assumption | (rw [rl_u_s]; done) | (rw [rl_u_s]; rfl) | rw [rl_u_n (by first | with_reducible assumption | omega)])) (by first | rfl | with_reducible assumption) ?_
          refine o_iload hC dX8_turn_139 (by rfl) ?_
          refine o_laldN (t0 := 1) hC rfl dX8_turn_141 (by repeat (first | with_reducible assumption | (rw [rl_u_s]; done) | (rw [rl_u_s]; rfl) | rw [rl_u_n (by first | with_reducible assumption | omega)])) (by omega) (by decide) ?_
          refine o_lastN (t0 := 1) hC rfl dX8_turn_142 (by repeat (first | with_reducible assumption | (rw [rl_u_s]; done) | (rw [rl_u_s]; rfl) | rw [rl_u_n (by first | with_reducible assumption | omega)])) (by omega) (by decide) ?_
          refine o_iinc hC dX8_turn_143 (by rfl) (rl_inc _) (Nat.le_of_ble_eq_true rfl) ?_
          refine o_iinc hC dX8_turn_146 (by rfl) (rl_inc _) (Nat.le_of_ble_eq_true rfl) ?_
          refine o_goto (tgt := 70) hC dX8_turn_149 (by decide) ?_
          first
          | exact ih (i + 1) (lf + 1) _ (by omega) (by omega) ((hq1.s18 _).s19 _)
          | exact ih (i + 1) lf _ (by omega) (by omega) hq1
        · refine o_lload_n hC dX8_turn_97 (by rfl) ?_
          refine o_aload_n hC dX8_turn_98 (by rfl) ?_
          refine o_getf hC (fX8_66 hC rfl) dX8_turn_99 (by repeat (first | with_reducible assumption | (rw [rl_u_s]; done) | (rw [rl_u_s]; rfl) | rw [rl_u_n (by first | with_reducible assumption | omega)])) (by first | rfl | with_reducible assumption) ?_
          refine o_iload hC dX8_turn_102 (by rfl) ?_
          refine o_laldN (t0 := 1) hC rfl dX8_turn_104 (by repeat (first | with_reducible assumption | (rw [rl_u_s]; done) | (rw [rl_u_s]; rfl) | rw [rl_u_n (by first | with_reducible assumption | omega)])) (by omega) (by decide) ?_
          refine o_ldc2 hC nX8_85 dX8_turn_105 ?_
          refine o_lxor hC dX8_turn_108 ?_
          refine o_land hC dX8_turn_109 ?_
          refine o_lconst (v := 0) hC dX8_turn_110 (by decide +kernel) ?_
          refine o_lcmp hC dX8_turn_111 ?_
          refine o_if_eq (tgt := 146) hC dX8_turn_112 (by decide) (fun c_112 => ?_) (fun c_112 => ?_)
          · refine o_iinc hC dX8_turn_146 (by rfl) (rl_inc _) (Nat.le_of_ble_eq_true rfl) ?_
            refine o_goto (tgt := 70) hC dX8_turn_149 (by decide) ?_
            first
            | exact ih (i + 1) (lf + 1) _ (by omega) (by omega) ((hq1.s18 _).s19 _)
            | exact ih (i + 1) lf _ (by omega) (by omega) hq1
          · refine o_aload_n hC dX8_turn_115 (by rfl) ?_
            refine o_getf hC (fX8_63 hC rfl) dX8_turn_116 (by repeat (first | with_reducible assumption | (rw [rl_u_s]; done) | (rw [rl_u_s]; rfl) | rw [rl_u_n (by first | with_reducible assumption | omega)])) (by first | rfl | with_reducible assumption) ?_
            refine o_iload hC dX8_turn_119 (by rfl) ?_
            refine o_aload_n hC dX8_turn_121 (by rfl) ?_
            refine o_getf hC (fX8_63 hC rfl) dX8_turn_122 (by repeat (first | with_reducible assumption | (rw [rl_u_s]; done) | (rw [rl_u_s]; rfl) | rw [rl_u_n (by first | with_reducible assumption | omega)])) (by first | rfl | with_reducible assumption) ?_
            refine o_iload hC dX8_turn_125 (by rfl) ?_
            refine o_laldN (t0 := 1) hC rfl dX8_turn_127 (by repeat (first | with_reducible assumption | (rw [rl_u_s]; done) | (rw [rl_u_s]; rfl) | rw [rl_u_n (by first | with_reducible assumption | omega)])) (by omega) (by decide) ?_
            refine o_lastN (t0 := 1) hC rfl dX8_turn_128 (by repeat (first | with_reducible assumption | (rw [rl_u_s]; done) | (rw [rl_u_s]; rfl) | rw [rl_u_n (by first | with_reducible assumption | omega)])) (by omega) (by decide) ?_
            refine o_aload_n hC dX8_turn_129 (by rfl) ?_
            refine o_getf hC (fX8_66 hC rfl) dX8_turn_130 (by repeat (first | with_reducible assumption | (rw [rl_u_s]; done) | (rw [rl_u_s]; rfl) | rw [rl_u_n (by first | with_reducible assumption | omega)])) (by first | rfl | with_reducible assumption) ?_
            refine o_iload hC dX8_turn_133 (by rfl) ?_
            refine o_aload_n hC dX8_turn_135 (by rfl) ?_
            refine o_getf hC (fX8_66 hC rfl) dX8_turn_136 (by repeat (first | with_reducible assumption | (rw [rl_u_s]; done) | (rw [rl_u_s]; rfl) | rw [rl_u_n (by first | with_reducible assumption | omega)])) (by first | rfl | with_reducible assumption) ?_
            refine o_iload hC dX8_turn_139 (by rfl) ?_
            refine o_laldN (t0 := 1) hC rfl dX8_turn_141 (by repeat (first | with_reducible assumption | (rw [rl_u_s]; done) | (rw [rl_u_s]; rfl) | rw [rl_u_n (by first | with_reducible assumption | omega)])) (by omega) (by decide) ?_
            refine o_lastN (t0 := 1) hC rfl dX8_turn_142 (by repeat (first | with_reducible assumption | (rw [rl_u_s]; done) | (rw [rl_u_s]; rfl) | rw [rl_u_n (by first | with_reducible assumption | omega)])) (by omega) (by decide) ?_
            refine o_iinc hC dX8_turn_143 (by rfl) (rl_inc _) (Nat.le_of_ble_eq_true rfl) ?_
            refine o_iinc hC dX8_turn_146 (by rfl) (rl_inc _) (Nat.le_of_ble_eq_true rfl) ?_
            refine o_goto (tgt := 70) hC dX8_turn_149 (by decide) ?_
            first
            | exact ih (i + 1) (lf + 1) _ (by omega) (by omega) ((hq1.s18 _).s19 _)
            | exact ih (i + 1) lf _ (by omega) (by omega) hq1
  have loop1 : ∀ (mm i : Nat), i + mm = k → rl_G X (rl_e D ids H0) 12 [some (.ref m), some (.long a), none, some (.long b), none, some (.int (nI i)), none] [] h n 0 0 := by
    intro mm
    induction mm with
    | zero =>
      intro i hm
      refine o_iload hC dX8_turn_12 (by rfl) ?_
      refine o_aload_n hC dX8_turn_14 (by rfl) ?_
      refine o_getf hC (fX8_82 hC rfl) dX8_turn_15 (by repeat (first | with_reducible assumption | (rw [rl_u_s]; done) | (rw [rl_u_s]; rfl) | rw [rl_u_n (by first | with_reducible assumption | omega)])) (by first | rfl | with_reducible assumption) ?_
      refine o_icmp_ge (tgt := 64) hC dX8_turn_18 (by decide) (fun c_18 => ?_) (fun c_18 => ?_)
      · refine o_iconst (v := nI 0) hC dX8_turn_64 (by decide +kernel) ?_
        refine o_istore hC dX8_turn_65 (Nat.le_of_ble_eq_true rfl) ?_
        refine o_iconst (v := nI 0) hC dX8_turn_67 (by decide +kernel) ?_
        refine o_istore hC dX8_turn_68 (Nat.le_of_ble_eq_true rfl) ?_
        exact loop2 k 0 0 _ (by omega) (by omega) hq
      · exact absurd (nI_le (by omega) (by omega)) c_18
    | succ mm ih =>
      intro i hm
      refine o_iload hC dX8_turn_12 (by rfl) ?_
      refine o_aload_n hC dX8_turn_14 (by rfl) ?_
      refine o_getf hC (fX8_82 hC rfl) dX8_turn_15 (by repeat (first | with_reducible assumption | (rw [rl_u_s]; done) | (rw [rl_u_s]; rfl) | rw [rl_u_n (by first | with_reducible assumption | omega)])) (by first | rfl | with_reducible assumption) ?_
      refine o_icmp_ge (tgt := 64) hC dX8_turn_18 (by decide) (fun c_18 => ?_) (fun c_18 => ?_)
      · exact absurd c_18 (nI_ge (by omega) (by omega))
      · refine o_aload_n hC dX8_turn_21 (by rfl) ?_
        refine o_getf hC (fX8_63 hC rfl) dX8_turn_22 (by repeat (first | with_reducible assumption | (rw [rl_u_s]; done) | (rw [rl_u_s]; rfl) | rw [rl_u_n (by first | with_reducible assumption | omega)])) (by first | rfl | with_reducible assumption) ?_
        refine o_iload hC dX8_turn_25 (by rfl) ?_
        refine o_laldN (t0 := 1) hC rfl dX8_turn_27 (by repeat (first | with_reducible assumption | (rw [rl_u_s]; done) | (rw [rl_u_s]; rfl) | rw [rl_u_n (by first | with_reducible assumption | omega)])) (by omega) (by decide) ?_
        refine o_lload_n hC dX8_turn_28 (by rfl) ?_
        refine o_ldc2 hC nX8_85 dX8_turn_29 ?_
        refine o_lxor hC dX8_turn_32 ?_
        refine o_land hC dX8_turn_33 ?_
        refine o_lconst (v := 0) hC dX8_turn_34 (by decide +kernel) ?_
        refine o_lcmp hC dX8_turn_35 ?_
        refine o_if_ne (tgt := 58) hC dX8_turn_36 (by decide) (fun c_36 => ?_) (fun c_36 => ?_)
        · refine o_iinc hC dX8_turn_58 (by rfl) (rl_inc _) (Nat.le_of_ble_eq_true rfl) ?_
          refine o_goto (tgt := 12) hC dX8_turn_61 (by decide) ?_
          exact ih (i + 1) (by omega)
        · refine o_aload_n hC dX8_turn_39 (by rfl) ?_
          refine o_getf hC (fX8_66 hC rfl) dX8_turn_40 (by repeat (first | with_reducible assumption | (rw [rl_u_s]; done) | (rw [rl_u_s]; rfl) | rw [rl_u_n (by first | with_reducible assumption | omega)])) (by first | rfl | with_reducible assumption) ?_
          refine o_iload hC dX8_turn_43 (by rfl) ?_
          refine o_laldN (t0 := 1) hC rfl dX8_turn_45 (by repeat (first | with_reducible assumption | (rw [rl_u_s]; done) | (rw [rl_u_s]; rfl) | rw [rl_u_n (by first | with_reducible assumption | omega)])) (by omega) (by decide) ?_
          refine o_lload_n hC dX8_turn_46 (by rfl) ?_
          refine o_ldc2 hC nX8_85 dX8_turn_47 ?_
          refine o_lxor hC dX8_turn_50 ?_
          refine o_land hC dX8_turn_51 ?_
          refine o_lconst (v := 0) hC dX8_turn_52 (by decide +kernel) ?_
          refine o_lcmp hC dX8_turn_53 ?_
          refine o_if_ne (tgt := 58) hC dX8_turn_54 (by decide) (fun c_54 => ?_) (fun c_54 => ?_)
          · refine o_iinc hC dX8_turn_58 (by rfl) (rl_inc _) (Nat.le_of_ble_eq_true rfl) ?_
            refine o_goto (tgt := 12) hC dX8_turn_61 (by decide) ?_
            exact ih (i + 1) (by omega)
          · refine o_vret hC hB dX8_turn_57 (Nat.le_of_ble_eq_true rfl) (Nat.le_of_ble_eq_true rfl) ?_
            exact ⟨rfl, rfl, _, _, hq⟩
  show rl_G X (rl_e D ids H0) 0 [some (.ref m), some (.long a), none, some (.long b), none, none, none] [] h n 0 0
  refine o_lload_n hC dX8_turn_0 (by rfl) ?_
  refine o_lload_n hC dX8_turn_1 (by rfl) ?_
  refine o_land hC dX8_turn_2 ?_
  refine o_lconst (v := 0) hC dX8_turn_3 (by decide +kernel) ?_
  refine o_lcmp hC dX8_turn_4 ?_
  refine o_if_eq (tgt := 9) hC dX8_turn_5 (by decide) (fun c_5 => ?_) (fun c_5 => ?_)
  · refine o_iconst (v := nI 0) hC dX8_turn_9 (by decide +kernel) ?_
    refine o_istore hC dX8_turn_10 (Nat.le_of_ble_eq_true rfl) ?_
    exact loop1 k 0 (by omega)
  · refine o_vret hC hB dX8_turn_8 (Nat.le_of_ble_eq_true rfl) (Nat.le_of_ble_eq_true rfl) ?_
    exact ⟨rfl, rfl, _, _, hq⟩

set_option maxHeartbeats 4000000 in
set_option maxRecDepth 100000 in
theorem cm_X8_not (l : Launch) (D : va_G) (ids : Nat → ClassId) (H0 : Heap) (h : rl_H) (n : Nat) (m : Nat) (T : md_T) (fu : Int32) (k : Nat) (c a : Nat) (hq : mq ids h h m T fu k) (hc : c < 1368) (ha : a < 1368) : rl_Met l (rl_e D ids H0) rl_BW rl_Ns yX8_not cX8_not 12 none ({ frames := 2, cells := 0, slots := 0, locals := 50 }) [.ref m, .int (nI c), .int (nI a)] h n (fun v h' n' => v = none ∧ n' = n ∧ ∃ (fu' : Int32) (k' : Nat), mq ids h h' m T fu' k') := by
  obtain ⟨g0, gk, ⟨⟨cl, g12⟩, ⟨tu, g13, b13⟩, ⟨im, g14⟩, ⟨te, g15, b15⟩, ⟨ne, g16⟩, ⟨la, g17⟩, ⟨hn, g18⟩, ⟨hl, g19⟩, ⟨tp, g20⟩, ⟨gr, g21, b21⟩, ⟨it, g22⟩⟩, gf⟩ := id hq
  refine rl_Met.of (by decide +kernel) (Nat.le_of_ble_eq_true rfl) ?_
  intro X hC hB
  have loop1 : ∀ (mm i : Nat) (h1 : rl_H) (f1 : Int32) (k1 : Nat) (o4 o6 o8 o9 o10 : Option Value), i + mm = 12 → mq ids h h1 m T f1 k1 → rl_G X (rl_e D ids H0) 7 [some (.ref m), some (.int (nI c)), some (.int (nI a)), some (.int (nI i)), o4, none, o6, none, o8, o9, o10, none] [] h1 n 0 0 := by
    intro mm
    induction mm with
    | zero =>
      intro i h1 f1 k1 o4 o6 o8 o9 o10 hm hq1
      obtain ⟨g0, gk, ⟨⟨cl, g12⟩, ⟨tu, g13, b13⟩, ⟨im, g14⟩, ⟨te, g15, b15⟩, ⟨ne, g16⟩, ⟨la, g17⟩, ⟨hn, g18⟩, ⟨hl, g19⟩, ⟨tp, g20⟩, ⟨gr, g21, b21⟩, ⟨it, g22⟩⟩, gf⟩ := id hq1
      refine o_iload_n hC dX8_not_7 (by rfl) ?_
      refine o_aload_n hC dX8_not_8 (by rfl) ?_
      refine o_getf hC (fX8_53 hC rfl) dX8_not_9 (by repeat (first | with_reducible assumption | (rw [rl_u_s]; done) | (rw [rl_u_s]; rfl) | rw [rl_u_n (by first | with_reducible assumption | omega)])) (by first | rfl | with_reducible assumption) ?_
      refine o_iload_n hC dX8_not_12 (by rfl) ?_
      obtain ⟨t13, ht13, et13⟩ := b15 a (by omega)
      refine o_ialdN (t0 := 0) (k := a) hC rfl dX8_not_13 (by repeat (first | with_reducible assumption | (rw [rl_u_s]; done) | (rw [rl_u_s]; rfl) | rw [rl_u_n (by first | with_reducible assumption | omega)])) (by omega) (by decide) ?_
      rw [et13]
      refine o_icmp_ge (tgt := 193) hC dX8_not_14 (by decide) (fun c_14 => ?_) (fun c_14 => ?_)
      · refine o_vret hC hB dX8_not_193 (Nat.le_of_ble_eq_true rfl) (Nat.le_of_ble_eq_true rfl) ?_
        exact ⟨rfl, rfl, _, _, hq1⟩
      · exact absurd (nI_le (by omega) (by omega)) c_14
    | succ mm ih =>
      intro i h1 f1 k1 o4 o6 o8 o9 o10 hm hq1
      have loop2 : ∀ (m2 j : Nat) (h2 : rl_H) (f2 : Int32) (k2 : Nat) (x4 x6 : Int64) (o9 o10 : Option Value), j + m2 = 12 → mq ids h h2 m T f2 k2 → rl_G X (rl_e D ids H0) 58 [some (.ref m), some (.int (nI c)), some (.int (nI a)), some (.int (nI i)), some (.long x4), none, some (.long x6), none, some (.int (nI j)), o9, o10, none] [] h2 n 0 0 := by
        intro m2
        induction m2 with
        | zero =>
          intro j h2 f2 k2 x4 x6 o9 o10 hm2 hq2
          obtain ⟨g0, gk, ⟨⟨cl, g12⟩, ⟨tu, g13, b13⟩, ⟨im, g14⟩, ⟨te, g15, b15⟩, ⟨ne, g16⟩, ⟨la, g17⟩, ⟨hn, g18⟩, ⟨hl, g19⟩, ⟨tp, g20⟩, ⟨gr, g21, b21⟩, ⟨it, g22⟩⟩, gf⟩ := id hq2
          refine o_iload hC dX8_not_58 (by rfl) ?_
          refine o_aload_n hC dX8_not_60 (by rfl) ?_
          refine o_getf hC (fX8_53 hC rfl) dX8_not_61 (by repeat (first | with_reducible assumption | (rw [rl_u_s]; done) | (rw [rl_u_s]; rfl) | rw [rl_u_n (by first | with_reducible assumption | omega)])) (by first | rfl | with_reducible assumption) ?_
          refine o_iload_n hC dX8_not_64 (by rfl) ?_
          obtain ⟨t65, ht65, et65⟩ := b15 c (by omega)
          refine o_ialdN (t0 := 0) (k := c) hC rfl dX8_not_65 (by repeat (first | with_reducible assumption | (rw [rl_u_s]; done) | (rw [rl_u_s]; rfl) | rw [rl_u_n (by first | with_reducible assumption | omega)])) (by omega) (by decide) ?_
          rw [et65]
          refine o_icmp_ge (tgt := 182) hC dX8_not_66 (by decide) (fun c_66 => ?_) (fun c_66 => ?_)
          · refine o_aload_n hC dX8_not_182 (by rfl) ?_
            refine o_iload_n hC dX8_not_183 (by rfl) ?_
            refine o_callV1 hC rl_BW_good rl_Ns_nw (by exact hB.2.2.2.2.2) YX8_settle IX8_settle VX8_settle (mX8_99 hC) (by rw [hB.1]; exact cm_X8_settle l D ids H0 _ _ m T _ _ c hq2.rf (by omega)) (by exact hq2.1) rfl rfl (Nat.le_of_ble_eq_true rfl) (by rw [hB.2.1]; first | exact Nat.le_of_ble_eq_true rfl | (dsimp only; omega)) (by rw [hB.2.1]; first | exact Nat.le_of_ble_eq_true rfl | (dsimp only; omega)) (by rw [hB.2.1]; first | exact Nat.le_of_ble_eq_true rfl | (dsimp only; omega)) (by rw [hB.2.1]; first | exact Nat.le_of_ble_eq_true rfl | (dsimp only; omega)) dX8_not_184 (fun v h_184 n_184 p_184 => ?_)
            obtain ⟨rfl, rfl, fs, q9⟩ := p_184
            try dsimp only [Option.toList, List.cons_append, List.nil_append]
            refine o_iinc hC dX8_not_187 (by rfl) (rl_inc _) (Nat.le_of_ble_eq_true rfl) ?_
            refine o_goto (tgt := 7) hC dX8_not_190 (by decide) ?_
            exact ih (i + 1) _ _ _ _ _ _ _ _ (by omega) (hq2.tr q9)
          · exact absurd (nI_le (by omega) (by omega)) c_66
        | succ m2 ih2 =>
          intro j h2 f2 k2 x4 x6 o9 o10 hm2 hq2
          have loop3 : ∀ (m3 r : Nat) (h3 : rl_H) (f3 : Int32) (k3 : Nat) (o10 : Option Value), r + m3 = 36 → mq ids h h3 m T f3 k3 → rl_G X (rl_e D ids H0) 72 [some (.ref m), some (.int (nI c)), some (.int (nI a)), some (.int (nI i)), some (.long x4), none, some (.long x6), none, some (.int (nI j)), some (.int (nI r)), o10, none] [] h3 n 0 0 := by
            intro m3
            induction m3 with
            | zero =>
              intro r h3 f3 k3 o10 hm3 hq3
              refine o_iload hC dX8_not_72 (by rfl) ?_
              refine o_bipush (v := nI 36) hC dX8_not_74 (by decide +kernel) ?_
              refine o_icmp_ge (tgt := 176) hC dX8_not_76 (by decide) (fun c_76 => ?_) (fun c_76 => ?_)
              · refine o_iinc hC dX8_not_176 (by rfl) (rl_inc _) (Nat.le_of_ble_eq_true rfl) ?_
                refine o_goto (tgt := 58) hC dX8_not_179 (by decide) ?_
                exact ih2 (j + 1) _ _ _ _ _ _ _ (by omega) hq3
              · exact absurd (nI_le (by omega) (by omega)) c_76
            | succ m3 ih3 =>
              intro r h3 f3 k3 o10 hm3 hq3
              obtain ⟨g0, gk, ⟨⟨cl, g12⟩, ⟨tu, g13, b13⟩, ⟨im, g14⟩, ⟨te, g15, b15⟩, ⟨ne, g16⟩, ⟨la, g17⟩, ⟨hn, g18⟩, ⟨hl, g19⟩, ⟨tp, g20⟩, ⟨gr, g21, b21⟩, ⟨it, g22⟩⟩, gf⟩ := id hq3
              refine o_iload hC dX8_not_72 (by rfl) ?_
              refine o_bipush (v := nI 36) hC dX8_not_74 (by decide +kernel) ?_
              refine o_icmp_ge (tgt := 176) hC dX8_not_76 (by decide) (fun c_76 => ?_) (fun c_76 => ?_)
              · exact absurd c_76 (nI_ge (by omega) (by omega))
              · refine o_lconst (v := 1) hC dX8_not_79 (by decide +kernel) ?_
                refine o_iload hC dX8_not_80 (by rfl) ?_
                refine o_lshl hC dX8_not_82 ?_
                refine o_lstore hC dX8_not_83 (Nat.le_of_ble_eq_true rfl) ?_
                refine o_lload hC dX8_not_85 (by rfl) ?_
                refine o_lload hC dX8_not_87 (by rfl) ?_
                refine o_land hC dX8_not_89 ?_
                refine o_lconst (v := 0) hC dX8_not_90 (by decide +kernel) ?_
                refine o_lcmp hC dX8_not_91 ?_
                refine o_if_eq (tgt := 129) hC dX8_not_92 (by decide) (fun c_92 => ?_) (fun c_92 => ?_)
                · refine o_lload hC dX8_not_129 (by rfl) ?_
                  refine o_lload hC dX8_not_131 (by rfl) ?_
                  refine o_land hC dX8_not_133 ?_
                  refine o_lconst (v := 0) hC dX8_not_134 (by decide +kernel) ?_
                  refine o_lcmp hC dX8_not_135 ?_
                  refine o_if_eq (tgt := 170) hC dX8_not_136 (by decide) (fun c_136 => ?_) (fun c_136 => ?_)
                  · refine o_iinc hC dX8_not_170 (by rfl) (rl_inc _) (Nat.le_of_ble_eq_true rfl) ?_
                    refine o_goto (tgt := 72) hC dX8_not_173 (by decide) ?_
                    first
                    | exact ih3 (r + 1) _ _ _ _ (by omega) (hq3.tr q1)
                    | exact ih3 (r + 1) _ _ _ _ (by omega) hq3
                  · refine o_aload_n hC dX8_not_139 (by rfl) ?_
                    refine o_aload_n hC dX8_not_140 (by rfl) ?_
                    refine o_getf hC (fX8_56 hC rfl) dX8_not_141 (by repeat (first | with_reducible assumption | (rw [rl_u_s]; done) | (rw [rl_u_s]; rfl) | rw [rl_u_n (by first | with_reducible assumption | omega)])) (by first | rfl | with_reducible assumption) ?_
                    refine o_bipush (v := nI 12) hC dX8_not_144 (by decide +kernel) ?_
                    refine o_iload_n hC dX8_not_146 (by rfl) ?_
                    refine o_imul hC dX8_not_147 ?_
                    try rw [nI_mul]
                    refine o_iload hC dX8_not_148 (by rfl) ?_
                    refine o_iadd hC dX8_not_150 ?_
                    try rw [nI_add]
                    refine o_laldN (t0 := 1) hC rfl dX8_not_151 (by repeat (first | with_reducible assumption | (rw [rl_u_s]; done) | (rw [rl_u_s]; rfl) | rw [rl_u_n (by first | with_reducible assumption | omega)])) (by omega) (by decide) ?_
                    refine o_lload hC dX8_not_152 (by rfl) ?_
                    refine o_lor hC dX8_not_154 ?_
                    refine o_aload_n hC dX8_not_155 (by rfl) ?_
                    refine o_getf hC (fX8_60 hC rfl) dX8_not_156 (by repeat (first | with_reducible assumption | (rw [rl_u_s]; done) | (rw [rl_u_s]; rfl) | rw [rl_u_n (by first | with_reducible assumption | omega)])) (by first | rfl | with_reducible assumption) ?_
                    refine o_bipush (v := nI 12) hC dX8_not_159 (by decide +kernel) ?_
                    refine o_iload_n hC dX8_not_161 (by rfl) ?_
                    refine o_imul hC dX8_not_162 ?_
                    try rw [nI_mul]
                    refine o_iload hC dX8_not_163 (by rfl) ?_
                    refine o_iadd hC dX8_not_165 ?_
                    try rw [nI_add]
                    refine o_laldN (t0 := 1) hC rfl dX8_not_166 (by repeat (first | with_reducible assumption | (rw [rl_u_s]; done) | (rw [rl_u_s]; rfl) | rw [rl_u_n (by first | with_reducible assumption | omega)])) (by omega) (by decide) ?_
                    refine o_callV2 hC rl_BW_good rl_Ns_nw (by exact hB.2.2.2.2.2) YX8_turn IX8_turn VX8_turn (mX8_106 hC) (by rw [hB.1]; exact cm_X8_turn l D ids H0 _ _ m T _ _ _ _ hq3.rf) (by exact hq3.1) rfl rfl (Nat.le_of_ble_eq_true rfl) (by rw [hB.2.1]; first | exact Nat.le_of_ble_eq_true rfl | (dsimp only; omega)) (by rw [hB.2.1]; first | exact Nat.le_of_ble_eq_true rfl | (dsimp only; omega)) (by rw [hB.2.1]; first | exact Nat.le_of_ble_eq_true rfl | (dsimp only; omega)) (by rw [hB.2.1]; first | exact Nat.le_of_ble_eq_true rfl | (dsimp only; omega)) dX8_not_167 (fun v h_167 n_167 p_167 => ?_)
                    obtain ⟨rfl, rfl, f9, k9, q1⟩ := p_167
                    try dsimp only [Option.toList, List.cons_append, List.nil_append]
                    refine o_iinc hC dX8_not_170 (by rfl) (rl_inc _) (Nat.le_of_ble_eq_true rfl) ?_
                    refine o_goto (tgt := 72) hC dX8_not_173 (by decide) ?_
                    first
                    | exact ih3 (r + 1) _ _ _ _ (by omega) (hq3.tr q1)
                    | exact ih3 (r + 1) _ _ _ _ (by omega) hq3
                · refine o_aload_n hC dX8_not_95 (by rfl) ?_
                  refine o_aload_n hC dX8_not_96 (by rfl) ?_
                  refine o_getf hC (fX8_56 hC rfl) dX8_not_97 (by repeat (first | with_reducible assumption | (rw [rl_u_s]; done) | (rw [rl_u_s]; rfl) | rw [rl_u_n (by first | with_reducible assumption | omega)])) (by first | rfl | with_reducible assumption) ?_
                  refine o_bipush (v := nI 12) hC dX8_not_100 (by decide +kernel) ?_
                  refine o_iload_n hC dX8_not_102 (by rfl) ?_
                  refine o_imul hC dX8_not_103 ?_
                  try rw [nI_mul]
                  refine o_iload hC dX8_not_104 (by rfl) ?_
                  refine o_iadd hC dX8_not_106 ?_
                  try rw [nI_add]
                  refine o_laldN (t0 := 1) hC rfl dX8_not_107 (by repeat (first | with_reducible assumption | (rw [rl_u_s]; done) | (rw [rl_u_s]; rfl) | rw [rl_u_n (by first | with_reducible assumption | omega)])) (by omega) (by decide) ?_
                  refine o_aload_n hC dX8_not_108 (by rfl) ?_
                  refine o_getf hC (fX8_60 hC rfl) dX8_not_109 (by repeat (first | with_reducible assumption | (rw [rl_u_s]; done) | (rw [rl_u_s]; rfl) | rw [rl_u_n (by first | with_reducible assumption | omega)])) (by first | rfl | with_reducible assumption) ?_
                  refine o_bipush (v := nI 12) hC dX8_not_112 (by decide +kernel) ?_
                  refine o_iload_n hC dX8_not_114 (by rfl) ?_
                  refine o_imul hC dX8_not_115 ?_
                  try rw [nI_mul]
                  refine o_iload hC dX8_not_116 (by rfl) ?_
                  refine o_iadd hC dX8_not_118 ?_
                  try rw [nI_add]
                  refine o_laldN (t0 := 1) hC rfl dX8_not_119 (by repeat (first | with_reducible assumption | (rw [rl_u_s]; done) | (rw [rl_u_s]; rfl) | rw [rl_u_n (by first | with_reducible assumption | omega)])) (by omega) (by decide) ?_
                  refine o_lload hC dX8_not_120 (by rfl) ?_
                  refine o_lor hC dX8_not_122 ?_
                  refine o_callV2 hC rl_BW_good rl_Ns_nw (by exact hB.2.2.2.2.2) YX8_turn IX8_turn VX8_turn (mX8_106 hC) (by rw [hB.1]; exact cm_X8_turn l D ids H0 _ _ m T _ _ _ _ hq3.rf) (by exact hq3.1) rfl rfl (Nat.le_of_ble_eq_true rfl) (by rw [hB.2.1]; first | exact Nat.le_of_ble_eq_true rfl | (dsimp only; omega)) (by rw [hB.2.1]; first | exact Nat.le_of_ble_eq_true rfl | (dsimp only; omega)) (by rw [hB.2.1]; first | exact Nat.le_of_ble_eq_true rfl | (dsimp only; omega)) (by rw [hB.2.1]; first | exact Nat.le_of_ble_eq_true rfl | (dsimp only; omega)) dX8_not_123 (fun v h_123 n_123 p_123 => ?_)
                  obtain ⟨rfl, rfl, f9, k9, q1⟩ := p_123
                  try dsimp only [Option.toList, List.cons_append, List.nil_append]
                  refine o_goto (tgt := 170) hC dX8_not_126 (by decide) ?_
                  refine o_iinc hC dX8_not_170 (by rfl) (rl_inc _) (Nat.le_of_ble_eq_true rfl) ?_
                  refine o_goto (tgt := 72) hC dX8_not_173 (by decide) ?_
                  first
                  | exact ih3 (r + 1) _ _ _ _ (by omega) (hq3.tr q1)
                  | exact ih3 (r + 1) _ _ _ _ (by omega) hq3
          obtain ⟨g0, gk, ⟨⟨cl, g12⟩, ⟨tu, g13, b13⟩, ⟨im, g14⟩, ⟨te, g15, b15⟩, ⟨ne, g16⟩, ⟨la, g17⟩, ⟨hn, g18⟩, ⟨hl, g19⟩, ⟨tp, g20⟩, ⟨gr, g21, b21⟩, ⟨it, g22⟩⟩, gf⟩ := id hq2
          refine o_iload hC dX8_not_58 (by rfl) ?_
          refine o_aload_n hC dX8_not_60 (by rfl) ?_
          refine o_getf hC (fX8_53 hC rfl) dX8_not_61 (by repeat (first | with_reducible assumption | (rw [rl_u_s]; done) | (rw [rl_u_s]; rfl) | rw [rl_u_n (by first | with_reducible assumption | omega)])) (by first | rfl | with_reducible assumption) ?_
          refine o_iload_n hC dX8_not_64 (by rfl) ?_
          obtain ⟨t65, ht65, et65⟩ := b15 c (by omega)
          refine o_ialdN (t0 := 0) (k := c) hC rfl dX8_not_65 (by repeat (first | with_reducible assumption | (rw [rl_u_s]; done) | (rw [rl_u_s]; rfl) | rw [rl_u_n (by first | with_reducible assumption | omega)])) (by omega) (by decide) ?_
          rw [et65]
          refine o_icmp_ge (tgt := 182) hC dX8_not_66 (by decide) (fun c_66 => ?_) (fun c_66 => ?_)
          · refine o_aload_n hC dX8_not_182 (by rfl) ?_
            refine o_iload_n hC dX8_not_183 (by rfl) ?_
            refine o_callV1 hC rl_BW_good rl_Ns_nw (by exact hB.2.2.2.2.2) YX8_settle IX8_settle VX8_settle (mX8_99 hC) (by rw [hB.1]; exact cm_X8_settle l D ids H0 _ _ m T _ _ c hq2.rf (by omega)) (by exact hq2.1) rfl rfl (Nat.le_of_ble_eq_true rfl) (by rw [hB.2.1]; first | exact Nat.le_of_ble_eq_true rfl | (dsimp only; omega)) (by rw [hB.2.1]; first | exact Nat.le_of_ble_eq_true rfl | (dsimp only; omega)) (by rw [hB.2.1]; first | exact Nat.le_of_ble_eq_true rfl | (dsimp only; omega)) (by rw [hB.2.1]; first | exact Nat.le_of_ble_eq_true rfl | (dsimp only; omega)) dX8_not_184 (fun v h_184 n_184 p_184 => ?_)
            obtain ⟨rfl, rfl, fs, q9⟩ := p_184
            try dsimp only [Option.toList, List.cons_append, List.nil_append]
            refine o_iinc hC dX8_not_187 (by rfl) (rl_inc _) (Nat.le_of_ble_eq_true rfl) ?_
            refine o_goto (tgt := 7) hC dX8_not_190 (by decide) ?_
            exact ih (i + 1) _ _ _ _ _ _ _ _ (by omega) (hq2.tr q9)
          · refine o_iconst (v := nI 0) hC dX8_not_69 (by decide +kernel) ?_
            refine o_istore hC dX8_not_70 (Nat.le_of_ble_eq_true rfl) ?_
            exact loop3 36 0 _ _ _ _ (by omega) hq2
      obtain ⟨g0, gk, ⟨⟨cl, g12⟩, ⟨tu, g13, b13⟩, ⟨im, g14⟩, ⟨te, g15, b15⟩, ⟨ne, g16⟩, ⟨la, g17⟩, ⟨hn, g18⟩, ⟨hl, g19⟩, ⟨tp, g20⟩, ⟨gr, g21, b21⟩, ⟨it, g22⟩⟩, gf⟩ := id hq1
      refine o_iload_n hC dX8_not_7 (by rfl) ?_
      refine o_aload_n hC dX8_not_8 (by rfl) ?_
      refine o_getf hC (fX8_53 hC rfl) dX8_not_9 (by repeat (first | with_reducible assumption | (rw [rl_u_s]; done) | (rw [rl_u_s]; rfl) | rw [rl_u_n (by first | with_reducible assumption | omega)])) (by first | rfl | with_reducible assumption) ?_
      refine o_iload_n hC dX8_not_12 (by rfl) ?_
      obtain ⟨t13, ht13, et13⟩ := b15 a (by omega)
      refine o_ialdN (t0 := 0) (k := a) hC rfl dX8_not_13 (by repeat (first | with_reducible assumption | (rw [rl_u_s]; done) | (rw [rl_u_s]; rfl) | rw [rl_u_n (by first | with_reducible assumption | omega)])) (by omega) (by decide) ?_
      rw [et13]
      refine o_icmp_ge (tgt := 193) hC dX8_not_14 (by decide) (fun c_14 => ?_) (fun c_14 => ?_)
      · refine o_vret hC hB dX8_not_193 (Nat.le_of_ble_eq_true rfl) (Nat.le_of_ble_eq_true rfl) ?_
        exact ⟨rfl, rfl, _, _, hq1⟩
      · refine o_aload_n hC dX8_not_17 (by rfl) ?_
        refine o_getf hC (fX8_91 hC rfl) dX8_not_18 (by repeat (first | with_reducible assumption | (rw [rl_u_s]; done) | (rw [rl_u_s]; rfl) | rw [rl_u_n (by first | with_reducible assumption | omega)])) (by first | rfl | with_reducible assumption) ?_
        refine o_if_ne (tgt := 193) hC dX8_not_21 (by decide) (fun c_21 => ?_) (fun c_21 => ?_)
        · refine o_vret hC hB dX8_not_193 (Nat.le_of_ble_eq_true rfl) (Nat.le_of_ble_eq_true rfl) ?_
          exact ⟨rfl, rfl, _, _, hq1⟩
        · refine o_aload_n hC dX8_not_24 (by rfl) ?_
          refine o_getf hC (fX8_56 hC rfl) dX8_not_25 (by repeat (first | with_reducible assumption | (rw [rl_u_s]; done) | (rw [rl_u_s]; rfl) | rw [rl_u_n (by first | with_reducible assumption | omega)])) (by first | rfl | with_reducible assumption) ?_
          refine o_bipush (v := nI 12) hC dX8_not_28 (by decide +kernel) ?_
          refine o_iload_n hC dX8_not_30 (by rfl) ?_
          refine o_imul hC dX8_not_31 ?_
          try rw [nI_mul]
          refine o_iload_n hC dX8_not_32 (by rfl) ?_
          refine o_iadd hC dX8_not_33 ?_
          try rw [nI_add]
          refine o_laldN (t0 := 1) hC rfl dX8_not_34 (by repeat (first | with_reducible assumption | (rw [rl_u_s]; done) | (rw [rl_u_s]; rfl) | rw [rl_u_n (by first | with_reducible assumption | omega)])) (by omega) (by decide) ?_
          refine o_lstore hC dX8_not_35 (Nat.le_of_ble_eq_true rfl) ?_
          refine o_aload_n hC dX8_not_37 (by rfl) ?_
          refine o_getf hC (fX8_60 hC rfl) dX8_not_38 (by repeat (first | with_reducible assumption | (rw [rl_u_s]; done) | (rw [rl_u_s]; rfl) | rw [rl_u_n (by first | with_reducible assumption | omega)])) (by first | rfl | with_reducible assumption) ?_
          refine o_bipush (v := nI 12) hC dX8_not_41 (by decide +kernel) ?_
          refine o_iload_n hC dX8_not_43 (by rfl) ?_
          refine o_imul hC dX8_not_44 ?_
          try rw [nI_mul]
          refine o_iload_n hC dX8_not_45 (by rfl) ?_
          refine o_iadd hC dX8_not_46 ?_
          try rw [nI_add]
          refine o_laldN (t0 := 1) hC rfl dX8_not_47 (by repeat (first | with_reducible assumption | (rw [rl_u_s]; done) | (rw [rl_u_s]; rfl) | rw [rl_u_n (by first | with_reducible assumption | omega)])) (by omega) (by decide) ?_
          refine o_lstore hC dX8_not_48 (Nat.le_of_ble_eq_true rfl) ?_
          refine o_aload_n hC dX8_not_50 (by rfl) ?_
          refine o_iconst (v := nI 0) hC dX8_not_51 (by decide +kernel) ?_
          refine o_putf hC (fX8_82 hC rfl) (fwX8 rfl rfl rfl (Or.inl rfl)) dX8_not_52 (by repeat (first | with_reducible assumption | (rw [rl_u_s]; done) | (rw [rl_u_s]; rfl) | rw [rl_u_n (by first | with_reducible assumption | omega)])) (Nat.le_of_ble_eq_true rfl) ?_
          try simp only [List.set_cons_zero, List.set_cons_succ]
          refine o_iconst (v := nI 0) hC dX8_not_55 (by decide +kernel) ?_
          refine o_istore hC dX8_not_56 (Nat.le_of_ble_eq_true rfl) ?_
          exact loop2 12 0 _ _ _ _ _ _ _ (by omega) (hq1.ob T f1 0 (by omega))
  show rl_G X (rl_e D ids H0) 0 [some (.ref m), some (.int (nI c)), some (.int (nI a)), none, none, none, none, none, none, none, none, none] [] h n 0 0
  refine o_aload_n hC dX8_not_0 (by rfl) ?_
  refine o_iload_n hC dX8_not_1 (by rfl) ?_
  refine o_callV1 hC rl_BW_good rl_Ns_nw (by exact hB.2.2.2.2.2) YX8_truth IX8_truth VX8_truth (mX8_103 hC) (by rw [hB.1]; exact cm_X8_truth l D ids H0 _ _ m T _ _ c hq (by omega)) (by exact g0) rfl rfl (Nat.le_of_ble_eq_true rfl) (by rw [hB.2.1]; first | exact Nat.le_of_ble_eq_true rfl | (dsimp only; omega)) (by rw [hB.2.1]; first | exact Nat.le_of_ble_eq_true rfl | (dsimp only; omega)) (by rw [hB.2.1]; first | exact Nat.le_of_ble_eq_true rfl | (dsimp only; omega)) (by rw [hB.2.1]; first | exact Nat.le_of_ble_eq_true rfl | (dsimp only; omega)) dX8_not_2 (fun v h_2 n_2 p_2 => ?_)
  obtain ⟨rfl, rfl, q0⟩ := p_2
  try dsimp only [Option.toList, List.cons_append, List.nil_append]
  refine o_iconst (v := nI 0) hC dX8_not_5 (by decide +kernel) ?_
  refine o_istore_n hC dX8_not_6 (Nat.le_of_ble_eq_true rfl) ?_
  exact loop1 12 0 _ _ _ _ _ _ _ _ (by omega) q0
