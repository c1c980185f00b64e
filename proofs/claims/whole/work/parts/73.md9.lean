/-! THE MODEL: what only looks -/
theorem md_shl16 : ∀ q : Nat, q ≤ 16 → nI 1 <<< (nI q &&& 31) ≤ nI 65536 := by decide +kernel

set_option maxHeartbeats 4000000 in
set_option maxRecDepth 100000 in
theorem cm_X8_first (l : Launch) (D : va_G) (ids : Nat → ClassId) (H0 : Heap) (h : rl_H) (n : Nat) (m : Nat) (T : md_T) (fu : Int32) (k : Nat) (t : Nat) (x : Int64) (hq : mq ids h h m T fu k) (ht : t < 80) : rl_Met l (rl_e D ids H0) rl_BW rl_Ns yX8_first cX8_first 6 (some .int) ({ frames := 0, cells := 0, slots := 0, locals := 0 }) [.ref m, .int (nI t), .long x] h n (fun v h' n' => ∃ r : Int32, v = some (.int r) ∧ h' = h ∧ n' = n) := by
  obtain ⟨g0, gk, ⟨⟨cl, g12⟩, ⟨tu, g13, b13⟩, ⟨im, g14⟩, ⟨te, g15, b15⟩, ⟨ne, g16⟩, ⟨la, g17⟩, ⟨hn, g18⟩, ⟨hl, g19⟩, ⟨tp, g20⟩, ⟨gr, g21, b21⟩, ⟨it, g22⟩⟩, gf⟩ := id hq
  refine rl_Met.of (by decide +kernel) (Nat.le_of_ble_eq_true rfl) ?_
  intro X hC hB
  have loop : ∀ (mm i : Nat), i + mm = 12 → rl_G X (rl_e D ids H0) 10 [some (.ref m), some (.int (nI t)), some (.long x), none, some (.int (nI (1280 + t))), some (.int (nI i))] [] h n 0 0 := by
    intro mm
    induction mm with
    | zero =>
      intro i hm
      refine o_iload hC dX8_first_10 (by rfl) ?_
      refine o_aload_n hC dX8_first_12 (by rfl) ?_
      refine o_getf hC (fX8_53 hC rfl) dX8_first_13 (by repeat (first | with_reducible assumption | (rw [rl_u_s]; done) | (rw [rl_u_s]; rfl) | rw [rl_u_n (by first | with_reducible assumption | omega)])) (by first | rfl | with_reducible assumption) ?_
      refine o_iload hC dX8_first_16 (by rfl) ?_
      obtain ⟨t18, ht18, et18⟩ := b15 (1280 + t) (by omega)
      refine o_ialdN (t0 := 0) (k := (1280 + t)) hC rfl dX8_first_18 (by repeat (first | with_reducible assumption | (rw [rl_u_s]; done) | (rw [rl_u_s]; rfl) | rw [rl_u_n (by first | with_reducible assumption | omega)])) (by omega) (by decide) ?_
      rw [et18]
      refine o_icmp_ge (tgt := 75) hC dX8_first_19 (by decide) (fun c_19 => ?_) (fun c_19 => ?_)
      · refine o_iconst (v := (-1 : Int32)) hC dX8_first_75 (by decide +kernel) ?_
        refine o_iret hC hB dX8_first_76 (Nat.le_of_ble_eq_true rfl) (Nat.le_of_ble_eq_true rfl) ?_
        exact ⟨_, rfl, rfl, rfl⟩
      · exact absurd (nI_le (by omega) (by omega)) c_19
    | succ mm ih =>
      intro i hm
      refine o_iload hC dX8_first_10 (by rfl) ?_
      refine o_aload_n hC dX8_first_12 (by rfl) ?_
      refine o_getf hC (fX8_53 hC rfl) dX8_first_13 (by repeat (first | with_reducible assumption | (rw [rl_u_s]; done) | (rw [rl_u_s]; rfl) | rw [rl_u_n (by first | with_reducible assumption | omega)])) (by first | rfl | with_reducible assumption) ?_
      refine o_iload hC dX8_first_16 (by rfl) ?_
      obtain ⟨t18, ht18, et18⟩ := b15 (1280 + t) (by omega)
      refine o_ialdN (t0 := 0) (k := (1280 + t)) hC rfl dX8_first_18 (by repeat (first | with_reducible assumption | (rw [rl_u_s]; done) | (rw [rl_u_s]; rfl) | rw [rl_u_n (by first | with_reducible assumption | omega)])) (by omega) (by decide) ?_
      rw [et18]
      refine o_icmp_ge (tgt := 75) hC dX8_first_19 (by decide) (fun c_19 => ?_) (fun c_19 => ?_)
      · refine o_iconst (v := (-1 : Int32)) hC dX8_first_75 (by decide +kernel) ?_
        refine o_iret hC hB dX8_first_76 (Nat.le_of_ble_eq_true rfl) (Nat.le_of_ble_eq_true rfl) ?_
        exact ⟨_, rfl, rfl, rfl⟩
      · refine o_aload_n hC dX8_first_22 (by rfl) ?_
        refine o_getf hC (fX8_56 hC rfl) dX8_first_23 (by repeat (first | with_reducible assumption | (rw [rl_u_s]; done) | (rw [rl_u_s]; rfl) | rw [rl_u_n (by first | with_reducible assumption | omega)])) (by first | rfl | with_reducible assumption) ?_
        refine o_bipush (v := nI 12) hC dX8_first_26 (by decide +kernel) ?_
        refine o_iload hC dX8_first_28 (by rfl) ?_
        refine o_imul hC dX8_first_30 ?_
        try rw [nI_mul]
        refine o_iload hC dX8_first_31 (by rfl) ?_
        refine o_iadd hC dX8_first_33 ?_
        try rw [nI_add]
        refine o_laldN (t0 := 1) hC rfl dX8_first_34 (by repeat (first | with_reducible assumption | (rw [rl_u_s]; done) | (rw [rl_u_s]; rfl) | rw [rl_u_n (by first | with_reducible assumption | omega)])) (by omega) (by decide) ?_
        refine o_lload_n hC dX8_first_35 (by rfl) ?_
        refine o_ldc2 hC nX8_85 dX8_first_36 ?_
        refine o_lxor hC dX8_first_39 ?_
        refine o_land hC dX8_first_40 ?_
        refine o_lconst (v := 0) hC dX8_first_41 (by decide +kernel) ?_
        refine o_lcmp hC dX8_first_42 ?_
        refine o_if_ne (tgt := 69) hC dX8_first_43 (by decide) (fun c_43 => ?_) (fun c_43 => ?_)
        · refine o_iinc hC dX8_first_69 (by rfl) (rl_inc _) (Nat.le_of_ble_eq_true rfl) ?_
          refine o_goto (tgt := 10) hC dX8_first_72 (by decide) ?_
          exact ih (i + 1) (by omega)
        · refine o_aload_n hC dX8_first_46 (by rfl) ?_
          refine o_getf hC (fX8_60 hC rfl) dX8_first_47 (by repeat (first | with_reducible assumption | (rw [rl_u_s]; done) | (rw [rl_u_s]; rfl) | rw [rl_u_n (by first | with_reducible assumption | omega)])) (by first | rfl | with_reducible assumption) ?_
          refine o_bipush (v := nI 12) hC dX8_first_50 (by decide +kernel) ?_
          refine o_iload hC dX8_first_52 (by rfl) ?_
          refine o_imul hC dX8_first_54 ?_
          try rw [nI_mul]
          refine o_iload hC dX8_first_55 (by rfl) ?_
          refine o_iadd hC dX8_first_57 ?_
          try rw [nI_add]
          refine o_laldN (t0 := 1) hC rfl dX8_first_58 (by repeat (first | with_reducible assumption | (rw [rl_u_s]; done) | (rw [rl_u_s]; rfl) | rw [rl_u_n (by first | with_reducible assumption | omega)])) (by omega) (by decide) ?_
          refine o_lload_n hC dX8_first_59 (by rfl) ?_
          refine o_land hC dX8_first_60 ?_
          refine o_lconst (v := 0) hC dX8_first_61 (by decide +kernel) ?_
          refine o_lcmp hC dX8_first_62 ?_
          refine o_if_ne (tgt := 69) hC dX8_first_63 (by decide) (fun c_63 => ?_) (fun c_63 => ?_)
          · refine o_iinc hC dX8_first_69 (by rfl) (rl_inc _) (Nat.le_of_ble_eq_true rfl) ?_
            refine o_goto (tgt := 10) hC dX8_first_72 (by decide) ?_
            exact ih (i + 1) (by omega)
          · refine o_iload hC dX8_first_66 (by rfl) ?_
            refine o_iret hC hB dX8_first_68 (Nat.le_of_ble_eq_true rfl) (Nat.le_of_ble_eq_true rfl) ?_
            exact ⟨_, rfl, rfl, rfl⟩
  show rl_G X (rl_e D ids H0) 0 [some (.ref m), some (.int (nI t)), some (.long x), none, none, none] [] h n 0 0
  refine o_sipush (v := nI 1280) hC dX8_first_0 (by decide +kernel) ?_
  refine o_iload_n hC dX8_first_3 (by rfl) ?_
  refine o_iadd hC dX8_first_4 ?_
  try rw [nI_add]
  refine o_istore hC dX8_first_5 (Nat.le_of_ble_eq_true rfl) ?_
  refine o_iconst (v := nI 0) hC dX8_first_7 (by decide +kernel) ?_
  refine o_istore hC dX8_first_8 (Nat.le_of_ble_eq_true rfl) ?_
  exact loop 12 0 (by omega)

set_option maxHeartbeats 4000000 in
set_option maxRecDepth 100000 in
theorem cm_X8_isSo (l : Launch) (D : va_G) (ids : Nat → ClassId) (H0 : Heap) (h : rl_H) (n : Nat) (m : Nat) (T : md_T) (fu : Int32) (k : Nat) (t : Nat) (x : Int64) (hq : mq ids h h m T fu k) (ht : t < 80) : rl_Met l (rl_e D ids H0) rl_BW rl_Ns yX8_isSo cX8_isSo 4 (some .boolean) ({ frames := 1, cells := 0, slots := 0, locals := 25 }) [.ref m, .int (nI t), .long x] h n (fun v h' n' => ∃ r : Int32, v = some (.int r) ∧ h' = h ∧ n' = n) := by
  obtain ⟨g0, gk, ⟨⟨cl, g12⟩, ⟨tu, g13, b13⟩, ⟨im, g14⟩, ⟨te, g15, b15⟩, ⟨ne, g16⟩, ⟨la, g17⟩, ⟨hn, g18⟩, ⟨hl, g19⟩, ⟨tp, g20⟩, ⟨gr, g21, b21⟩, ⟨it, g22⟩⟩, gf⟩ := id hq
  refine rl_Met.of (by decide +kernel) (Nat.le_of_ble_eq_true rfl) ?_
  intro X hC hB
  show rl_G X (rl_e D ids H0) 0 [some (.ref m), some (.int (nI t)), some (.long x), none] [] h n 0 0
  refine o_aload_n hC dX8_isSo_0 (by rfl) ?_
  refine o_iload_n hC dX8_isSo_1 (by rfl) ?_
  refine o_lload_n hC dX8_isSo_2 (by rfl) ?_
  refine o_callV2 hC rl_BW_good rl_Ns_nw (by exact hB.2.2.2.2.2) YX8_first IX8_first VX8_first (mX8_202 hC) (by rw [hB.1]; exact cm_X8_first l D ids H0 _ _ m T _ _ t x hq ht) (by exact g0) rfl rfl (Nat.le_of_ble_eq_true rfl) (by rw [hB.2.1]; first | exact Nat.le_of_ble_eq_true rfl | (dsimp only; omega)) (by rw [hB.2.1]; first | exact Nat.le_of_ble_eq_true rfl | (dsimp only; omega)) (by rw [hB.2.1]; first | exact Nat.le_of_ble_eq_true rfl | (dsimp only; omega)) (by rw [hB.2.1]; first | exact Nat.le_of_ble_eq_true rfl | (dsimp only; omega)) dX8_isSo_3 (fun v h_3 n_3 p_3 => ?_)
  obtain ⟨r3, rfl, rfl, rfl⟩ := p_3
  try dsimp only [Option.toList, List.cons_append, List.nil_append]
  refine o_iconst (v := (-1 : Int32)) hC dX8_isSo_6 (by decide +kernel) ?_
  refine o_icmp_eq (tgt := 14) hC dX8_isSo_7 (by decide) (fun c_7 => ?_) (fun c_7 => ?_)
  · refine o_iconst (v := nI 0) hC dX8_isSo_14 (by decide +kernel) ?_
    refine o_zret hC hB dX8_isSo_15 (by first | rfl | decide +kernel) (Nat.le_of_ble_eq_true rfl) (Nat.le_of_ble_eq_true rfl) ?_
    exact ⟨_, rfl, rfl, rfl⟩
  · refine o_iconst (v := nI 1) hC dX8_isSo_10 (by decide +kernel) ?_
    refine o_goto (tgt := 15) hC dX8_isSo_11 (by decide) ?_
    refine o_zret hC hB dX8_isSo_15 (by first | rfl | decide +kernel) (Nat.le_of_ble_eq_true rfl) (Nat.le_of_ble_eq_true rfl) ?_
    exact ⟨_, rfl, rfl, rfl⟩

set_option maxHeartbeats 4000000 in
set_option maxRecDepth 100000 in
theorem cm_X8_stand (l : Launch) (D : va_G) (ids : Nat → ClassId) (H0 : Heap) (h : rl_H) (n : Nat) (m : Nat) (T : md_T) (fu : Int32) (k : Nat) (t rr : Nat) (hq : mq ids h h m T fu k) (ht : t < 80) (hrr : T.2.2.1 = nI rr) (hr36 : rr ≤ 36) : rl_Met l (rl_e D ids H0) rl_BW rl_Ns yX8_stand cX8_stand 6 (some .boolean) ({ frames := 0, cells := 0, slots := 0, locals := 0 }) [.ref m, .int (nI t)] h n (fun v h' n' => ∃ (r : Int32) (ic : Nat), v = some (.int r) ∧ n' = n ∧ ic ≤ 36 ∧ (r = nI 0 ∨ (r = nI 1 ∧ ic ≤ 16)) ∧ mq ids h h' m (T.1, T.2.1, T.2.2.1, T.2.2.2.1, T.2.2.2.2.1, T.2.2.2.2.2.1, nI ic) fu k ∧ ∀ q : Nat, m + 12 ≤ q → q < m + 22 → h' q = h q) := by
  obtain ⟨g0, gk, ⟨⟨cl, g12⟩, ⟨tu, g13, b13⟩, ⟨im, g14⟩, ⟨te, g15, b15⟩, ⟨ne, g16⟩, ⟨la, g17⟩, ⟨hn, g18⟩, ⟨hl, g19⟩, ⟨tp, g20⟩, ⟨gr, g21, b21⟩, ⟨it, g22⟩⟩, gf⟩ := id hq
  refine rl_Met.of (by decide +kernel) (Nat.le_of_ble_eq_true rfl) ?_
  intro X hC hB
  have loop2 : ∀ (mm i ic : Nat) (h1 : rl_H) (al : Int64), i + mm = rr → ic ≤ i → mq ids h h1 m (T.1, T.2.1, T.2.2.1, T.2.2.2.1, T.2.2.2.2.1, T.2.2.2.2.2.1, nI ic) fu k → (∀ q : Nat, m + 12 ≤ q → q < m + 22 → h1 q = h q) → rl_G X (rl_e D ids H0) 68 [some (.ref m), some (.int (nI t)), some (.long al), none, some (.int (nI (1280 + t))), some (.int (nI i))] [] h1 n 0 0 := by
    intro mm
    induction mm with
    | zero =>
      intro i ic h1 al hm hi hq1 hdd
      obtain ⟨g0, gk, ⟨⟨cl, g12⟩, ⟨tu, g13, b13⟩, ⟨im, g14⟩, ⟨te, g15, b15⟩, ⟨ne, g16⟩, ⟨la, g17⟩, ⟨hn, g18⟩, ⟨hl, g19⟩, ⟨tp, g20⟩, ⟨gr, g21, b21⟩, ⟨it, g22⟩⟩, gf⟩ := id hq1
      refine o_iload hC dX8_stand_68 (by rfl) ?_
      refine o_aload_n hC dX8_stand_70 (by rfl) ?_
      refine o_getf hC (fX8_112 hC rfl) dX8_stand_71 (by repeat (first | with_reducible assumption | (rw [rl_u_s]; done) | (rw [rl_u_s]; rfl) | rw [rl_u_n (by first | with_reducible assumption | omega)])) (by first | rfl | with_reducible assumption) ?_
      rw [hrr]
      refine o_icmp_ge (tgt := 115) hC dX8_stand_74 (by decide) (fun c_74 => ?_) (fun c_74 => ?_)
      · refine o_aload_n hC dX8_stand_115 (by rfl) ?_
        refine o_getf hC (fX8_210 hC rfl) dX8_stand_116 (by repeat (first | with_reducible assumption | (rw [rl_u_s]; done) | (rw [rl_u_s]; rfl) | rw [rl_u_n (by first | with_reducible assumption | omega)])) (by first | rfl | with_reducible assumption) ?_
        refine o_bipush (v := nI 16) hC dX8_stand_119 (by decide +kernel) ?_
        refine o_icmp_gt (tgt := 128) hC dX8_stand_121 (by decide) (fun c_121 => ?_) (fun c_121 => ?_)
        · refine o_iconst (v := nI 0) hC dX8_stand_128 (by decide +kernel) ?_
          refine o_zret hC hB dX8_stand_129 (by first | rfl | decide +kernel) (Nat.le_of_ble_eq_true rfl) (Nat.le_of_ble_eq_true rfl) ?_
          first
          | exact ⟨_, ic, rfl, rfl, by omega, Or.inl rfl, hq1, hdd⟩
          | exact ⟨_, ic, rfl, rfl, by omega, Or.inr ⟨rfl, (nI_leI (by omega) (by decide)).mp (Int32.not_lt.mp c_121)⟩, hq1, hdd⟩
        · refine o_iconst (v := nI 1) hC dX8_stand_124 (by decide +kernel) ?_
          refine o_goto (tgt := 129) hC dX8_stand_125 (by decide) ?_
          refine o_zret hC hB dX8_stand_129 (by first | rfl | decide +kernel) (Nat.le_of_ble_eq_true rfl) (Nat.le_of_ble_eq_true rfl) ?_
          first
          | exact ⟨_, ic, rfl, rfl, by omega, Or.inl rfl, hq1, hdd⟩
          | exact ⟨_, ic, rfl, rfl, by omega, Or.inr ⟨rfl, (nI_leI (by omega) (by decide)).mp (Int32.not_lt.mp c_121)⟩, hq1, hdd⟩
      · exact absurd (nI_le (by omega) (by omega)) c_74
    | succ mm ih =>
      intro i ic h1 al hm hi hq1 hdd
      obtain ⟨g0, gk, ⟨⟨cl, g12⟩, ⟨tu, g13, b13⟩, ⟨im, g14⟩, ⟨te, g15, b15⟩, ⟨ne, g16⟩, ⟨la, g17⟩, ⟨hn, g18⟩, ⟨hl, g19⟩, ⟨tp, g20⟩, ⟨gr, g21, b21⟩, ⟨it, g22⟩⟩, gf⟩ := id hq1
      refine o_iload hC dX8_stand_68 (by rfl) ?_
      refine o_aload_n hC dX8_stand_70 (by rfl) ?_
      refine o_getf hC (fX8_112 hC rfl) dX8_stand_71 (by repeat (first | with_reducible assumption | (rw [rl_u_s]; done) | (rw [rl_u_s]; rfl) | rw [rl_u_n (by first | with_reducible assumption | omega)])) (by first | rfl | with_reducible assumption) ?_
      rw [hrr]
      refine o_icmp_ge (tgt := 115) hC dX8_stand_74 (by decide) (fun c_74 => ?_) (fun c_74 => ?_)
      · exact absurd c_74 (nI_ge (by omega) (by omega))
      · refine o_lload_n hC dX8_stand_77 (by rfl) ?_
        refine o_iload hC dX8_stand_78 (by rfl) ?_
        refine o_lshr hC dX8_stand_80 ?_
        refine o_lconst (v := 1) hC dX8_stand_81 (by decide +kernel) ?_
        refine o_land hC dX8_stand_82 ?_
        refine o_lconst (v := 1) hC dX8_stand_83 (by decide +kernel) ?_
        refine o_lcmp hC dX8_stand_84 ?_
        refine o_if_ne (tgt := 109) hC dX8_stand_85 (by decide) (fun c_85 => ?_) (fun c_85 => ?_)
        · refine o_iinc hC dX8_stand_109 (by rfl) (rl_inc _) (Nat.le_of_ble_eq_true rfl) ?_
          refine o_goto (tgt := 68) hC dX8_stand_112 (by decide) ?_
          first
          | exact ih (i + 1) (ic + 1) _ _ (by omega) (by omega) ((hq1.s22 _).ob (T.1, T.2.1, T.2.2.1, T.2.2.2.1, T.2.2.2.2.1, T.2.2.2.2.2.1, nI (ic + 1)) fu k gk) (fun q a b => (rl_u_n (by omega)).trans ((rl_u_n (by omega)).trans (hdd q a b)))
          | exact ih (i + 1) ic _ _ (by omega) (by omega) hq1 hdd
        · refine o_aload_n hC dX8_stand_88 (by rfl) ?_
          refine o_getf hC (fX8_75 hC rfl) dX8_stand_89 (by repeat (first | with_reducible assumption | (rw [rl_u_s]; done) | (rw [rl_u_s]; rfl) | rw [rl_u_n (by first | with_reducible assumption | omega)])) (by first | rfl | with_reducible assumption) ?_
          refine o_aload_n hC dX8_stand_92 (by rfl) ?_
          refine o_getf hC (fX8_210 hC rfl) dX8_stand_93 (by repeat (first | with_reducible assumption | (rw [rl_u_s]; done) | (rw [rl_u_s]; rfl) | rw [rl_u_n (by first | with_reducible assumption | omega)])) (by first | rfl | with_reducible assumption) ?_
          refine o_iload hC dX8_stand_96 (by rfl) ?_
          refine o_iastN (t0 := 0) hC rfl dX8_stand_98 (by repeat (first | with_reducible assumption | (rw [rl_u_s]; done) | (rw [rl_u_s]; rfl) | rw [rl_u_n (by first | with_reducible assumption | omega)])) (by omega) (by decide) ?_
          refine o_aload_n hC dX8_stand_99 (by rfl) ?_
          refine o_dup hC dX8_stand_100 rfl ?_
          refine o_getf hC (fX8_210 hC rfl) dX8_stand_101 (by repeat (first | with_reducible assumption | (rw [rl_u_s]; done) | (rw [rl_u_s]; rfl) | rw [rl_u_n (by first | with_reducible assumption | omega)])) (by first | rfl | with_reducible assumption) ?_
          refine o_iconst (v := nI 1) hC dX8_stand_104 (by decide +kernel) ?_
          refine o_iadd hC dX8_stand_105 ?_
          try rw [nI_add]
          refine o_putf hC (fX8_210 hC rfl) (fwX8 rfl rfl rfl (Or.inl rfl)) dX8_stand_106 (by repeat (first | with_reducible assumption | (rw [rl_u_s]; done) | (rw [rl_u_s]; rfl) | rw [rl_u_n (by first | with_reducible assumption | omega)])) (Nat.le_of_ble_eq_true rfl) ?_
          try simp only [List.set_cons_zero, List.set_cons_succ]
          refine o_iinc hC dX8_stand_109 (by rfl) (rl_inc _) (Nat.le_of_ble_eq_true rfl) ?_
          refine o_goto (tgt := 68) hC dX8_stand_112 (by decide) ?_
          first
          | exact ih (i + 1) (ic + 1) _ _ (by omega) (by omega) ((hq1.s22 _).ob (T.1, T.2.1, T.2.2.1, T.2.2.2.1, T.2.2.2.2.1, T.2.2.2.2.2.1, nI (ic + 1)) fu k gk) (fun q a b => (rl_u_n (by omega)).trans ((rl_u_n (by omega)).trans (hdd q a b)))
          | exact ih (i + 1) ic _ _ (by omega) (by omega) hq1 hdd
  have loop1 : ∀ (mm i : Nat) (al : Int64), i + mm = 12 → rl_G X (rl_e D ids H0) 12 [some (.ref m), some (.int (nI t)), some (.long al), none, some (.int (nI (1280 + t))), some (.int (nI i))] [] h n 0 0 := by
    intro mm
    induction mm with
    | zero =>
      intro i al hm
      refine o_iload hC dX8_stand_12 (by rfl) ?_
      refine o_aload_n hC dX8_stand_14 (by rfl) ?_
      refine o_getf hC (fX8_53 hC rfl) dX8_stand_15 (by repeat (first | with_reducible assumption | (rw [rl_u_s]; done) | (rw [rl_u_s]; rfl) | rw [rl_u_n (by first | with_reducible assumption | omega)])) (by first | rfl | with_reducible assumption) ?_
      refine o_iload hC dX8_stand_18 (by rfl) ?_
      obtain ⟨t20, ht20, et20⟩ := b15 (1280 + t) (by omega)
      refine o_ialdN (t0 := 0) (k := (1280 + t)) hC rfl dX8_stand_20 (by repeat (first | with_reducible assumption | (rw [rl_u_s]; done) | (rw [rl_u_s]; rfl) | rw [rl_u_n (by first | with_reducible assumption | omega)])) (by omega) (by decide) ?_
      rw [et20]
      refine o_icmp_ge (tgt := 60) hC dX8_stand_21 (by decide) (fun c_21 => ?_) (fun c_21 => ?_)
      · refine o_aload_n hC dX8_stand_60 (by rfl) ?_
        refine o_iconst (v := nI 0) hC dX8_stand_61 (by decide +kernel) ?_
        refine o_putf hC (fX8_210 hC rfl) (fwX8 rfl rfl rfl (Or.inl rfl)) dX8_stand_62 (by repeat (first | with_reducible assumption | (rw [rl_u_s]; done) | (rw [rl_u_s]; rfl) | rw [rl_u_n (by first | with_reducible assumption | omega)])) (Nat.le_of_ble_eq_true rfl) ?_
        try simp only [List.set_cons_zero, List.set_cons_succ]
        refine o_iconst (v := nI 0) hC dX8_stand_65 (by decide +kernel) ?_
        refine o_istore hC dX8_stand_66 (Nat.le_of_ble_eq_true rfl) ?_
        exact loop2 rr 0 0 _ _ (by omega) (by omega) (hq.ob (T.1, T.2.1, T.2.2.1, T.2.2.2.1, T.2.2.2.2.1, T.2.2.2.2.2.1, nI 0) fu k gk) (fun q a b => rl_u_n (by omega))
      · exact absurd (nI_le (by omega) (by omega)) c_21
    | succ mm ih =>
      intro i al hm
      refine o_iload hC dX8_stand_12 (by rfl) ?_
      refine o_aload_n hC dX8_stand_14 (by rfl) ?_
      refine o_getf hC (fX8_53 hC rfl) dX8_stand_15 (by repeat (first | with_reducible assumption | (rw [rl_u_s]; done) | (rw [rl_u_s]; rfl) | rw [rl_u_n (by first | with_reducible assumption | omega)])) (by first | rfl | with_reducible assumption) ?_
      refine o_iload hC dX8_stand_18 (by rfl) ?_
      obtain ⟨t20, ht20, et20⟩ := b15 (1280 + t) (by omega)
      refine o_ialdN (t0 := 0) (k := (1280 + t)) hC rfl dX8_stand_20 (by repeat (first | with_reducible assumption | (rw [rl_u_s]; done) | (rw [rl_u_s]; rfl) | rw [rl_u_n (by first | with_reducible assumption | omega)])) (by omega) (by decide) ?_
      rw [et20]
      refine o_icmp_ge (tgt := 60) hC dX8_stand_21 (by decide) (fun c_21 => ?_) (fun c_21 => ?_)
      · refine o_aload_n hC dX8_stand_60 (by rfl) ?_
        refine o_iconst (v := nI 0) hC dX8_stand_61 (by decide +kernel) ?_
        refine o_putf hC (fX8_210 hC rfl) (fwX8 rfl rfl rfl (Or.inl rfl)) dX8_stand_62 (by repeat (first | with_reducible assumption | (rw [rl_u_s]; done) | (rw [rl_u_s]; rfl) | rw [rl_u_n (by first | with_reducible assumption | omega)])) (Nat.le_of_ble_eq_true rfl) ?_
        try simp only [List.set_cons_zero, List.set_cons_succ]
        refine o_iconst (v := nI 0) hC dX8_stand_65 (by decide +kernel) ?_
        refine o_istore hC dX8_stand_66 (Nat.le_of_ble_eq_true rfl) ?_
        exact loop2 rr 0 0 _ _ (by omega) (by omega) (hq.ob (T.1, T.2.1, T.2.2.1, T.2.2.2.1, T.2.2.2.2.1, T.2.2.2.2.2.1, nI 0) fu k gk) (fun q a b => rl_u_n (by omega))
      · refine o_lload_n hC dX8_stand_24 (by rfl) ?_
        refine o_aload_n hC dX8_stand_25 (by rfl) ?_
        refine o_getf hC (fX8_56 hC rfl) dX8_stand_26 (by repeat (first | with_reducible assumption | (rw [rl_u_s]; done) | (rw [rl_u_s]; rfl) | rw [rl_u_n (by first | with_reducible assumption | omega)])) (by first | rfl | with_reducible assumption) ?_
        refine o_bipush (v := nI 12) hC dX8_stand_29 (by decide +kernel) ?_
        refine o_iload hC dX8_stand_31 (by rfl) ?_
        refine o_imul hC dX8_stand_33 ?_
        try rw [nI_mul]
        refine o_iload hC dX8_stand_34 (by rfl) ?_
        refine o_iadd hC dX8_stand_36 ?_
        try rw [nI_add]
        refine o_laldN (t0 := 1) hC rfl dX8_stand_37 (by repeat (first | with_reducible assumption | (rw [rl_u_s]; done) | (rw [rl_u_s]; rfl) | rw [rl_u_n (by first | with_reducible assumption | omega)])) (by omega) (by decide) ?_
        refine o_aload_n hC dX8_stand_38 (by rfl) ?_
        refine o_getf hC (fX8_60 hC rfl) dX8_stand_39 (by repeat (first | with_reducible assumption | (rw [rl_u_s]; done) | (rw [rl_u_s]; rfl) | rw [rl_u_n (by first | with_reducible assumption | omega)])) (by first | rfl | with_reducible assumption) ?_
        refine o_bipush (v := nI 12) hC dX8_stand_42 (by decide +kernel) ?_
        refine o_iload hC dX8_stand_44 (by rfl) ?_
        refine o_imul hC dX8_stand_46 ?_
        try rw [nI_mul]
        refine o_iload hC dX8_stand_47 (by rfl) ?_
        refine o_iadd hC dX8_stand_49 ?_
        try rw [nI_add]
        refine o_laldN (t0 := 1) hC rfl dX8_stand_50 (by repeat (first | with_reducible assumption | (rw [rl_u_s]; done) | (rw [rl_u_s]; rfl) | rw [rl_u_n (by first | with_reducible assumption | omega)])) (by omega) (by decide) ?_
        refine o_lor hC dX8_stand_51 ?_
        refine o_lor hC dX8_stand_52 ?_
        refine o_lstore_n hC dX8_stand_53 (Nat.le_of_ble_eq_true rfl) ?_
        refine o_iinc hC dX8_stand_54 (by rfl) (rl_inc _) (Nat.le_of_ble_eq_true rfl) ?_
        refine o_goto (tgt := 12) hC dX8_stand_57 (by decide) ?_
        exact ih (i + 1) _ (by omega)
  show rl_G X (rl_e D ids H0) 0 [some (.ref m), some (.int (nI t)), none, none, none, none] [] h n 0 0
  refine o_lconst (v := 0) hC dX8_stand_0 (by decide +kernel) ?_
  refine o_lstore_n hC dX8_stand_1 (Nat.le_of_ble_eq_true rfl) ?_
  refine o_sipush (v := nI 1280) hC dX8_stand_2 (by decide +kernel) ?_
  refine o_iload_n hC dX8_stand_5 (by rfl) ?_
  refine o_iadd hC dX8_stand_6 ?_
  try rw [nI_add]
  refine o_istore hC dX8_stand_7 (Nat.le_of_ble_eq_true rfl) ?_
  refine o_iconst (v := nI 0) hC dX8_stand_9 (by decide +kernel) ?_
  refine o_istore hC dX8_stand_10 (Nat.le_of_ble_eq_true rfl) ?_
  exact loop1 12 0 _ (by omega)

set_option maxHeartbeats 4000000 in
set_option maxRecDepth 100000 in
theorem cm_X8_rowsOf (l : Launch) (D : va_G) (ids : Nat → ClassId) (H0 : Heap) (h : rl_H) (n : Nat) (m : Nat) (T : md_T) (fu : Int32) (k : Nat) (im_ : Nat) (q : Int32) (hq : mq ids h h m T fu k) (him : T.2.2.2.2.2.2 = nI im_) (h36 : im_ ≤ 36) : rl_Met l (rl_e D ids H0) rl_BW rl_Ns yX8_rowsOf cX8_rowsOf 5 (some .long) ({ frames := 0, cells := 0, slots := 0, locals := 0 }) [.ref m, .int q] h n (fun v h' n' => ∃ r : Int64, v = some (.long r) ∧ h' = h ∧ n' = n) := by
  obtain ⟨g0, gk, ⟨⟨cl, g12⟩, ⟨tu, g13, b13⟩, ⟨im, g14⟩, ⟨te, g15, b15⟩, ⟨ne, g16⟩, ⟨la, g17⟩, ⟨hn, g18⟩, ⟨hl, g19⟩, ⟨tp, g20⟩, ⟨gr, g21, b21⟩, ⟨it, g22⟩⟩, gf⟩ := id hq
  refine rl_Met.of (by decide +kernel) (Nat.le_of_ble_eq_true rfl) ?_
  intro X hC hB
  have loop : ∀ (mm i : Nat) (al : Int64), i + mm = im_ → rl_G X (rl_e D ids H0) 5 [some (.ref m), some (.int q), some (.long al), none, some (.int (nI i))] [] h n 0 0 := by
    intro mm
    induction mm with
    | zero =>
      intro i al hm
      refine o_iload hC dX8_rowsOf_5 (by rfl) ?_
      refine o_aload_n hC dX8_rowsOf_7 (by rfl) ?_
      refine o_getf hC (fX8_210 hC rfl) dX8_rowsOf_8 (by repeat (first | with_reducible assumption | (rw [rl_u_s]; done) | (rw [rl_u_s]; rfl) | rw [rl_u_n (by first | with_reducible assumption | omega)])) (by first | rfl | with_reducible assumption) ?_
      rw [him]
      refine o_icmp_ge (tgt := 46) hC dX8_rowsOf_11 (by decide) (fun c_11 => ?_) (fun c_11 => ?_)
      · refine o_lload_n hC dX8_rowsOf_46 (by rfl) ?_
        refine o_lret hC hB dX8_rowsOf_47 (Nat.le_of_ble_eq_true rfl) (Nat.le_of_ble_eq_true rfl) ?_
        exact ⟨_, rfl, rfl, rfl⟩
      · exact absurd (nI_le (by omega) (by omega)) c_11
    | succ mm ih =>
      intro i al hm
      refine o_iload hC dX8_rowsOf_5 (by rfl) ?_
      refine o_aload_n hC dX8_rowsOf_7 (by rfl) ?_
      refine o_getf hC (fX8_210 hC rfl) dX8_rowsOf_8 (by repeat (first | with_reducible assumption | (rw [rl_u_s]; done) | (rw [rl_u_s]; rfl) | rw [rl_u_n (by first | with_reducible assumption | omega)])) (by first | rfl | with_reducible assumption) ?_
      rw [him]
      refine o_icmp_ge (tgt := 46) hC dX8_rowsOf_11 (by decide) (fun c_11 => ?_) (fun c_11 => ?_)
      · exact absurd c_11 (nI_ge (by omega) (by omega))
      · refine o_lload_n hC dX8_rowsOf_14 (by rfl) ?_
        refine o_iload_n hC dX8_rowsOf_15 (by rfl) ?_
        refine o_iload hC dX8_rowsOf_16 (by rfl) ?_
        refine o_ishr hC dX8_rowsOf_18 ?_
        refine o_iconst (v := nI 1) hC dX8_rowsOf_19 (by decide +kernel) ?_
        refine o_iand hC dX8_rowsOf_20 ?_
        refine o_iconst (v := nI 1) hC dX8_rowsOf_21 (by decide +kernel) ?_
        refine o_icmp_ne (tgt := 37) hC dX8_rowsOf_22 (by decide) (fun c_22 => ?_) (fun c_22 => ?_)
        · refine o_lconst (v := 0) hC dX8_rowsOf_37 (by decide +kernel) ?_
          refine o_lor hC dX8_rowsOf_38 ?_
          refine o_lstore_n hC dX8_rowsOf_39 (Nat.le_of_ble_eq_true rfl) ?_
          refine o_iinc hC dX8_rowsOf_40 (by rfl) (rl_inc _) (Nat.le_of_ble_eq_true rfl) ?_
          refine o_goto (tgt := 5) hC dX8_rowsOf_43 (by decide) ?_
          exact ih (i + 1) _ (by omega)
        · refine o_lconst (v := 1) hC dX8_rowsOf_25 (by decide +kernel) ?_
          refine o_aload_n hC dX8_rowsOf_26 (by rfl) ?_
          refine o_getf hC (fX8_75 hC rfl) dX8_rowsOf_27 (by repeat (first | with_reducible assumption | (rw [rl_u_s]; done) | (rw [rl_u_s]; rfl) | rw [rl_u_n (by first | with_reducible assumption | omega)])) (by first | rfl | with_reducible assumption) ?_
          refine o_iload hC dX8_rowsOf_30 (by rfl) ?_
          refine o_ialdN (t0 := 0) hC rfl dX8_rowsOf_32 (by repeat (first | with_reducible assumption | (rw [rl_u_s]; done) | (rw [rl_u_s]; rfl) | rw [rl_u_n (by first | with_reducible assumption | omega)])) (by omega) (by decide) ?_
          refine o_lshl hC dX8_rowsOf_33 ?_
          refine o_goto (tgt := 38) hC dX8_rowsOf_34 (by decide) ?_
          refine o_lor hC dX8_rowsOf_38 ?_
          refine o_lstore_n hC dX8_rowsOf_39 (Nat.le_of_ble_eq_true rfl) ?_
          refine o_iinc hC dX8_rowsOf_40 (by rfl) (rl_inc _) (Nat.le_of_ble_eq_true rfl) ?_
          refine o_goto (tgt := 5) hC dX8_rowsOf_43 (by decide) ?_
          exact ih (i + 1) _ (by omega)
  show rl_G X (rl_e D ids H0) 0 [some (.ref m), some (.int q), none, none, none] [] h n 0 0
  refine o_lconst (v := 0) hC dX8_rowsOf_0 (by decide +kernel) ?_
  refine o_lstore_n hC dX8_rowsOf_1 (Nat.le_of_ble_eq_true rfl) ?_
  refine o_iconst (v := nI 0) hC dX8_rowsOf_2 (by decide +kernel) ?_
  refine o_istore hC dX8_rowsOf_3 (Nat.le_of_ble_eq_true rfl) ?_
  exact loop im_ 0 _ (by omega)

set_option maxHeartbeats 4000000 in
set_option maxRecDepth 100000 in
theorem cm_X8_ones (l : Launch) (D : va_G) (ids : Nat → ClassId) (H0 : Heap) (h : rl_H) (n : Nat) (x : Int64)  : rl_Met l (rl_e D ids H0) rl_BW rl_Ns yX8_ones cX8_ones 4 (some .int) ({ frames := 0, cells := 0, slots := 0, locals := 0 }) [.long x] h n (fun v h' n' => ∃ r : Int32, v = some (.int r) ∧ h' = h ∧ n' = n) := by
  refine rl_Met.of (by decide +kernel) (Nat.le_of_ble_eq_true rfl) ?_
  intro X hC hB
  have loop : ∀ (mm i : Nat) (c : Int32), i + mm = 36 → rl_G X (rl_e D ids H0) 4 [some (.long x), none, some (.int c), some (.int (nI i))] [] h n 0 0 := by
    intro mm
    induction mm with
    | zero =>
      intro i c hm
      refine o_iload_n hC dX8_ones_4 (by rfl) ?_
      refine o_bipush (v := nI 36) hC dX8_ones_5 (by decide +kernel) ?_
      refine o_icmp_ge (tgt := 34) hC dX8_ones_7 (by decide) (fun c_7 => ?_) (fun c_7 => ?_)
      · refine o_iload_n hC dX8_ones_34 (by rfl) ?_
        refine o_iret hC hB dX8_ones_35 (Nat.le_of_ble_eq_true rfl) (Nat.le_of_ble_eq_true rfl) ?_
        exact ⟨_, rfl, rfl, rfl⟩
      · exact absurd (nI_le (by omega) (by omega)) c_7
    | succ mm ih =>
      intro i c hm
      refine o_iload_n hC dX8_ones_4 (by rfl) ?_
      refine o_bipush (v := nI 36) hC dX8_ones_5 (by decide +kernel) ?_
      refine o_icmp_ge (tgt := 34) hC dX8_ones_7 (by decide) (fun c_7 => ?_) (fun c_7 => ?_)
      · exact absurd c_7 (nI_ge (by omega) (by omega))
      · refine o_iload_n hC dX8_ones_10 (by rfl) ?_
        refine o_lload_n hC dX8_ones_11 (by rfl) ?_
        refine o_iload_n hC dX8_ones_12 (by rfl) ?_
        refine o_lshr hC dX8_ones_13 ?_
        refine o_lconst (v := 1) hC dX8_ones_14 (by decide +kernel) ?_
        refine o_land hC dX8_ones_15 ?_
        refine o_lconst (v := 1) hC dX8_ones_16 (by decide +kernel) ?_
        refine o_lcmp hC dX8_ones_17 ?_
        refine o_if_ne (tgt := 25) hC dX8_ones_18 (by decide) (fun c_18 => ?_) (fun c_18 => ?_)
        · refine o_iconst (v := nI 0) hC dX8_ones_25 (by decide +kernel) ?_
          refine o_iadd hC dX8_ones_26 ?_
          refine o_istore_n hC dX8_ones_27 (Nat.le_of_ble_eq_true rfl) ?_
          refine o_iinc hC dX8_ones_28 (by rfl) (rl_inc _) (Nat.le_of_ble_eq_true rfl) ?_
          refine o_goto (tgt := 4) hC dX8_ones_31 (by decide) ?_
          exact ih (i + 1) _ (by omega)
        · refine o_iconst (v := nI 1) hC dX8_ones_21 (by decide +kernel) ?_
          refine o_goto (tgt := 26) hC dX8_ones_22 (by decide) ?_
          refine o_iadd hC dX8_ones_26 ?_
          refine o_istore_n hC dX8_ones_27 (Nat.le_of_ble_eq_true rfl) ?_
          refine o_iinc hC dX8_ones_28 (by rfl) (rl_inc _) (Nat.le_of_ble_eq_true rfl) ?_
          refine o_goto (tgt := 4) hC dX8_ones_31 (by decide) ?_
          exact ih (i + 1) _ (by omega)
  show rl_G X (rl_e D ids H0) 0 [some (.long x), none, none, none] [] h n 0 0
  refine o_iconst (v := nI 0) hC dX8_ones_0 (by decide +kernel) ?_
  refine o_istore_n hC dX8_ones_1 (Nat.le_of_ble_eq_true rfl) ?_
  refine o_iconst (v := nI 0) hC dX8_ones_2 (by decide +kernel) ?_
  refine o_istore_n hC dX8_ones_3 (Nat.le_of_ble_eq_true rfl) ?_
  exact loop 36 0 _ (by omega)
