section
/-! THE MODEL: what only looks -/
theorem md_shl16 : ∀ q : Nat, q ≤ 16 → nI 1 <<< (nI q &&& 31) ≤ nI 65536 := by decide +kernel

set_option maxHeartbeats 4000000 in
set_option maxRecDepth 100000 in
theorem cm_X8_first (l : Launch) (D : va_G) (ids : Nat → ClassId) (H0 : Heap) (h : rl_H) (n : Nat) (m : Nat) (T : md_T) (fu : Int32) (k : Nat) (t : Nat) (x : Int64) (hq : mq ids h h m T fu k) (ht : t < 80) : rl_Met l (rl_e D ids H0) rl_BW rl_Ns yX8_first cX8_first 6 (some .int) ({ frames := 0, cells := 0, slots := 0, locals := 0 }) [.ref m, .int (nI t), .long x] h n (fun v h' n' => ∃ r : Int32, v = some (.int r) ∧ h' = h ∧ n' = n) := by
  obtain ⟨g0, gk, ⟨⟨cl, g12⟩, ⟨tu, g13, b13⟩, ⟨im, g14⟩, ⟨te, g15, b15⟩, ⟨ne, g16⟩, ⟨la, g17⟩, ⟨hn, g18⟩, ⟨hl, g19⟩, ⟨tp, g20⟩, ⟨gr, g21, b21⟩, ⟨it, g22⟩⟩, gf⟩ := id hq
  refine rl_Met.of (by decide +kernel) (Nat.le_of_ble_eq_true rfl) ?_
  intro X hC hB
  have loop : ∀ (mm i : Nat), i + mm = 12 → rl_G X (rl_e D ids H0) 10 [some (.ref m), some (.int (nI t)), some (.long x), none, some (.int (nI (1280 + t))), some (.int (nI i))] [] h n 0 0 := by
    intro mm
    induction mm with
    | zero =>
      intro i hm
      refine o_iload hC dX8_first_10 (by rfl) ?_
      refine o_aload_n hC dX8_first_12 (by rfl) ?_
      refine o_getf hC (fX8_53 hC rfl) dX8_first_13 (by repeat (first | with_reducible assumption | (rw [rl_u_s]; done) | (rw [rl_u_s]; rfl) | rw [rl_u_n (by first | with_reducible assumption | omega)])) (by first | rfl | with_reducible assumption) ?_
      refine o_iload hC dX8_first_16 (by rfl) ?_
      obtain ⟨t18, ht18, et18⟩ := b15 (1280 + t) (by omega)
      refine o_ialdN (t0 := 0) (k := (1280 + t)) hC rfl dX8_first_18 (by repeat (first | with_reducible assumption | (rw [rl_u_s]; done) | (rw [rl_u_s]; rfl) | rw [rl_u_n (by first | with_reducible assumption | omega)])) (by omega) (by decide) ?_
      rw [et18]
      refine o_icmp_ge (tgt := 75) hC dX8_first_19 (by decide) (fun c_19 => ?_) (fun c_19 => ?_)
      · refine o_iconst (v := (-1 : Int32)) hC dX8_first_75 (by decide +kernel) ?_
        refine o_iret hC hB dX8_first_76 (Nat.le_of_ble_eq_true rfl) (Nat.le_of_ble_eq_true rfl) ?_
        exact ⟨_, rfl, rfl, rfl⟩
      · exact absurd (nI_le (by omega) (by omega)) c_19
    | succ mm ih =>
      intro i hm
      refine o_iload hC dX8_first_10 (by rfl) ?_
      refine o_aload_n hC dX8_first_12 (by rfl) ?_
      refine o_getf hC (fX8_53 hC rfl) dX8_first_13 (by repeat (first | with_reducible assumption | (rw [rl_u_s]; done) | (rw [rl_u_s]; rfl) | rw [rl_u_n (by first | with_reducible assumption | omega)])) (by first | rfl | with_reducible assumption) ?_
      refine o_iload hC dX8_first_16 (by rfl) ?_
      obtain ⟨t18, ht18, et18⟩ := b15 (1280 + t) (by omega)
      refine o_ialdN (t0 := 0) (k := (1280 + t)) hC rfl dX8_first_18 (by repeat (first | with_reducible assumption | (rw [rl_u_s]; done) | (rw [rl_u_s]; rfl) | rw [rl_u_n (by first | with_reducible assumption | omega)])) (by omega) (by decide) ?_
      rw [et18]
      refine o_icmp_ge (tgt := 75) hC dX8_first_19 (by decide) (fun c_19 => ?_) (fun c_19 => ?_)
      · refine o_iconst (v := (-1 : Int32)) hC dX8_first_75 (by decide +kernel) ?_
        refine o_iret hC hB dX8_first_76 (Nat.le_of_ble_eq_true rfl) (Nat.le_of_ble_eq_true rfl) ?_
        exact ⟨_, rfl, rfl, rfl⟩
      · refine o_aload_n hC dX8_first_22 (by rfl) ?_
        refine o_getf hC (fX8_56 hC rfl) dX8_first_23 (by repeat (first | with_reducible assumption | (rw [rl_u_s]; done) | (rw [rl_u_s]; rfl) | rw [rl_u_n (by first | with_reducible assumption | omega)])) (by first | rfl | with_reducible assumption) ?_
        refine o_bipush (v := nI 12) hC dX8_first_26 (by decide +kernel) ?_
        refine o_iload hC dX8_first_28 (by rfl) ?_
        refine o_imul hC dX8_first_30 ?_
        try rw [nI_mul]
        refine o_iload hC dX8_first_31 (by rfl) ?_
        refine o_iadd hC dX8_first_33 ?_
        try rw [nI_add]
        refine o_laldN (t0 := 1) hC rfl dX8_first_34 (by repeat (first | with_reducible assumption | (rw [rl_u_s]; done) | (rw [rl_u_s]; rfl) | rw [rl_u_n (by first | with_reducible assumption | omega)])) (by omega) (by decide) ?_
        refine o_lload_n hC dX8_first_35 (by rfl) ?_
        refine o_ldc2 hC nX8_85 dX8_first_36 ?_
        refine o_lxor hC dX8_first_39 ?_
        refine o_land hC dX8_first_40 ?_
        refine o_lconst (v := 0) hC dX8_first_41 (by decide +kernel) ?_
        refine o_lcmp hC dX8_first_42 ?_
        refine o_if_ne (tgt := 69) hC dX8_first_43 (by decide) (fun c_43 => ?_) (fun c_43 => ?_)
        · refine o_iinc hC dX8_first_69 (by rfl) (rl_inc _) (Nat.le_of_ble_eq_true rfl) ?_
          refine o_goto (tgt := 10) hC dX8_first_72 (by decide) ?_
          exact ih (i + 1) (by omega)
        · refine o_aload_n hC dX8_first_46 (by rfl) ?_
          refine o_getf hC (fX8_60 hC rfl) dX8_first_47 (by repeat (first | with_reducible assumption | (rw [rl_u_s]; done) | (rw [rl_u_s]; rfl) | rw [rl_u_n (by first | with_reducible assumption | omega)])) (by first | rfl | with_reducible assumption) ?_
          refine o_bipush (v := nI 12) hC dX8_first_50 (by decide +kernel) ?_
          refine o_iload hC dX8_first_52 (by rfl) ?_
          refine o_imul hC dX8_first_54 ?_
          try rw [nI_mul]
          refine o_iload hC dX8_first_55 (by rfl) ?_
          refine o_iadd hC dX8_first_57 ?_
          try rw [nI_add]
          refine o_laldN (t0 := 1) hC rfl dX8_first_58 (by repeat (first | with_reducible assumption | (rw [rl_u_s]; done) | (rw [rl_u_s]; rfl) | rw [rl_u_n (by first | with_reducible assumption | omega)])) (by omega) (by decide) ?_
          refine o_lload_n hC dX8_first_59 (by rfl) ?_
          refine o_land hC dX8_first_60 ?_
          refine o_lconst (v := 0) hC dX8_first_61 (by decide +kernel) ?_
          refine o_lcmp hC dX8_first_62 ?_
          refine o_if_ne (tgt := 69) hC dX8_first_63 (by decide) (fun c_63 => ?_) (fun c_63 => ?_)
          · refine o_iinc hC dX8_first_69 (by rfl) (rl_inc _) (Nat.le_of_ble_eq_true rfl) ?_
            refine o_goto (tgt := 10) hC dX8_first_72 (by decide) ?_
            exact ih (i + 1) (by omega)
          · refine o_iload hC dX8_first_66 (by rfl) ?_
            refine o_iret hC hB dX8_first_68 (Nat.le_of_ble_eq_true rfl) (Nat.le_of_ble_eq_true rfl) ?_
            exact ⟨_, rfl, rfl, rfl⟩
  show rl_G X (rl_e D ids H0) 0 [some (.ref m), some (.int (nI t)), some (.long x), none, none, none] [] h n 0 0
  refine o_sipush (v := nI 1280) hC dX8_first_0 (by decide +kernel) ?_
  refine o_iload_n hC dX8_first_3 (by rfl) ?_
  refine o_iadd hC dX8_first_4 ?_
  try rw [nI_add]
  refine o_istore hC dX8_first_5 (Nat.le_of_ble_eq_true rfl) ?_
  refine o_iconst (v := nI 0) hC dX8_first_7 (by decide +kernel) ?_
  refine o_istore hC dX8_first_8 (Nat.le_of_ble_eq_true rfl) ?_
  exact loop 12 0 (by omega)

set_option maxHeartbeats 4000000 in
set_option maxRecDepth 100000 in
theorem cm_X8_isSo (l : Launch) (D : va_G) (ids : Nat → ClassId) (H0 : Heap) (h : rl_H) (n : Nat) (m : Nat) (T : md_T) (fu : Int32) (k : Nat) (t : Nat) (x : Int64) (hq : mq ids h h m T fu k) (ht : t < 80) : rl_Met l (rl_e D ids H0) rl_BW rl_Ns yX8_isSo cX8_isSo 4 (some .boolean) ({ frames := 1, cells := 0, slots := 0, locals := 25 }) [.ref m, .int (nI t), .long x] h n (fun v h' n' => ∃ r : Int32, v = some (.int r) ∧ h' = h ∧ n' = n) := by
  obtain ⟨g0, gk, ⟨⟨cl, g12⟩, ⟨tu, g13, b13⟩, ⟨im, g14⟩, ⟨te, g15, b15⟩, ⟨ne, g16⟩, ⟨la, g17⟩, ⟨hn, g18⟩, ⟨hl, g19⟩, ⟨tp, g20⟩, ⟨gr, g21, b21⟩, ⟨it, g22⟩⟩, gf⟩ := id hq
  refine rl_Met.of (by decide +kernel) (Nat.le_of_ble_eq_true rfl) ?_
  intro X hC hB
  show rl_G X (rl_e D ids H0) 0 [some (.ref m), some (.int (nI t)), some (.long x), none] [] h n 0 0
  refine o_aload_n hC dX8_isSo_0 (by rfl) ?_
  refine o_iload_n hC dX8_isSo_1 (by rfl) ?_
  refine o_lload_n hC dX8_isSo_2 (by rfl) ?_
  refine o_callV2 hC rl_BW_good rl_Ns_nw (by exact hB.2.2.2.2.2) YX8_first IX8_first VX8_first (mX8_202 hC) (by rw [hB.1]; exact cm_X8_first l D ids H0 _ _ m T _ _ t x hq ht) (by exact g0) rfl rfl (Nat.le_of_ble_eq_true rfl) (by rw [hB.2.1]; first | exact Nat.le_of_ble_eq_true rfl | (dsimp only; omega)) (by rw [hB.2.1]; first | exact Nat.le_of_ble_eq_true rfl | (dsimp only; omega)) (by rw [hB.2.1]; first | exact Nat.le_of_ble_eq_true rfl | (dsimp only; omega)) (by rw [hB.2.1]; first | exact Nat.le_of_ble_eq_true rfl | (dsimp only; omega)) dX8_isSo_3 (fun v h_3 n_3 p_3 => ?_)
  obtain ⟨r3, rfl, rfl, rfl⟩ := p_3
  try dsimp only [Option.toList, List.cons_append, List.nil_append]
  refine o_iconst (v := (-1 : Int32)) hC dX8_isSo_6 (by decide +kernel) ?_
  refine o_icmp_eq (tgt := 14) hC dX8_isSo_7 (by decide) (fun c_7 => ?_) (fun c_7 => ?_)
  · refine o_iconst (v := nI 0) hC dX8_isSo_14 (by decide +kernel) ?_
    refine o_zret hC hB dX8_isSo_15 (by first | rfl | decide +kernel) (Nat.le_of_ble_eq_true rfl) (Nat.le_of_ble_eq_true rfl) ?_
    exact ⟨_, rfl, rfl, rfl⟩
  · refine o_iconst (v := nI 1) hC dX8_isSo_10 (by decide +kernel) ?_
    refine o_goto (tgt := 15) hC dX8_isSo_11 (by decide) ?_
    refine o_zret hC hB dX8_isSo_15 (by first | rfl | decide +kernel) (Nat.le_of_ble_eq_true rfl) (Nat.le_of_ble_eq_true rfl) ?_
    exact ⟨_, rfl, rfl, rfl⟩

set_option maxHeartbeats 4000000 in
set_option maxRecDepth 100000 in
theorem cm_X8_stand (l : Launch) (D : va_G) (ids : Nat → ClassId) (H0 : Heap) (h : rl_H) (n : Nat) (m : Nat) (T : md_T) (fu : Int32) (k : Nat) (t rr : Nat) (hq : mq ids h h m T fu k) (ht : t < 80) (hrr : T.2.2.1 = nI rr) (hr36 : rr ≤ 36) : rl_Met l (rl_e D ids H0) rl_BW rl_Ns yX8_stand cX8_stand 6 (some .boolean) ({ frames := 0, cells := 0, slots := 0, locals := 0 }) [.ref m, .int (nI t)] h n (fun v h' n' => ∃ (r : Int32) (ic : Nat), v = some (.int r) ∧ n' = n ∧ ic ≤ 36 ∧ (r = nI 0 ∨ (r = nI 1 ∧ ic ≤ 16)) ∧ mq ids h h' m (T.1, T.2.1, T.2.2.1, T.2.2.2.1, T.2.2.2.2.1, T.2.2.2.2.2.1, nI ic) fu k ∧ ∀ q : Nat, m + 12 ≤ q → q < m + 22 → h' q = h q) := by
  obtain ⟨g0, gk, ⟨⟨cl, g12⟩, ⟨tu, g13, b13⟩, ⟨im, g14⟩, ⟨te, g15, b15⟩, ⟨ne, g16⟩, ⟨la, g17⟩, ⟨hn, g18⟩, ⟨hl, g19⟩, ⟨tp, g20⟩, ⟨gr, g21, b21⟩, ⟨it, g22⟩⟩, gf⟩ := id hq
  refine rl_Met.of (by decide +kernel) (Nat.le_of_ble_eq_true rfl) ?_
  intro X hC hB
  have loop2 : ∀ (mm i ic : Nat) (h1 : rl_H) (al : Int64), i + mm = rr → ic ≤ i → mq ids h h1 m (T.1, T.2.1, T.2.2.1, T.2.2.2.1, T.2.2.2.2.1, T.2.2.2.2.2.1, nI ic) fu k → (∀ q : Nat, m + 12 ≤ q → q < m + 22 → h1 q = h q) → rl_G X (rl_e D ids H0) 68 [some (.ref m), some (.int (nI t)), some (.long al), none, some (.int (nI (1280 + t))), some (.int (nI i))] [] h1 n 0 0 := by
    intro mm
    induction mm with
    | zero =>
      intro i ic h1 al hm hi hq1 hdd
      obtain ⟨g0, gk, ⟨⟨cl, g12⟩, ⟨tu, g13, b13⟩, ⟨im, g14⟩, ⟨te, g15, b15⟩, ⟨ne, g16⟩, ⟨la, g17⟩, ⟨hn, g18⟩, ⟨hl, g19⟩, ⟨tp, g20⟩, ⟨gr, g21, b21⟩, ⟨it, g22⟩⟩, gf⟩ := id hq1
      refine o_iload hC dX8_stand_68 (by rfl) ?_
      refine o_aload_n hC dX8_stand_70 (by rfl) ?_
      refine o_getf hC (fX8_112 hC rfl) dX8_stand_71 (by repeat (first | with_reducible assumption | (rw [rl_u_s]; done) | (rw [rl_u_s]; rfl) | rw [rl_u_n (by first | with_reducible assumption | omega)])) (by first | rfl | with_reducible assumption) ?_
      rw [hrr]
      refine o_icmp_ge (tgt := 115) hC dX8_stand_74 (by decide) (fun c_74 => ?_) (fun c_74 => ?_)
      · refine o_aload_n hC dX8_stand_115 (by rfl) ?_
        refine o_getf hC (fX8_210 hC rfl) dX8_stand_116 (by repeat (first | with_reducible assumption | (rw [rl_u_s]; done) | (rw [rl_u_s]; rfl) | rw [rl_u_n (by first | with_reducible assumption | omega)])) (by first | rfl | with_reducible assumption) ?_
        refine o_bipush (v := nI 16) hC dX8_stand_119 (by decide +kernel) ?_
        refine o_icmp_gt (tgt := 128) hC dX8_stand_121 (by decide) (fun c_121 => ?_) (fun c_121 => ?_)
        · refine o_iconst (v := nI 0) hC dX8_stand_128 (by decide +kernel) ?_
          refine o_zret hC hB dX8_stand_129 (by first | rfl | decide +kernel) (Nat.le_of_ble_eq_true rfl) (Nat.le_of_ble_eq_true rfl) ?_
          first
          | exact ⟨_, ic, rfl, rfl, by omega, Or.inl rfl, hq1, hdd⟩
          | exact ⟨_, ic, rfl, rfl, by omega, Or.inr ⟨rfl, (nI_leI (by omega) (by decide)).mp (Int32.not_lt.mp c_121)⟩, hq1, hdd⟩
        · refine o_iconst (v := nI 1) hC dX8_stand_124 (by decide +kernel) ?_
          refine o_goto (tgt := 129) hC dX8_stand_125 (by decide) ?_
          refine o_zret hC hB dX8_stand_129 (by first | rfl | decide +kernel) (Nat.le_of_ble_eq_true rfl) (Nat.le_of_ble_eq_true rfl) ?_
          first
          | exact ⟨_, ic, rfl, rfl, by omega, Or.inl rfl, hq1, hdd⟩
          | exact ⟨_, ic, rfl, rfl, by omega, Or.inr ⟨rfl, (nI_leI (by omega) (by decide)).mp (Int32.not_lt.mp c_121)⟩, hq1, hdd⟩
      · exact absurd (nI_le (by omega) (by omega)) c_74
    | succ mm ih =>
      intro i ic h1 al hm hi hq1 hdd
      obtain ⟨g0, gk, ⟨⟨cl, g12⟩, ⟨tu, g13, b13⟩, ⟨im, g14⟩, ⟨te, g15, b15⟩, ⟨ne, g16⟩, ⟨la, g17⟩, ⟨hn, g18⟩, ⟨hl, g19⟩, ⟨tp, g20⟩, ⟨gr, g21, b21⟩, ⟨it, g22⟩⟩, gf⟩ := id hq1
      refine o_iload hC dX8_stand_68 (by rfl) ?_
      refine o_aload_n hC dX8_stand_70 (by rfl) ?_
      refine o_getf hC (fX8_112 hC rfl) dX8_stand_71 (by repeat (first | with_reducible assumption | (rw [rl_u_s]; done) | (rw [rl_u_s]; rfl) | rw [rl_u_n (by first | with_reducible assumption | omega)])) (by first | rfl | with_reducible assumption) ?_
      rw [hrr]
      refine o_icmp_ge (tgt := 115) hC dX8_stand_74 (by decide) (fun c_74 => ?_) (fun c_74 => ?_)
      · exact absurd c_74 (nI_ge (by omega) (by omega))
      · refine o_lload_n hC dX8_stand_77 (by rfl) ?_
        refine o_iload hC dX8_stand_78 (by rfl) ?_
        refine o_lshr hC dX8_stand_80 ?_
        refine o_lconst (v := 1) hC dX8_stand_81 (by decide +kernel) ?_
        refine o_land hC dX8_stand_82 ?_
        refine o_lconst (v := 1) hC dX8_stand_83 (by decide +kernel) ?_
        refine o_lcmp hC dX8_stand_84 ?_
        refine o_if_ne (tgt := 109) hC dX8_stand_85 (by decide) (fun c_85 => ?_) (fun c_85 => ?_)
        · refine o_iinc hC dX8_stand_109 (by rfl) (rl_inc _) (Nat.le_of_ble_eq_true rfl) ?_
          refine o_goto (tgt := 68) hC dX8_stand_112 (by decide) ?_
          first
          | exact ih (i + 1) (ic + 1) _ _ (by omega) (by omega) ((hq1.s22 _).ob (T.1, T.2.1, T.2.2.1, T.2.2.2.1, T.2.2.2.2.1, T.2.2.2.2.2.1, nI (ic + 1)) fu k gk) (fun q a b => (rl_u_n (by omega)).trans ((rl_u_n (by omega)).trans (hdd q a b)))
          | exact ih (i + 1) ic _ _ (by omega) (by omega) hq1 hdd
        · refine o_aload_n hC dX8_stand_88 (by rfl) ?_
          refine o_getf hC (fX8_75 hC rfl) dX8_stand_89 (by repeat (first | with_reducible assumption | (rw [rl_u_s]; done) | (rw [rl_u_s]; rfl) | rw [rl_u_n (by first | with_reducible assumption | omega)])) (by first | rfl | with_reducible assumption) ?_
          refine o_aload_n hC dX8_stand_92 (by rfl) ?_
          refine o_getf hC (fX8_210 hC rfl) dX8_stand_93 (by repeat (first | with_reducible assumption | (rw [rl_u_s]; done) | (rw [rl_u_s]; rfl) | rw [rl_u_n (by first | with_reducible assumption | omega)])) (by first | rfl | with_reducible assumption) ?_
          refine o_iload hC dX8_stand_96 (by rfl) ?_
          refine o_iastN (t0 := 0) hC rfl dX8_stand_98 (by repeat (first | with_reducible assumption | (rw [rl_u_s]; done) | (rw [rl_u_s]; rfl) | rw [rl_u_n (by first | with_reducible assumption | omega)])) (by omega) (by decide) ?_
          refine o_aload_n hC dX8_stand_99 (by rfl) ?_
          refine o_dup hC dX8_stand_100 rfl ?_
          refine o_getf hC (fX8_210 hC rfl) dX8_stand_101 (by repeat (first | with_reducible assumption | (rw [rl_u_s]; done) | (rw [rl_u_s]; rfl) | rw [rl_u_n (by first | with_reducible assumption | omega)])) (by first | rfl | with_reducible assumption) ?_
          refine o_iconst (v := nI 1) hC dX8_stand_104 (by decide +kernel) ?_
          refine o_iadd hC dX8_stand_105 ?_
          try rw [nI_add]
          refine o_putf hC (fX8_210 hC rfl) (fwX8 rfl rfl rfl (Or.inl rfl)) dX8_stand_106 (by repeat (first | with_reducible assumption | (rw [rl_u_s]; done) | (rw [rl_u_s]; rfl) | rw [rl_u_n (by first | with_reducible assumption | omega)])) (Nat.le_of_ble_eq_true rfl) ?_
          try simp only [List.set_cons_zero, List.set_cons_succ]
          refine o_iinc hC dX8_stand_109 (by rfl) (rl_inc _) (Nat.le_of_ble_eq_true rfl) ?_
          refine o_goto (tgt := 68) hC dX8_stand_112 (by decide) ?_
          first
          | exact ih (i + 1) (ic + 1) _ _ (by omega) (by omega) ((hq1.s22 _).ob (T.1, T.2.1, T.2.2.1, T.2.2.2.1, T.2.2.2.2.1, T.2.2.2.2.2.1, nI (ic + 1)) fu k gk) (fun q a b => (rl_u_n (by omega)).trans ((rl_u_n (by omega)).trans (hdd q a b)))
          | exact ih (i + 1) ic _ _ (by omega) (by omega) hq1 hdd
  have loop1 : ∀ (mm i : Nat) (al : Int64), i + mm = 12 → rl_G X (rl_e D ids H0) 12 [some (.ref m), some (.int (nI t)), some (.long al), none, some (.int (nI (1280 + t))), some (.int (nI i))] [] h n 0 0 := by
    intro mm
    induction mm with
    | zero =>
      intro i al hm
      refine o_iload hC dX8_stand_12 (by rfl) ?_
      refine o_aload_n hC dX8_stand_14 (by rfl) ?_
      refine o_getf hC (fX8_53 hC rfl) dX8_stand_15 (by repeat (first | with_reducible assumption | (rw [rl_u_s]; done) | (rw [rl_u_s]; rfl) | rw [rl_u_n (by first | with_reducible assumption | omega)])) (by first | rfl | with_reducible assumption) ?_
      refine o_iload hC dX8_stand_18 (by rfl) ?_
      obtain ⟨t20, ht20, et20⟩ := b15 (1280 + t) (by omega)
      refine o_ialdN (t0 := 0) (k := (1280 + t)) hC rfl dX8_stand_20 (by repeat (first | with_reducible assumption | (rw [rl_u_s]; done) | (rw [rl_u_s]; rfl) | rw [rl_u_n (by first | with_reducible assumption | omega)])) (by omega) (by decide) ?_
      rw [et20]
      refine o_icmp_ge (tgt := 60) hC dX8_stand_21 (by decide) (fun c_21 => ?_) (fun c_21 => ?_)
      · refine o_aload_n hC dX8_stand_60 (by rfl) ?_
        refine o_iconst (v := nI 0) hC dX8_stand_61 (by decide +kernel) ?_
        refine o_putf hC (fX8_210 hC rfl) (fwX8 rfl rfl rfl (Or.inl rfl)) dX8_stand_62 (by repeat (first | with_reducible assumption | (rw [rl_u_s]; done) | (rw [rl_u_s]; rfl) | rw [rl_u_n (by first | with_reducible assumption | omega)])) (Nat.le_of_ble_eq_true rfl) ?_
        try simp only [List.set_cons_zero, List.set_cons_succ]
        refine o_iconst (v := nI 0) hC dX8_stand_65 (by decide +kernel) ?_
        refine o_istore hC dX8_stand_66 (Nat.le_of_ble_eq_true rfl) ?_
        exact loop2 rr 0 0 _ _ (by omega) (by omega) (hq.ob (T.1, T.2.1, T.2.2.1, T.2.2.2.1, T.2.2.2.2.1, T.2.2.2.2.2.1, nI 0) fu k gk) (fun q a b => rl_u_n (by omega))
      · exact absurd (nI_le (by omega) (by omega)) c_21
    | succ mm ih =>
      intro i al hm
      refine o_iload hC dX8_stand_12 (by rfl) ?_
      refine o_aload_n hC dX8_stand_14 (by rfl) ?_
      refine o_getf hC (fX8_53 hC rfl) dX8_stand_15 (by repeat (first | with_reducible assumption | (rw [rl_u_s]; done) | (rw [rl_u_s]; rfl) | rw [rl_u_n (by first | with_reducible assumption | omega)])) (by first | rfl | with_reducible assumption) ?_
      refine o_iload hC dX8_stand_18 (by rfl) ?_
      obtain ⟨t20, ht20, et20⟩ := b15 (1280 + t) (by omega)
      refine o_ialdN (t0 := 0) (k := (1280 + t)) hC rfl dX8_stand_20 (by repeat (first | with_reducible assumption | (rw [rl_u_s]; done) | (rw [rl_u_s]; rfl) | rw [rl_u_n (by first | with_reducible assumption | omega)])) (by omega) (by decide) ?_
      rw [et20]
      refine o_icmp_ge (tgt := 60) hC dX8_stand_21 (by decide) (fun c_21 => ?_) (fun c_21 => ?_)
      · refine o_aload_n hC dX8_stand_60 (by rfl) ?_
        refine o_iconst (v := nI 0) hC dX8_stand_61 (by decide +kernel) ?_
        refine o_putf hC (fX8_210 hC rfl) (fwX8 rfl rfl rfl (Or.inl rfl)) dX8_stand_62 (by repeat (first | with_reducible assumption | (rw [rl_u_s]; done) | (rw [rl_u_s]; rfl) | rw [rl_u_n (by first | with_reducible assumption | omega)])) (Nat.le_of_ble_eq_true rfl) ?_
        try simp only [List.set_cons_zero, List.set_cons_succ]
        refine o_iconst (v := nI 0) hC dX8_stand_65 (by decide +kernel) ?_
        refine o_istore hC dX8_stand_66 (Nat.le_of_ble_eq_true rfl) ?_
        exact loop2 rr 0 0 _ _ (by omega) (by omega) (hq.ob (T.1, T.2.1, T.2.2.1, T.2.2.2.1, T.2.2.2.2.1, T.2.2.2.2.2.1, nI 0) fu k gk) (fun q a b => rl_u_n (by omega))
      · refine o_lload_n hC dX8_stand_24 (by rfl) ?_
        refine o_aload_n hC dX8_stand_25 (by rfl) ?_
        refine o_getf hC (fX8_56 hC rfl) dX8_stand_26 (by repeat (first | with_reducible assumption | (rw [rl_u_s]; done) | (rw [rl_u_s]; rfl) | rw [rl_u_n (by first | with_reducible assumption | omega)])) (by first | rfl | with_reducible assumption) ?_
        refine o_bipush (v := nI 12) hC dX8_stand_29 (by decide +kernel) ?_
        refine o_iload hC dX8_stand_31 (by rfl) ?_
        refine o_imul hC dX8_stand_33 ?_
        try rw [nI_mul]
        refine o_iload hC dX8_stand_34 (by rfl) ?_
        refine o_iadd hC dX8_stand_36 ?_
        try rw [nI_add]
        refine o_laldN (t0 := 1) hC rfl dX8_stand_37 (by repeat (first | with_reducible assumption | (rw [rl_u_s]; done) | (rw [rl_u_s]; rfl) | rw [rl_u_n (by first | with_reducible assumption | omega)])) (by omega) (by decide) ?_
        refine o_aload_n hC dX8_stand_38 (by rfl) ?_
        refine o_getf hC (fX8_60 hC rfl) dX8_stand_39 (by repeat (first | with_reducible assumption | (rw [rl_u_s]; done) | (rw [rl_u_s]; rfl) | rw [rl_u_n (by first | with_reducible assumption | omega)])) (by first | rfl | with_reducible assumption) ?_
        refine o_bipush (v := nI 12) hC dX8_stand_42 (by decide +kernel) ?_
        refine o_iload hC dX8_stand_44 (by rfl) ?_
        refine o_imul hC dX8_stand_46 ?_
        try rw [nI_mul]
        refine o_iload hC dX8_stand_47 (by rfl) ?_
        refine o_iadd hC dX8_stand_49 ?_
        try rw [nI_add]
        refine o_laldN (t0 := 1) hC rfl dX8_stand_50 (by repeat (first | with_reducible assumption | (rw [rl_u_s]; done) | (rw [rl_u_s]; rfl) | rw [rl_u_n (by first | with_reducible assumption | omega)])) (by omega) (by decide) ?_
        refine o_lor hC dX8_stand_51 ?_
        refine o_lor hC dX8_stand_52 ?_
        refine o_lstore_n hC dX8_stand_53 (Nat.le_of_ble_eq_true rfl) ?_
        refine o_iinc hC dX8_stand_54 (by rfl) (rl_inc _) (Nat.le_of_ble_eq_true rfl) ?_
        refine o_goto (tgt := 12) hC dX8_stand_57 (by decide) ?_
        exact ih (i + 1) _ (by omega)
  show rl_G X (rl_e D ids H0) 0 [some (.ref m), some (.int (nI t)), none, none, none, none] [] h n 0 0
  refine o_lconst (v := 0) hC dX8_stand_0 (by decide +kernel) ?_
  refine o_lstore_n hC dX8_stand_1 (Nat.le_of_ble_eq_true rfl) ?_
  refine o_sipush (v := nI 1280) hC dX8_stand_2 (by decide +kernel) ?_
  refine o_iload_n hC dX8_stand_5 (by rfl) ?_
  refine o_iadd hC dX8_stand_6 ?_
  try rw [nI_add]
  refine o_istore hC dX8_stand_7 (Nat.le_of_ble_eq_true rfl) ?_
  refine o_iconst (v := nI 0) hC dX8_stand_9 (by decide +kernel) ?_
  refine o_istore hC dX8_stand_10 (Nat.le_of_ble_eq_true rfl) ?_
  exact loop1 12 0 _ (by omega)

set_option maxHeartbeats 4000000 in
set_option maxRecDepth 100000 in
theorem cm_X8_rowsOf (l : Launch) (D : va_G) (ids : Nat → ClassId) (H0 : Heap) (h : rl_H) (n : Nat) (m : Nat) (T : md_T) (fu : Int32) (k : Nat) (im_ : Nat) (q : Int32) (hq : mq ids h h m T fu k) (him : T.2.2.2.2.2.2 = nI im_) (h36 : im_ ≤ 36) : rl_Met l (rl_e D ids H0) rl_BW rl_Ns yX8_rowsOf cX8_rowsOf 5 (some .long) ({ frames := 0, cells := 0, slots := 0, locals := 0 }) [.ref m, .int q] h n (fun v h' n' => ∃ r : Int64, v = some (.long r) ∧ h' = h ∧ n' = n) := by
  obtain ⟨g0, gk, ⟨⟨cl, g12⟩, ⟨tu, g13, b13⟩, ⟨im, g14⟩, ⟨te, g15, b15⟩, ⟨ne, g16⟩, ⟨la, g17⟩, ⟨hn, g18⟩, ⟨hl, g19⟩, ⟨tp, g20⟩, ⟨gr, g21, b21⟩, ⟨it, g22⟩⟩, gf⟩ := id hq
  refine rl_Met.of (by decide +kernel) (Nat.le_of_ble_eq_true rfl) ?_
  intro X hC hB
  have loop : ∀ (mm i : Nat) (al : Int64), i + mm = im_ → rl_G X (rl_e D ids H0) 5 [some (.ref m), some (.int q), some (.long al), none, some (.int (nI i))] [] h n 0 0 := by
    intro mm
    induction mm with
    | zero =>
      intro i al hm
      refine o_iload hC dX8_rowsOf_5 (by rfl) ?_
      refine o_aload_n hC dX8_rowsOf_7 (by rfl) ?_
      refine o_getf hC (fX8_210 hC rfl) dX8_rowsOf_8 (by repeat (first | with_reducible assumption | (rw [rl_u_s]; done) | (rw [rl_u_s]; rfl) | rw [rl_u_n (by first | with_reducible assumption | omega)])) (by first | rfl | with_reducible assumption) ?_
      rw [him]
      refine o_icmp_ge (tgt := 46) hC dX8_rowsOf_11 (by decide) (fun c_11 => ?_) (fun c_11 => ?_)
      · refine o_lload_n hC dX8_rowsOf_46 (by rfl) ?_
        refine o_lret hC hB dX8_rowsOf_47 (Nat.le_of_ble_eq_true rfl) (Nat.le_of_ble_eq_true rfl) ?_
        exact ⟨_, rfl, rfl, rfl⟩
      · exact absurd (nI_le (by omega) (by omega)) c_11
    | succ mm ih =>
      intro i al hm
      refine o_iload hC dX8_rowsOf_5 (by rfl) ?_
      refine o_aload_n hC dX8_rowsOf_7 (by rfl) ?_
      refine o_getf hC (fX8_210 hC rfl) dX8_rowsOf_8 (by repeat (first | with_reducible assumption | (rw [rl_u_s]; done) | (rw [rl_u_s]; rfl) | rw [rl_u_n (by first | with_reducible assumption | omega)])) (by first | rfl | with_reducible assumption) ?_
      rw [him]
      refine o_icmp_ge (tgt := 46) hC dX8_rowsOf_11 (by decide) (fun c_11 => ?_) (fun c_11 => ?_)
      · exact absurd c_11 (nI_ge (by omega) (by omega))
      · refine o_lload_n hC dX8_rowsOf_14 (by rfl) ?_
        refine o_iload_n hC dX8_rowsOf_15 (by rfl) ?_
        refine o_iload hC dX8_rowsOf_16 (by rfl) ?_
        refine o_ishr hC dX8_rowsOf_18 ?_
        refine o_iconst (v := nI 1) hC dX8_rowsOf_19 (by decide +kernel) ?_
        refine o_iand hC dX8_rowsOf_20 ?_
        refine o_iconst (v := nI 1) hC dX8_rowsOf_21 (by decide +kernel) ?_
        refine o_icmp_ne (tgt := 37) hC dX8_rowsOf_22 (by decide) (fun c_22 => ?_) (fun c_22 => ?_)
        · refine o_lconst (v := 0) hC dX8_rowsOf_37 (by decide +kernel) ?_
          refine o_lor hC dX8_rowsOf_38 ?_
          refine o_lstore_n hC dX8_rowsOf_39 (Nat.le_of_ble_eq_true rfl) ?_
          refine o_iinc hC dX8_rowsOf_40 (by rfl) (rl_inc _) (Nat.le_of_ble_eq_true rfl) ?_
          refine o_goto (tgt := 5) hC dX8_rowsOf_43 (by decide) ?_
          exact ih (i + 1) _ (by omega)
        · refine o_lconst (v := 1) hC dX8_rowsOf_25 (by decide +kernel) ?_
          refine o_aload_n hC dX8_rowsOf_26 (by rfl) ?_
          refine o_getf hC (fX8_75 hC rfl) dX8_rowsOf_27 (by repeat (first | with_reducible assumption | (rw [rl_u_s]; done) | (rw [rl_u_s]; rfl) | rw [rl_u_n (by first | with_reducible assumption | omega)])) (by first | rfl | with_reducible assumption) ?_
          refine o_iload hC dX8_rowsOf_30 (by rfl) ?_
          refine o_ialdN (t0 := 0) hC rfl dX8_rowsOf_32 (by repeat (first | with_reducible assumption | (rw [rl_u_s]; done) | (rw [rl_u_s]; rfl) | rw [rl_u_n (by first | with_reducible assumption | omega)])) (by omega) (by decide) ?_
          refine o_lshl hC dX8_rowsOf_33 ?_
          refine o_goto (tgt := 38) hC dX8_rowsOf_34 (by decide) ?_
          refine o_lor hC dX8_rowsOf_38 ?_
          refine o_lstore_n hC dX8_rowsOf_39 (Nat.le_of_ble_eq_true rfl) ?_
          refine o_iinc hC dX8_rowsOf_40 (by rfl) (rl_inc _) (Nat.le_of_ble_eq_true rfl) ?_
          refine o_goto (tgt := 5) hC dX8_rowsOf_43 (by decide) ?_
          exact ih (i + 1) _ (by omega)
  show rl_G X (rl_e D ids H0) 0 [some (.ref m), some (.int q), none, none, none] [] h n 0 0
  refine o_lconst (v := 0) hC dX8_rowsOf_0 (by decide +kernel) ?_
  refine o_lstore_n hC dX8_rowsOf_1 (Nat.le_of_ble_eq_true rfl) ?_
  refine o_iconst (v := nI 0) hC dX8_rowsOf_2 (by decide +kernel) ?_
  refine o_istore hC dX8_rowsOf_3 (Nat.le_of_ble_eq_true rfl) ?_
  exact loop im_ 0 _ (by omega)

set_option maxHeartbeats 4000000 in
set_option maxRecDepth 100000 in
theorem cm_X8_ones (l : Launch) (D : va_G) (ids : Nat → ClassId) (H0 : Heap) (h : rl_H) (n : Nat) (x : Int64)  : rl_Met l (rl_e D ids H0) rl_BW rl_Ns yX8_ones cX8_ones 4 (some .int) ({ frames := 0, cells := 0, slots := 0, locals := 0 }) [.long x] h n (fun v h' n' => ∃ r : Int32, v = some (.int r) ∧ h' = h ∧ n' = n) := by
  refine rl_Met.of (by decide +kernel) (Nat.le_of_ble_eq_true rfl) ?_
  intro X hC hB
  have loop : ∀ (mm i : Nat) (c : Int32), i + mm = 36 → rl_G X (rl_e D ids H0) 4 [some (.long x), none, some (.int c), some (.int (nI i))] [] h n 0 0 := by
    intro mm
    induction mm with
    | zero =>
      intro i c hm
      refine o_iload_n hC dX8_ones_4 (by rfl) ?_
      refine o_bipush (v := nI 36) hC dX8_ones_5 (by decide +kernel) ?_
      refine o_icmp_ge (tgt := 34) hC dX8_ones_7 (by decide) (fun c_7 => ?_) (fun c_7 => ?_)
      · refine o_iload_n hC dX8_ones_34 (by rfl) ?_
        refine o_iret hC hB dX8_ones_35 (Nat.le_of_ble_eq_true rfl) (Nat.le_of_ble_eq_true rfl) ?_
        exact ⟨_, rfl, rfl, rfl⟩
      · exact absurd (nI_le (by omega) (by omega)) c_7
    | succ mm ih =>
      intro i c hm
      refine o_iload_n hC dX8_ones_4 (by rfl) ?_
      refine o_bipush (v := nI 36) hC dX8_ones_5 (by decide +kernel) ?_
      refine o_icmp_ge (tgt := 34) hC dX8_ones_7 (by decide) (fun c_7 => ?_) (fun c_7 => ?_)
      · exact absurd c_7 (nI_ge (by omega) (by omega))
      · refine o_iload_n hC dX8_ones_10 (by rfl) ?_
        refine o_lload_n hC dX8_ones_11 (by rfl) ?_
        refine o_iload_n hC dX8_ones_12 (by rfl) ?_
        refine o_lshr hC dX8_ones_13 ?_
        refine o_lconst (v := 1) hC dX8_ones_14 (by decide +kernel) ?_
        refine o_land hC dX8_ones_15 ?_
        refine o_lconst (v := 1) hC dX8_ones_16 (by decide +kernel) ?_
        refine o_lcmp hC dX8_ones_17 ?_
        refine o_if_ne (tgt := 25) hC dX8_ones_18 (by decide) (fun c_18 => ?_) (fun c_18 => ?_)
        · refine o_iconst (v := nI 0) hC dX8_ones_25 (by decide +kernel) ?_
          refine o_iadd hC dX8_ones_26 ?_
          refine o_istore_n hC dX8_ones_27 (Nat.le_of_ble_eq_true rfl) ?_
          refine o_iinc hC dX8_ones_28 (by rfl) (rl_inc _) (Nat.le_of_ble_eq_true rfl) ?_
          refine o_goto (tgt := 4) hC dX8_ones_31 (by decide) ?_
          exact ih (i + 1) _ (by omega)
        · refine o_iconst (v := nI 1) hC dX8_ones_21 (by decide +kernel) ?_
          refine o_goto (tgt := 26) hC dX8_ones_22 (by decide) ?_
          refine o_iadd hC dX8_ones_26 ?_
          refine o_istore_n hC dX8_ones_27 (Nat.le_of_ble_eq_true rfl) ?_
          refine o_iinc hC dX8_ones_28 (by rfl) (rl_inc _) (Nat.le_of_ble_eq_true rfl) ?_
          refine o_goto (tgt := 4) hC dX8_ones_31 (by decide) ?_
          exact ih (i + 1) _ (by omega)
  show rl_G X (rl_e D ids H0) 0 [some (.long x), none, none, none] [] h n 0 0
  refine o_iconst (v := nI 0) hC dX8_ones_0 (by decide +kernel) ?_
  refine o_istore_n hC dX8_ones_1 (Nat.le_of_ble_eq_true rfl) ?_
  refine o_iconst (v := nI 0) hC dX8_ones_2 (by decide +kernel) ?_
  refine o_istore_n hC dX8_ones_3 (Nat.le_of_ble_eq_true rfl) ?_
  exact loop 36 0 _ (by omega)
end
section
/-! THE MODEL: its public methods that only look -/

set_option maxHeartbeats 4000000 in
set_option maxRecDepth 100000 in
theorem cm_X8_ways (l : Launch) (D : va_G) (ids : Nat → ClassId) (H0 : Heap) (h : rl_H) (n : Nat) (m : Nat) (T : md_T) (fu : Int32) (k : Nat) (S : md_A) (z : sh_S) (q : Int32) (hu : md_un ids h m T fu k S z) : rl_Met l (rl_e D ids H0) rl_BW rl_Ns yX8_ways cX8_ways 2 (some .int) ({ frames := 1, cells := 0, slots := 0, locals := 21 }) [.ref m, .int q] h n (fun v h' n' => ∃ r : Int32, v = some (.int r) ∧ n' = n ∧ mdx ids h' m T z (fun S' => S' = S) (∀ q : Nat, m + 12 ≤ q → q < m + 22 → h' q = h q) ∧ rl_fr h h' m (m + 23)) := by
  obtain ⟨hq, hs, ⟨hsc, hsc4⟩, hwf, ⟨hrr, hr36⟩, ⟨hnc, hn16⟩, hnw, hpr, hnv, hwv, wrc, hrc6, hrc⟩ := id hu
  have hq0 := hq.ob (nI 0, T.2) fu k hq.2.1
  have g0 := hq.1
  obtain ⟨-, gk, ⟨⟨cl, g12⟩, ⟨tu, g13, b13⟩, ⟨im, g14⟩, ⟨te, g15, b15⟩, ⟨ne, g16⟩, ⟨la, g17⟩, ⟨hn, g18⟩, ⟨hl, g19⟩, ⟨tp, g20⟩, ⟨gr, g21, b21⟩, ⟨it, g22⟩⟩, gf⟩ := id hq
  refine rl_Met.of (by decide +kernel) (Nat.le_of_ble_eq_true rfl) ?_
  intro X hC hB
  show rl_G X (rl_e D ids H0) 0 [some (.ref m), some (.int q)] [] h n 0 0
  refine o_aload_n hC dX8_ways_0 (by rfl) ?_
  refine o_iconst (v := nI 0) hC dX8_ways_1 (by decide +kernel) ?_
  refine o_putf hC (fX8_78 hC rfl) (fwX8 rfl rfl rfl (Or.inl rfl)) dX8_ways_2 (by repeat (first | with_reducible assumption | (rw [rl_u_s]; done) | (rw [rl_u_s]; rfl) | rw [rl_u_n (by first | with_reducible assumption | omega)])) (Nat.le_of_ble_eq_true rfl) ?_
  try simp only [List.set_cons_zero, List.set_cons_succ]
  refine o_aload_n hC dX8_ways_5 (by rfl) ?_
  refine o_iload_n hC dX8_ways_6 (by rfl) ?_
  refine o_callV1 hC rl_BW_good rl_Ns_nw (by exact hB.2.2.2.2.2) YX8_isTuple IX8_isTuple VX8_isTuple (mX8_199 hC) (by rw [hB.1]; exact ct_X8_isTuple l D ids H0 _ _ m (m + 13) _ _ tu (by repeat (first | with_reducible assumption | (rw [rl_u_s]; done) | (rw [rl_u_s]; rfl) | rw [rl_u_n (by first | with_reducible assumption | omega)])) rfl (by repeat (first | with_reducible assumption | (rw [rl_u_s]; done) | (rw [rl_u_s]; rfl) | rw [rl_u_n (by first | with_reducible assumption | omega)]))) (by repeat (first | with_reducible assumption | (rw [rl_u_s]; done) | (rw [rl_u_s]; rfl) | rw [rl_u_n (by first | with_reducible assumption | omega)])) rfl rfl (Nat.le_of_ble_eq_true rfl) (by rw [hB.2.1]; first | exact Nat.le_of_ble_eq_true rfl | (dsimp only; omega)) (by rw [hB.2.1]; first | exact Nat.le_of_ble_eq_true rfl | (dsimp only; omega)) (by rw [hB.2.1]; first | exact Nat.le_of_ble_eq_true rfl | (dsimp only; omega)) (by rw [hB.2.1]; first | exact Nat.le_of_ble_eq_true rfl | (dsimp only; omega)) dX8_ways_7 (fun v h_7 n_7 p_7 => ?_)
  obtain ⟨rfl, rfl, rfl⟩ := p_7
  try dsimp only [Option.toList, List.cons_append, List.nil_append]
  obtain ⟨t16, ht16, et16⟩ := b13 16 (by decide)
  by_cases hr : q < 0 ∨ tu 16 ≤ q
  · rw [if_pos hr]
    refine o_if_eq (tgt := 26) hC dX8_ways_10 (by decide) (fun c_10 => ?_) (fun c_10 => ?_)
    · refine o_iconst (v := (-1 : Int32)) hC dX8_ways_26 (by decide +kernel) ?_
      refine o_iret hC hB dX8_ways_27 (Nat.le_of_ble_eq_true rfl) (Nat.le_of_ble_eq_true rfl) ?_
      exact ⟨_, rfl, rfl, ⟨_, _, _, S, hu.dp (hq0) rfl rfl rfl rfl ⟨wrc, hrc6, hrc⟩, rfl, rfl, fun q a b => by first | exact rl_u_n (by omega) | exact (rl_u_n (by omega)).trans (rl_u_n (by omega)) | exact (dst q a b).trans (rl_u_n (by omega))⟩, (hq0).fr⟩
    · exact absurd rfl c_10
  · rw [if_neg hr]
    obtain ⟨t, ht0, rfl⟩ := nI_of_lt (k := t16) (by omega) (fun e => hr (Or.inl e)) (fun e => hr (Or.inr (by rw [et16]; exact e)))
    have ht : t < 80 := by omega
    obtain ⟨g00, gk0, -, gf0⟩ := id hq0
    refine o_if_eq (tgt := 26) hC dX8_ways_10 (by decide) (fun c_10 => ?_) (fun c_10 => ?_)
    · exact absurd c_10 (by decide +kernel)
    · refine o_aload_n hC dX8_ways_13 (by rfl) ?_
      refine o_getf hC (fX8_53 hC rfl) dX8_ways_14 (by repeat (first | with_reducible assumption | (rw [rl_u_s]; done) | (rw [rl_u_s]; rfl) | rw [rl_u_n (by first | with_reducible assumption | omega)])) (by first | rfl | with_reducible assumption) ?_
      refine o_sipush (v := nI 1280) hC dX8_ways_17 (by decide +kernel) ?_
      refine o_iload_n hC dX8_ways_20 (by rfl) ?_
      refine o_iadd hC dX8_ways_21 ?_
      try rw [nI_add]
      refine o_ialdN (t0 := 0) hC rfl dX8_ways_22 (by repeat (first | with_reducible assumption | (rw [rl_u_s]; done) | (rw [rl_u_s]; rfl) | rw [rl_u_n (by first | with_reducible assumption | omega)])) (by omega) (by decide) ?_
      refine o_goto (tgt := 27) hC dX8_ways_23 (by decide) ?_
      refine o_iret hC hB dX8_ways_27 (Nat.le_of_ble_eq_true rfl) (Nat.le_of_ble_eq_true rfl) ?_
      exact ⟨_, rfl, rfl, ⟨_, _, _, S, hu.dp (hq0) rfl rfl rfl rfl ⟨wrc, hrc6, hrc⟩, rfl, rfl, fun q a b => by first | exact rl_u_n (by omega) | exact (rl_u_n (by omega)).trans (rl_u_n (by omega)) | exact (dst q a b).trans (rl_u_n (by omega))⟩, (hq0).fr⟩

set_option maxHeartbeats 4000000 in
set_option maxRecDepth 100000 in
theorem cm_X8_holds (l : Launch) (D : va_G) (ids : Nat → ClassId) (H0 : Heap) (h : rl_H) (n : Nat) (m : Nat) (T : md_T) (fu : Int32) (k : Nat) (S : md_A) (z : sh_S) (q : Int32) (hu : md_un ids h m T fu k S z) : rl_Met l (rl_e D ids H0) rl_BW rl_Ns yX8_holds cX8_holds 2 (some .int) ({ frames := 2, cells := 0, slots := 0, locals := 48 }) [.ref m, .int q] h n (fun v h' n' => ∃ r : Int32, v = some (.int r) ∧ n' = n ∧ mdx ids h' m T z (fun S' => S' = S) (∀ q : Nat, m + 12 ≤ q → q < m + 22 → h' q = h q) ∧ rl_fr h h' m (m + 23)) := by
  obtain ⟨hq, hs, ⟨hsc, hsc4⟩, hwf, ⟨hrr, hr36⟩, ⟨hnc, hn16⟩, hnw, hpr, hnv, hwv, wrc, hrc6, hrc⟩ := id hu
  have hq0 := hq.ob (nI 0, T.2) fu k hq.2.1
  have g0 := hq.1
  obtain ⟨-, gk, ⟨⟨cl, g12⟩, ⟨tu, g13, b13⟩, ⟨im, g14⟩, ⟨te, g15, b15⟩, ⟨ne, g16⟩, ⟨la, g17⟩, ⟨hn, g18⟩, ⟨hl, g19⟩, ⟨tp, g20⟩, ⟨gr, g21, b21⟩, ⟨it, g22⟩⟩, gf⟩ := id hq
  refine rl_Met.of (by decide +kernel) (Nat.le_of_ble_eq_true rfl) ?_
  intro X hC hB
  show rl_G X (rl_e D ids H0) 0 [some (.ref m), some (.int q)] [] h n 0 0
  refine o_aload_n hC dX8_holds_0 (by rfl) ?_
  refine o_iconst (v := nI 0) hC dX8_holds_1 (by decide +kernel) ?_
  refine o_putf hC (fX8_78 hC rfl) (fwX8 rfl rfl rfl (Or.inl rfl)) dX8_holds_2 (by repeat (first | with_reducible assumption | (rw [rl_u_s]; done) | (rw [rl_u_s]; rfl) | rw [rl_u_n (by first | with_reducible assumption | omega)])) (Nat.le_of_ble_eq_true rfl) ?_
  try simp only [List.set_cons_zero, List.set_cons_succ]
  refine o_aload_n hC dX8_holds_5 (by rfl) ?_
  refine o_iload_n hC dX8_holds_6 (by rfl) ?_
  refine o_callV1 hC rl_BW_good rl_Ns_nw (by exact hB.2.2.2.2.2) YX8_isTuple IX8_isTuple VX8_isTuple (mX8_199 hC) (by rw [hB.1]; exact ct_X8_isTuple l D ids H0 _ _ m (m + 13) _ _ tu (by repeat (first | with_reducible assumption | (rw [rl_u_s]; done) | (rw [rl_u_s]; rfl) | rw [rl_u_n (by first | with_reducible assumption | omega)])) rfl (by repeat (first | with_reducible assumption | (rw [rl_u_s]; done) | (rw [rl_u_s]; rfl) | rw [rl_u_n (by first | with_reducible assumption | omega)]))) (by repeat (first | with_reducible assumption | (rw [rl_u_s]; done) | (rw [rl_u_s]; rfl) | rw [rl_u_n (by first | with_reducible assumption | omega)])) rfl rfl (Nat.le_of_ble_eq_true rfl) (by rw [hB.2.1]; first | exact Nat.le_of_ble_eq_true rfl | (dsimp only; omega)) (by rw [hB.2.1]; first | exact Nat.le_of_ble_eq_true rfl | (dsimp only; omega)) (by rw [hB.2.1]; first | exact Nat.le_of_ble_eq_true rfl | (dsimp only; omega)) (by rw [hB.2.1]; first | exact Nat.le_of_ble_eq_true rfl | (dsimp only; omega)) dX8_holds_7 (fun v h_7 n_7 p_7 => ?_)
  obtain ⟨rfl, rfl, rfl⟩ := p_7
  try dsimp only [Option.toList, List.cons_append, List.nil_append]
  obtain ⟨t16, ht16, et16⟩ := b13 16 (by decide)
  by_cases hr : q < 0 ∨ tu 16 ≤ q
  · rw [if_pos hr]
    refine o_if_ne (tgt := 17) hC dX8_holds_10 (by decide) (fun c_10 => ?_) (fun c_10 => ?_)
    · exact absurd rfl c_10
    · refine o_iconst (v := (-1 : Int32)) hC dX8_holds_13 (by decide +kernel) ?_
      refine o_goto (tgt := 34) hC dX8_holds_14 (by decide) ?_
      refine o_iret hC hB dX8_holds_34 (Nat.le_of_ble_eq_true rfl) (Nat.le_of_ble_eq_true rfl) ?_
      exact ⟨_, rfl, rfl, ⟨_, _, _, S, hu.dp (hq0) rfl rfl rfl rfl ⟨wrc, hrc6, hrc⟩, rfl, rfl, fun q a b => by first | exact rl_u_n (by omega) | exact (rl_u_n (by omega)).trans (rl_u_n (by omega)) | exact (dst q a b).trans (rl_u_n (by omega))⟩, (hq0).fr⟩
  · rw [if_neg hr]
    obtain ⟨t, ht0, rfl⟩ := nI_of_lt (k := t16) (by omega) (fun e => hr (Or.inl e)) (fun e => hr (Or.inr (by rw [et16]; exact e)))
    have ht : t < 80 := by omega
    obtain ⟨g00, gk0, -, gf0⟩ := id hq0
    refine o_if_ne (tgt := 17) hC dX8_holds_10 (by decide) (fun c_10 => ?_) (fun c_10 => ?_)
    · refine o_aload_n hC dX8_holds_17 (by rfl) ?_
      refine o_iload_n hC dX8_holds_18 (by rfl) ?_
      refine o_aload_n hC dX8_holds_19 (by rfl) ?_
      refine o_getf hC (fX8_115 hC rfl) dX8_holds_20 (by repeat (first | with_reducible assumption | (rw [rl_u_s]; done) | (rw [rl_u_s]; rfl) | rw [rl_u_n (by first | with_reducible assumption | omega)])) (by first | rfl | with_reducible assumption) ?_
      refine o_callV2 hC rl_BW_good rl_Ns_nw (by exact hB.2.2.2.2.2) YX8_isSo IX8_isSo VX8_isSo (mX8_206 hC) (by rw [hB.1]; exact cm_X8_isSo l D ids H0 _ _ m _ _ _ t _ hq0.rf ht) (by exact hq0.1) rfl rfl (Nat.le_of_ble_eq_true rfl) (by rw [hB.2.1]; first | exact Nat.le_of_ble_eq_true rfl | (dsimp only; omega)) (by rw [hB.2.1]; first | exact Nat.le_of_ble_eq_true rfl | (dsimp only; omega)) (by rw [hB.2.1]; first | exact Nat.le_of_ble_eq_true rfl | (dsimp only; omega)) (by rw [hB.2.1]; first | exact Nat.le_of_ble_eq_true rfl | (dsimp only; omega)) dX8_holds_23 (fun v h_23 n_23 p_23 => ?_)
      obtain ⟨r23, rfl, rfl, rfl⟩ := p_23
      try dsimp only [Option.toList, List.cons_append, List.nil_append]
      refine o_if_eq (tgt := 33) hC dX8_holds_26 (by decide) (fun c_26 => ?_) (fun c_26 => ?_)
      · refine o_iconst (v := nI 0) hC dX8_holds_33 (by decide +kernel) ?_
        refine o_iret hC hB dX8_holds_34 (Nat.le_of_ble_eq_true rfl) (Nat.le_of_ble_eq_true rfl) ?_
        exact ⟨_, rfl, rfl, ⟨_, _, _, S, hu.dp (hq0) rfl rfl rfl rfl ⟨wrc, hrc6, hrc⟩, rfl, rfl, fun q a b => by first | exact rl_u_n (by omega) | exact (rl_u_n (by omega)).trans (rl_u_n (by omega)) | exact (dst q a b).trans (rl_u_n (by omega))⟩, (hq0).fr⟩
      · refine o_iconst (v := nI 1) hC dX8_holds_29 (by decide +kernel) ?_
        refine o_goto (tgt := 34) hC dX8_holds_30 (by decide) ?_
        refine o_iret hC hB dX8_holds_34 (Nat.le_of_ble_eq_true rfl) (Nat.le_of_ble_eq_true rfl) ?_
        exact ⟨_, rfl, rfl, ⟨_, _, _, S, hu.dp (hq0) rfl rfl rfl rfl ⟨wrc, hrc6, hrc⟩, rfl, rfl, fun q a b => by first | exact rl_u_n (by omega) | exact (rl_u_n (by omega)).trans (rl_u_n (by omega)) | exact (dst q a b).trans (rl_u_n (by omega))⟩, (hq0).fr⟩
    · exact absurd c_10 (by decide +kernel)

set_option maxHeartbeats 4000000 in
set_option maxRecDepth 100000 in
theorem cm_X8_made (l : Launch) (D : va_G) (ids : Nat → ClassId) (H0 : Heap) (h : rl_H) (n : Nat) (m : Nat) (T : md_T) (fu : Int32) (k : Nat) (S : md_A) (z : sh_S) (q : Int32) (hu : md_un ids h m T fu k S z) : rl_Met l (rl_e D ids H0) rl_BW rl_Ns yX8_made cX8_made 2 (some .int) ({ frames := 1, cells := 0, slots := 0, locals := 25 }) [.ref m, .int q] h n (fun v h' n' => ∃ r : Int32, v = some (.int r) ∧ n' = n ∧ mdx ids h' m T z (fun S' => S' = S) (∀ q : Nat, m + 12 ≤ q → q < m + 22 → h' q = h q) ∧ rl_fr h h' m (m + 23)) := by
  obtain ⟨hq, hs, ⟨hsc, hsc4⟩, hwf, ⟨hrr, hr36⟩, ⟨hnc, hn16⟩, hnw, hpr, hnv, hwv, wrc, hrc6, hrc⟩ := id hu
  have hq0 := hq.ob (nI 0, T.2) fu k hq.2.1
  have g0 := hq.1
  obtain ⟨-, gk, ⟨⟨cl, g12⟩, ⟨tu, g13, b13⟩, ⟨im, g14⟩, ⟨te, g15, b15⟩, ⟨ne, g16⟩, ⟨la, g17⟩, ⟨hn, g18⟩, ⟨hl, g19⟩, ⟨tp, g20⟩, ⟨gr, g21, b21⟩, ⟨it, g22⟩⟩, gf⟩ := id hq
  refine rl_Met.of (by decide +kernel) (Nat.le_of_ble_eq_true rfl) ?_
  intro X hC hB
  show rl_G X (rl_e D ids H0) 0 [some (.ref m), some (.int q)] [] h n 0 0
  refine o_aload_n hC dX8_made_0 (by rfl) ?_
  refine o_iconst (v := nI 0) hC dX8_made_1 (by decide +kernel) ?_
  refine o_putf hC (fX8_78 hC rfl) (fwX8 rfl rfl rfl (Or.inl rfl)) dX8_made_2 (by repeat (first | with_reducible assumption | (rw [rl_u_s]; done) | (rw [rl_u_s]; rfl) | rw [rl_u_n (by first | with_reducible assumption | omega)])) (Nat.le_of_ble_eq_true rfl) ?_
  try simp only [List.set_cons_zero, List.set_cons_succ]
  refine o_aload_n hC dX8_made_5 (by rfl) ?_
  refine o_iload_n hC dX8_made_6 (by rfl) ?_
  refine o_callV1 hC rl_BW_good rl_Ns_nw (by exact hB.2.2.2.2.2) YX8_isTuple IX8_isTuple VX8_isTuple (mX8_199 hC) (by rw [hB.1]; exact ct_X8_isTuple l D ids H0 _ _ m (m + 13) _ _ tu (by repeat (first | with_reducible assumption | (rw [rl_u_s]; done) | (rw [rl_u_s]; rfl) | rw [rl_u_n (by first | with_reducible assumption | omega)])) rfl (by repeat (first | with_reducible assumption | (rw [rl_u_s]; done) | (rw [rl_u_s]; rfl) | rw [rl_u_n (by first | with_reducible assumption | omega)]))) (by repeat (first | with_reducible assumption | (rw [rl_u_s]; done) | (rw [rl_u_s]; rfl) | rw [rl_u_n (by first | with_reducible assumption | omega)])) rfl rfl (Nat.le_of_ble_eq_true rfl) (by rw [hB.2.1]; first | exact Nat.le_of_ble_eq_true rfl | (dsimp only; omega)) (by rw [hB.2.1]; first | exact Nat.le_of_ble_eq_true rfl | (dsimp only; omega)) (by rw [hB.2.1]; first | exact Nat.le_of_ble_eq_true rfl | (dsimp only; omega)) (by rw [hB.2.1]; first | exact Nat.le_of_ble_eq_true rfl | (dsimp only; omega)) dX8_made_7 (fun v h_7 n_7 p_7 => ?_)
  obtain ⟨rfl, rfl, rfl⟩ := p_7
  try dsimp only [Option.toList, List.cons_append, List.nil_append]
  obtain ⟨t16, ht16, et16⟩ := b13 16 (by decide)
  by_cases hr : q < 0 ∨ tu 16 ≤ q
  · rw [if_pos hr]
    refine o_if_ne (tgt := 17) hC dX8_made_10 (by decide) (fun c_10 => ?_) (fun c_10 => ?_)
    · exact absurd rfl c_10
    · refine o_iconst (v := (-1 : Int32)) hC dX8_made_13 (by decide +kernel) ?_
      refine o_goto (tgt := 26) hC dX8_made_14 (by decide) ?_
      refine o_iret hC hB dX8_made_26 (Nat.le_of_ble_eq_true rfl) (Nat.le_of_ble_eq_true rfl) ?_
      exact ⟨_, rfl, rfl, ⟨_, _, _, S, hu.dp (hq0) rfl rfl rfl rfl ⟨wrc, hrc6, hrc⟩, rfl, rfl, fun q a b => by first | exact rl_u_n (by omega) | exact (rl_u_n (by omega)).trans (rl_u_n (by omega)) | exact (dst q a b).trans (rl_u_n (by omega))⟩, (hq0).fr⟩
  · rw [if_neg hr]
    obtain ⟨t, ht0, rfl⟩ := nI_of_lt (k := t16) (by omega) (fun e => hr (Or.inl e)) (fun e => hr (Or.inr (by rw [et16]; exact e)))
    have ht : t < 80 := by omega
    obtain ⟨g00, gk0, -, gf0⟩ := id hq0
    refine o_if_ne (tgt := 17) hC dX8_made_10 (by decide) (fun c_10 => ?_) (fun c_10 => ?_)
    · refine o_aload_n hC dX8_made_17 (by rfl) ?_
      refine o_iload_n hC dX8_made_18 (by rfl) ?_
      refine o_aload_n hC dX8_made_19 (by rfl) ?_
      refine o_getf hC (fX8_115 hC rfl) dX8_made_20 (by repeat (first | with_reducible assumption | (rw [rl_u_s]; done) | (rw [rl_u_s]; rfl) | rw [rl_u_n (by first | with_reducible assumption | omega)])) (by first | rfl | with_reducible assumption) ?_
      refine o_callV2 hC rl_BW_good rl_Ns_nw (by exact hB.2.2.2.2.2) YX8_first IX8_first VX8_first (mX8_202 hC) (by rw [hB.1]; exact cm_X8_first l D ids H0 _ _ m _ _ _ t _ hq0.rf ht) (by exact hq0.1) rfl rfl (Nat.le_of_ble_eq_true rfl) (by rw [hB.2.1]; first | exact Nat.le_of_ble_eq_true rfl | (dsimp only; omega)) (by rw [hB.2.1]; first | exact Nat.le_of_ble_eq_true rfl | (dsimp only; omega)) (by rw [hB.2.1]; first | exact Nat.le_of_ble_eq_true rfl | (dsimp only; omega)) (by rw [hB.2.1]; first | exact Nat.le_of_ble_eq_true rfl | (dsimp only; omega)) dX8_made_23 (fun v h_23 n_23 p_23 => ?_)
      obtain ⟨r23, rfl, rfl, rfl⟩ := p_23
      try dsimp only [Option.toList, List.cons_append, List.nil_append]
      refine o_iret hC hB dX8_made_26 (Nat.le_of_ble_eq_true rfl) (Nat.le_of_ble_eq_true rfl) ?_
      exact ⟨_, rfl, rfl, ⟨_, _, _, S, hu.dp (hq0) rfl rfl rfl rfl ⟨wrc, hrc6, hrc⟩, rfl, rfl, fun q a b => by first | exact rl_u_n (by omega) | exact (rl_u_n (by omega)).trans (rl_u_n (by omega)) | exact (dst q a b).trans (rl_u_n (by omega))⟩, (hq0).fr⟩
    · exact absurd c_10 (by decide +kernel)

set_option maxHeartbeats 4000000 in
set_option maxRecDepth 100000 in
theorem cm_X8_under (l : Launch) (D : va_G) (ids : Nat → ClassId) (H0 : Heap) (h : rl_H) (n : Nat) (m : Nat) (T : md_T) (fu : Int32) (k : Nat) (S : md_A) (z : sh_S) (q : Int32) (st : Int64) (hu : md_un ids h m T fu k S z) : rl_Met l (rl_e D ids H0) rl_BW rl_Ns yX8_under cX8_under 4 (some .int) ({ frames := 2, cells := 0, slots := 0, locals := 48 }) [.ref m, .int q, .long st] h n (fun v h' n' => ∃ r : Int32, v = some (.int r) ∧ n' = n ∧ mdx ids h' m T z (fun S' => S' = S) (∀ q : Nat, m + 12 ≤ q → q < m + 22 → h' q = h q) ∧ rl_fr h h' m (m + 23)) := by
  obtain ⟨hq, hs, ⟨hsc, hsc4⟩, hwf, ⟨hrr, hr36⟩, ⟨hnc, hn16⟩, hnw, hpr, hnv, hwv, wrc, hrc6, hrc⟩ := id hu
  have hq0 := hq.ob (nI 0, T.2) fu k hq.2.1
  have g0 := hq.1
  obtain ⟨-, gk, ⟨⟨cl, g12⟩, ⟨tu, g13, b13⟩, ⟨im, g14⟩, ⟨te, g15, b15⟩, ⟨ne, g16⟩, ⟨la, g17⟩, ⟨hn, g18⟩, ⟨hl, g19⟩, ⟨tp, g20⟩, ⟨gr, g21, b21⟩, ⟨it, g22⟩⟩, gf⟩ := id hq
  refine rl_Met.of (by decide +kernel) (Nat.le_of_ble_eq_true rfl) ?_
  intro X hC hB
  show rl_G X (rl_e D ids H0) 0 [some (.ref m), some (.int q), some (.long st), none] [] h n 0 0
  refine o_aload_n hC dX8_under_0 (by rfl) ?_
  refine o_iconst (v := nI 0) hC dX8_under_1 (by decide +kernel) ?_
  refine o_putf hC (fX8_78 hC rfl) (fwX8 rfl rfl rfl (Or.inl rfl)) dX8_under_2 (by repeat (first | with_reducible assumption | (rw [rl_u_s]; done) | (rw [rl_u_s]; rfl) | rw [rl_u_n (by first | with_reducible assumption | omega)])) (Nat.le_of_ble_eq_true rfl) ?_
  try simp only [List.set_cons_zero, List.set_cons_succ]
  refine o_aload_n hC dX8_under_5 (by rfl) ?_
  refine o_iload_n hC dX8_under_6 (by rfl) ?_
  refine o_callV1 hC rl_BW_good rl_Ns_nw (by exact hB.2.2.2.2.2) YX8_isTuple IX8_isTuple VX8_isTuple (mX8_199 hC) (by rw [hB.1]; exact ct_X8_isTuple l D ids H0 _ _ m (m + 13) _ _ tu (by repeat (first | with_reducible assumption | (rw [rl_u_s]; done) | (rw [rl_u_s]; rfl) | rw [rl_u_n (by first | with_reducible assumption | omega)])) rfl (by repeat (first | with_reducible assumption | (rw [rl_u_s]; done) | (rw [rl_u_s]; rfl) | rw [rl_u_n (by first | with_reducible assumption | omega)]))) (by repeat (first | with_reducible assumption | (rw [rl_u_s]; done) | (rw [rl_u_s]; rfl) | rw [rl_u_n (by first | with_reducible assumption | omega)])) rfl rfl (Nat.le_of_ble_eq_true rfl) (by rw [hB.2.1]; first | exact Nat.le_of_ble_eq_true rfl | (dsimp only; omega)) (by rw [hB.2.1]; first | exact Nat.le_of_ble_eq_true rfl | (dsimp only; omega)) (by rw [hB.2.1]; first | exact Nat.le_of_ble_eq_true rfl | (dsimp only; omega)) (by rw [hB.2.1]; first | exact Nat.le_of_ble_eq_true rfl | (dsimp only; omega)) dX8_under_7 (fun v h_7 n_7 p_7 => ?_)
  obtain ⟨rfl, rfl, rfl⟩ := p_7
  try dsimp only [Option.toList, List.cons_append, List.nil_append]
  obtain ⟨t16, ht16, et16⟩ := b13 16 (by decide)
  by_cases hr : q < 0 ∨ tu 16 ≤ q
  · rw [if_pos hr]
    refine o_if_ne (tgt := 15) hC dX8_under_10 (by decide) (fun c_10 => ?_) (fun c_10 => ?_)
    · exact absurd rfl c_10
    · refine o_iconst (v := (-1 : Int32)) hC dX8_under_13 (by decide +kernel) ?_
      refine o_iret hC hB dX8_under_14 (Nat.le_of_ble_eq_true rfl) (Nat.le_of_ble_eq_true rfl) ?_
      exact ⟨_, rfl, rfl, ⟨_, _, _, S, hu.dp (hq0) rfl rfl rfl rfl ⟨wrc, hrc6, hrc⟩, rfl, rfl, fun q a b => by first | exact rl_u_n (by omega) | exact (rl_u_n (by omega)).trans (rl_u_n (by omega)) | exact (dst q a b).trans (rl_u_n (by omega))⟩, (hq0).fr⟩
  · rw [if_neg hr]
    obtain ⟨t, ht0, rfl⟩ := nI_of_lt (k := t16) (by omega) (fun e => hr (Or.inl e)) (fun e => hr (Or.inr (by rw [et16]; exact e)))
    have ht : t < 80 := by omega
    obtain ⟨g00, gk0, -, gf0⟩ := id hq0
    refine o_if_ne (tgt := 15) hC dX8_under_10 (by decide) (fun c_10 => ?_) (fun c_10 => ?_)
    · refine o_lload_n hC dX8_under_15 (by rfl) ?_
      refine o_lconst (v := 0) hC dX8_under_16 (by decide +kernel) ?_
      refine o_lcmp hC dX8_under_17 ?_
      refine o_if_lt (tgt := 32) hC dX8_under_18 (by decide) (fun c_18 => ?_) (fun c_18 => ?_)
      · refine o_bipush (v := (-2 : Int32)) hC dX8_under_32 (by decide +kernel) ?_
        refine o_iret hC hB dX8_under_34 (Nat.le_of_ble_eq_true rfl) (Nat.le_of_ble_eq_true rfl) ?_
        exact ⟨_, rfl, rfl, ⟨_, _, _, S, hu.dp (hq0) rfl rfl rfl rfl ⟨wrc, hrc6, hrc⟩, rfl, rfl, fun q a b => by first | exact rl_u_n (by omega) | exact (rl_u_n (by omega)).trans (rl_u_n (by omega)) | exact (dst q a b).trans (rl_u_n (by omega))⟩, (hq0).fr⟩
      · refine o_lload_n hC dX8_under_21 (by rfl) ?_
        refine o_aload_n hC dX8_under_22 (by rfl) ?_
        refine o_getf hC (fX8_112 hC rfl) dX8_under_23 (by repeat (first | with_reducible assumption | (rw [rl_u_s]; done) | (rw [rl_u_s]; rfl) | rw [rl_u_n (by first | with_reducible assumption | omega)])) (by first | rfl | with_reducible assumption) ?_
        refine o_lshr hC dX8_under_26 ?_
        refine o_lconst (v := 0) hC dX8_under_27 (by decide +kernel) ?_
        refine o_lcmp hC dX8_under_28 ?_
        refine o_if_eq (tgt := 35) hC dX8_under_29 (by decide) (fun c_29 => ?_) (fun c_29 => ?_)
        · refine o_aload_n hC dX8_under_35 (by rfl) ?_
          refine o_iload_n hC dX8_under_36 (by rfl) ?_
          refine o_lload_n hC dX8_under_37 (by rfl) ?_
          refine o_callV2 hC rl_BW_good rl_Ns_nw (by exact hB.2.2.2.2.2) YX8_isSo IX8_isSo VX8_isSo (mX8_206 hC) (by rw [hB.1]; exact cm_X8_isSo l D ids H0 _ _ m _ _ _ t _ hq0.rf ht) (by exact hq0.1) rfl rfl (Nat.le_of_ble_eq_true rfl) (by rw [hB.2.1]; first | exact Nat.le_of_ble_eq_true rfl | (dsimp only; omega)) (by rw [hB.2.1]; first | exact Nat.le_of_ble_eq_true rfl | (dsimp only; omega)) (by rw [hB.2.1]; first | exact Nat.le_of_ble_eq_true rfl | (dsimp only; omega)) (by rw [hB.2.1]; first | exact Nat.le_of_ble_eq_true rfl | (dsimp only; omega)) dX8_under_38 (fun v h_38 n_38 p_38 => ?_)
          obtain ⟨r38, rfl, rfl, rfl⟩ := p_38
          try dsimp only [Option.toList, List.cons_append, List.nil_append]
          refine o_if_eq (tgt := 48) hC dX8_under_41 (by decide) (fun c_41 => ?_) (fun c_41 => ?_)
          · refine o_iconst (v := nI 0) hC dX8_under_48 (by decide +kernel) ?_
            refine o_iret hC hB dX8_under_49 (Nat.le_of_ble_eq_true rfl) (Nat.le_of_ble_eq_true rfl) ?_
            exact ⟨_, rfl, rfl, ⟨_, _, _, S, hu.dp (hq0) rfl rfl rfl rfl ⟨wrc, hrc6, hrc⟩, rfl, rfl, fun q a b => by first | exact rl_u_n (by omega) | exact (rl_u_n (by omega)).trans (rl_u_n (by omega)) | exact (dst q a b).trans (rl_u_n (by omega))⟩, (hq0).fr⟩
          · refine o_iconst (v := nI 1) hC dX8_under_44 (by decide +kernel) ?_
            refine o_goto (tgt := 49) hC dX8_under_45 (by decide) ?_
            refine o_iret hC hB dX8_under_49 (Nat.le_of_ble_eq_true rfl) (Nat.le_of_ble_eq_true rfl) ?_
            exact ⟨_, rfl, rfl, ⟨_, _, _, S, hu.dp (hq0) rfl rfl rfl rfl ⟨wrc, hrc6, hrc⟩, rfl, rfl, fun q a b => by first | exact rl_u_n (by omega) | exact (rl_u_n (by omega)).trans (rl_u_n (by omega)) | exact (dst q a b).trans (rl_u_n (by omega))⟩, (hq0).fr⟩
        · refine o_bipush (v := (-2 : Int32)) hC dX8_under_32 (by decide +kernel) ?_
          refine o_iret hC hB dX8_under_34 (Nat.le_of_ble_eq_true rfl) (Nat.le_of_ble_eq_true rfl) ?_
          exact ⟨_, rfl, rfl, ⟨_, _, _, S, hu.dp (hq0) rfl rfl rfl rfl ⟨wrc, hrc6, hrc⟩, rfl, rfl, fun q a b => by first | exact rl_u_n (by omega) | exact (rl_u_n (by omega)).trans (rl_u_n (by omega)) | exact (dst q a b).trans (rl_u_n (by omega))⟩, (hq0).fr⟩
    · exact absurd c_10 (by decide +kernel)

set_option maxHeartbeats 4000000 in
set_option maxRecDepth 100000 in
theorem cm_X8_cell (l : Launch) (D : va_G) (ids : Nat → ClassId) (H0 : Heap) (h : rl_H) (n : Nat) (m : Nat) (T : md_T) (fu : Int32) (k : Nat) (S : md_A) (z : sh_S) (q c : Int32) (hu : md_un ids h m T fu k S z) : rl_Met l (rl_e D ids H0) rl_BW rl_Ns yX8_cell cX8_cell 3 (some .int) ({ frames := 1, cells := 0, slots := 0, locals := 23 }) [.ref m, .int q, .int c] h n (fun v h' n' => ∃ r : Int32, v = some (.int r) ∧ n' = n ∧ mdx ids h' m T z (fun S' => S' = S) (∀ q : Nat, m + 12 ≤ q → q < m + 22 → h' q = h q) ∧ rl_fr h h' m (m + 23)) := by
  obtain ⟨hq, hs, ⟨hsc, hsc4⟩, hwf, ⟨hrr, hr36⟩, ⟨hnc, hn16⟩, hnw, hpr, hnv, hwv, wrc, hrc6, hrc⟩ := id hu
  have hq0 := hq.ob (nI 0, T.2) fu k hq.2.1
  have g0 := hq.1
  obtain ⟨-, gk, ⟨⟨cl, g12⟩, ⟨tu, g13, b13⟩, ⟨im, g14⟩, ⟨te, g15, b15⟩, ⟨ne, g16⟩, ⟨la, g17⟩, ⟨hn, g18⟩, ⟨hl, g19⟩, ⟨tp, g20⟩, ⟨gr, g21, b21⟩, ⟨it, g22⟩⟩, gf⟩ := id hq
  refine rl_Met.of (by decide +kernel) (Nat.le_of_ble_eq_true rfl) ?_
  intro X hC hB
  show rl_G X (rl_e D ids H0) 0 [some (.ref m), some (.int q), some (.int c)] [] h n 0 0
  refine o_aload_n hC dX8_cell_0 (by rfl) ?_
  refine o_iconst (v := nI 0) hC dX8_cell_1 (by decide +kernel) ?_
  refine o_putf hC (fX8_78 hC rfl) (fwX8 rfl rfl rfl (Or.inl rfl)) dX8_cell_2 (by repeat (first | with_reducible assumption | (rw [rl_u_s]; done) | (rw [rl_u_s]; rfl) | rw [rl_u_n (by first | with_reducible assumption | omega)])) (Nat.le_of_ble_eq_true rfl) ?_
  try simp only [List.set_cons_zero, List.set_cons_succ]
  refine o_aload_n hC dX8_cell_5 (by rfl) ?_
  refine o_iload_n hC dX8_cell_6 (by rfl) ?_
  refine o_callV1 hC rl_BW_good rl_Ns_nw (by exact hB.2.2.2.2.2) YX8_isTuple IX8_isTuple VX8_isTuple (mX8_199 hC) (by rw [hB.1]; exact ct_X8_isTuple l D ids H0 _ _ m (m + 13) _ _ tu (by repeat (first | with_reducible assumption | (rw [rl_u_s]; done) | (rw [rl_u_s]; rfl) | rw [rl_u_n (by first | with_reducible assumption | omega)])) rfl (by repeat (first | with_reducible assumption | (rw [rl_u_s]; done) | (rw [rl_u_s]; rfl) | rw [rl_u_n (by first | with_reducible assumption | omega)]))) (by repeat (first | with_reducible assumption | (rw [rl_u_s]; done) | (rw [rl_u_s]; rfl) | rw [rl_u_n (by first | with_reducible assumption | omega)])) rfl rfl (Nat.le_of_ble_eq_true rfl) (by rw [hB.2.1]; first | exact Nat.le_of_ble_eq_true rfl | (dsimp only; omega)) (by rw [hB.2.1]; first | exact Nat.le_of_ble_eq_true rfl | (dsimp only; omega)) (by rw [hB.2.1]; first | exact Nat.le_of_ble_eq_true rfl | (dsimp only; omega)) (by rw [hB.2.1]; first | exact Nat.le_of_ble_eq_true rfl | (dsimp only; omega)) dX8_cell_7 (fun v h_7 n_7 p_7 => ?_)
  obtain ⟨rfl, rfl, rfl⟩ := p_7
  try dsimp only [Option.toList, List.cons_append, List.nil_append]
  obtain ⟨t16, ht16, et16⟩ := b13 16 (by decide)
  by_cases hr : q < 0 ∨ tu 16 ≤ q
  · rw [if_pos hr]
    refine o_if_eq (tgt := 25) hC dX8_cell_10 (by decide) (fun c_10 => ?_) (fun c_10 => ?_)
    · refine o_aload_n hC dX8_cell_25 (by rfl) ?_
      refine o_iconst (v := nI 1) hC dX8_cell_26 (by decide +kernel) ?_
      refine o_putf hC (fX8_78 hC rfl) (fwX8 rfl rfl rfl (Or.inl rfl)) dX8_cell_27 (by repeat (first | with_reducible assumption | (rw [rl_u_s]; done) | (rw [rl_u_s]; rfl) | rw [rl_u_n (by first | with_reducible assumption | omega)])) (Nat.le_of_ble_eq_true rfl) ?_
      try simp only [List.set_cons_zero, List.set_cons_succ]
      refine o_iconst (v := nI 0) hC dX8_cell_30 (by decide +kernel) ?_
      refine o_iret hC hB dX8_cell_31 (Nat.le_of_ble_eq_true rfl) (Nat.le_of_ble_eq_true rfl) ?_
      first
      | exact ⟨_, rfl, rfl, ⟨_, _, _, S, hu.dp (hq0) rfl rfl rfl rfl ⟨wrc, hrc6, hrc⟩, rfl, rfl, fun q a b => by first | exact rl_u_n (by omega) | exact (rl_u_n (by omega)).trans (rl_u_n (by omega)) | exact (dst q a b).trans (rl_u_n (by omega))⟩, (hq0).fr⟩
      | exact ⟨_, rfl, rfl, ⟨_, _, _, S, hu.dp (hq0.ob (nI 1, T.2) fu k hq.2.1) rfl rfl rfl rfl ⟨wrc, hrc6, hrc⟩, rfl, rfl, fun q a b => by first | exact rl_u_n (by omega) | exact (rl_u_n (by omega)).trans (rl_u_n (by omega)) | exact (dst q a b).trans (rl_u_n (by omega))⟩, (hq0.ob (nI 1, T.2) fu k hq.2.1).fr⟩
    · exact absurd rfl c_10
  · rw [if_neg hr]
    obtain ⟨t, ht0, rfl⟩ := nI_of_lt (k := t16) (by omega) (fun e => hr (Or.inl e)) (fun e => hr (Or.inr (by rw [et16]; exact e)))
    have ht : t < 80 := by omega
    obtain ⟨g00, gk0, -, gf0⟩ := id hq0
    refine o_if_eq (tgt := 25) hC dX8_cell_10 (by decide) (fun c_10 => ?_) (fun c_10 => ?_)
    · refine o_aload_n hC dX8_cell_25 (by rfl) ?_
      refine o_iconst (v := nI 1) hC dX8_cell_26 (by decide +kernel) ?_
      refine o_putf hC (fX8_78 hC rfl) (fwX8 rfl rfl rfl (Or.inl rfl)) dX8_cell_27 (by repeat (first | with_reducible assumption | (rw [rl_u_s]; done) | (rw [rl_u_s]; rfl) | rw [rl_u_n (by first | with_reducible assumption | omega)])) (Nat.le_of_ble_eq_true rfl) ?_
      try simp only [List.set_cons_zero, List.set_cons_succ]
      refine o_iconst (v := nI 0) hC dX8_cell_30 (by decide +kernel) ?_
      refine o_iret hC hB dX8_cell_31 (Nat.le_of_ble_eq_true rfl) (Nat.le_of_ble_eq_true rfl) ?_
      first
      | exact ⟨_, rfl, rfl, ⟨_, _, _, S, hu.dp (hq0) rfl rfl rfl rfl ⟨wrc, hrc6, hrc⟩, rfl, rfl, fun q a b => by first | exact rl_u_n (by omega) | exact (rl_u_n (by omega)).trans (rl_u_n (by omega)) | exact (dst q a b).trans (rl_u_n (by omega))⟩, (hq0).fr⟩
      | exact ⟨_, rfl, rfl, ⟨_, _, _, S, hu.dp (hq0.ob (nI 1, T.2) fu k hq.2.1) rfl rfl rfl rfl ⟨wrc, hrc6, hrc⟩, rfl, rfl, fun q a b => by first | exact rl_u_n (by omega) | exact (rl_u_n (by omega)).trans (rl_u_n (by omega)) | exact (dst q a b).trans (rl_u_n (by omega))⟩, (hq0.ob (nI 1, T.2) fu k hq.2.1).fr⟩
    · refine o_iload_n hC dX8_cell_13 (by rfl) ?_
      refine o_if_lt (tgt := 25) hC dX8_cell_14 (by decide) (fun c_14 => ?_) (fun c_14 => ?_)
      · refine o_aload_n hC dX8_cell_25 (by rfl) ?_
        refine o_iconst (v := nI 1) hC dX8_cell_26 (by decide +kernel) ?_
        refine o_putf hC (fX8_78 hC rfl) (fwX8 rfl rfl rfl (Or.inl rfl)) dX8_cell_27 (by repeat (first | with_reducible assumption | (rw [rl_u_s]; done) | (rw [rl_u_s]; rfl) | rw [rl_u_n (by first | with_reducible assumption | omega)])) (Nat.le_of_ble_eq_true rfl) ?_
        try simp only [List.set_cons_zero, List.set_cons_succ]
        refine o_iconst (v := nI 0) hC dX8_cell_30 (by decide +kernel) ?_
        refine o_iret hC hB dX8_cell_31 (Nat.le_of_ble_eq_true rfl) (Nat.le_of_ble_eq_true rfl) ?_
        first
        | exact ⟨_, rfl, rfl, ⟨_, _, _, S, hu.dp (hq0) rfl rfl rfl rfl ⟨wrc, hrc6, hrc⟩, rfl, rfl, fun q a b => by first | exact rl_u_n (by omega) | exact (rl_u_n (by omega)).trans (rl_u_n (by omega)) | exact (dst q a b).trans (rl_u_n (by omega))⟩, (hq0).fr⟩
        | exact ⟨_, rfl, rfl, ⟨_, _, _, S, hu.dp (hq0.ob (nI 1, T.2) fu k hq.2.1) rfl rfl rfl rfl ⟨wrc, hrc6, hrc⟩, rfl, rfl, fun q a b => by first | exact rl_u_n (by omega) | exact (rl_u_n (by omega)).trans (rl_u_n (by omega)) | exact (dst q a b).trans (rl_u_n (by omega))⟩, (hq0.ob (nI 1, T.2) fu k hq.2.1).fr⟩
      · refine o_iload_n hC dX8_cell_17 (by rfl) ?_
        refine o_aload_n hC dX8_cell_18 (by rfl) ?_
        refine o_getf hC (fX8_196 hC rfl) dX8_cell_19 (by repeat (first | with_reducible assumption | (rw [rl_u_s]; done) | (rw [rl_u_s]; rfl) | rw [rl_u_n (by first | with_reducible assumption | omega)])) (by first | rfl | with_reducible assumption) ?_
        refine o_icmp_lt (tgt := 32) hC dX8_cell_22 (by decide) (fun c_22 => ?_) (fun c_22 => ?_)
        · obtain ⟨c0, hc0, rfl⟩ := nI_of_lt (k := wrc) (by omega) c_14 (fun e => absurd c_22 (by rw [hrc]; exact Int32.not_lt.mpr e))
          refine o_aload_n hC dX8_cell_32 (by rfl) ?_
          refine o_bipush (v := nI 16) hC dX8_cell_33 (by decide +kernel) ?_
          refine o_iload_n hC dX8_cell_35 (by rfl) ?_
          refine o_iload_n hC dX8_cell_36 (by rfl) ?_
          refine o_callV3 hC rl_BW_good rl_Ns_nw (by exact hB.2.2.2.2.2) YX8_cellAt IX8_cellAt VX8_cellAt (mX8_138 hC) (by rw [hB.1]; exact cm_X8_cellAt l D ids H0 _ _ m _ _ _ 16 t c0 hq0.rf (by omega)) (by exact hq0.1) rfl rfl (Nat.le_of_ble_eq_true rfl) (by rw [hB.2.1]; first | exact Nat.le_of_ble_eq_true rfl | (dsimp only; omega)) (by rw [hB.2.1]; first | exact Nat.le_of_ble_eq_true rfl | (dsimp only; omega)) (by rw [hB.2.1]; first | exact Nat.le_of_ble_eq_true rfl | (dsimp only; omega)) (by rw [hB.2.1]; first | exact Nat.le_of_ble_eq_true rfl | (dsimp only; omega)) dX8_cell_37 (fun v h_37 n_37 p_37 => ?_)
          obtain ⟨r37, rfl, rfl, rfl⟩ := p_37
          try dsimp only [Option.toList, List.cons_append, List.nil_append]
          refine o_iret hC hB dX8_cell_40 (Nat.le_of_ble_eq_true rfl) (Nat.le_of_ble_eq_true rfl) ?_
          first
          | exact ⟨_, rfl, rfl, ⟨_, _, _, S, hu.dp (hq0) rfl rfl rfl rfl ⟨wrc, hrc6, hrc⟩, rfl, rfl, fun q a b => by first | exact rl_u_n (by omega) | exact (rl_u_n (by omega)).trans (rl_u_n (by omega)) | exact (dst q a b).trans (rl_u_n (by omega))⟩, (hq0).fr⟩
          | exact ⟨_, rfl, rfl, ⟨_, _, _, S, hu.dp (hq0.ob (nI 1, T.2) fu k hq.2.1) rfl rfl rfl rfl ⟨wrc, hrc6, hrc⟩, rfl, rfl, fun q a b => by first | exact rl_u_n (by omega) | exact (rl_u_n (by omega)).trans (rl_u_n (by omega)) | exact (dst q a b).trans (rl_u_n (by omega))⟩, (hq0.ob (nI 1, T.2) fu k hq.2.1).fr⟩
        · refine o_aload_n hC dX8_cell_25 (by rfl) ?_
          refine o_iconst (v := nI 1) hC dX8_cell_26 (by decide +kernel) ?_
          refine o_putf hC (fX8_78 hC rfl) (fwX8 rfl rfl rfl (Or.inl rfl)) dX8_cell_27 (by repeat (first | with_reducible assumption | (rw [rl_u_s]; done) | (rw [rl_u_s]; rfl) | rw [rl_u_n (by first | with_reducible assumption | omega)])) (Nat.le_of_ble_eq_true rfl) ?_
          try simp only [List.set_cons_zero, List.set_cons_succ]
          refine o_iconst (v := nI 0) hC dX8_cell_30 (by decide +kernel) ?_
          refine o_iret hC hB dX8_cell_31 (Nat.le_of_ble_eq_true rfl) (Nat.le_of_ble_eq_true rfl) ?_
          first
          | exact ⟨_, rfl, rfl, ⟨_, _, _, S, hu.dp (hq0) rfl rfl rfl rfl ⟨wrc, hrc6, hrc⟩, rfl, rfl, fun q a b => by first | exact rl_u_n (by omega) | exact (rl_u_n (by omega)).trans (rl_u_n (by omega)) | exact (dst q a b).trans (rl_u_n (by omega))⟩, (hq0).fr⟩
          | exact ⟨_, rfl, rfl, ⟨_, _, _, S, hu.dp (hq0.ob (nI 1, T.2) fu k hq.2.1) rfl rfl rfl rfl ⟨wrc, hrc6, hrc⟩, rfl, rfl, fun q a b => by first | exact rl_u_n (by omega) | exact (rl_u_n (by omega)).trans (rl_u_n (by omega)) | exact (dst q a b).trans (rl_u_n (by omega))⟩, (hq0.ob (nI 1, T.2) fu k hq.2.1).fr⟩

set_option maxHeartbeats 4000000 in
set_option maxRecDepth 100000 in
theorem cm_X8_way (l : Launch) (D : va_G) (ids : Nat → ClassId) (H0 : Heap) (h : rl_H) (n : Nat) (m : Nat) (T : md_T) (fu : Int32) (k : Nat) (S : md_A) (z : sh_S) (q kk w : Int32) (hu : md_un ids h m T fu k S z) : rl_Met l (rl_e D ids H0) rl_BW rl_Ns yX8_way cX8_way 5 (some .long) ({ frames := 1, cells := 0, slots := 0, locals := 21 }) [.ref m, .int q, .int kk, .int w] h n (fun v h' n' => ∃ r : Int64, v = some (.long r) ∧ n' = n ∧ mdx ids h' m T z (fun S' => S' = S) (∀ q : Nat, m + 12 ≤ q → q < m + 22 → h' q = h q) ∧ rl_fr h h' m (m + 23)) := by
  obtain ⟨hq, hs, ⟨hsc, hsc4⟩, hwf, ⟨hrr, hr36⟩, ⟨hnc, hn16⟩, hnw, hpr, hnv, hwv, wrc, hrc6, hrc⟩ := id hu
  have hq0 := hq.ob (nI 0, T.2) fu k hq.2.1
  have g0 := hq.1
  obtain ⟨-, gk, ⟨⟨cl, g12⟩, ⟨tu, g13, b13⟩, ⟨im, g14⟩, ⟨te, g15, b15⟩, ⟨ne, g16⟩, ⟨la, g17⟩, ⟨hn, g18⟩, ⟨hl, g19⟩, ⟨tp, g20⟩, ⟨gr, g21, b21⟩, ⟨it, g22⟩⟩, gf⟩ := id hq
  refine rl_Met.of (by decide +kernel) (Nat.le_of_ble_eq_true rfl) ?_
  intro X hC hB
  show rl_G X (rl_e D ids H0) 0 [some (.ref m), some (.int q), some (.int kk), some (.int w), none] [] h n 0 0
  refine o_aload_n hC dX8_way_0 (by rfl) ?_
  refine o_iconst (v := nI 0) hC dX8_way_1 (by decide +kernel) ?_
  refine o_putf hC (fX8_78 hC rfl) (fwX8 rfl rfl rfl (Or.inl rfl)) dX8_way_2 (by repeat (first | with_reducible assumption | (rw [rl_u_s]; done) | (rw [rl_u_s]; rfl) | rw [rl_u_n (by first | with_reducible assumption | omega)])) (Nat.le_of_ble_eq_true rfl) ?_
  try simp only [List.set_cons_zero, List.set_cons_succ]
  refine o_aload_n hC dX8_way_5 (by rfl) ?_
  refine o_iload_n hC dX8_way_6 (by rfl) ?_
  refine o_callV1 hC rl_BW_good rl_Ns_nw (by exact hB.2.2.2.2.2) YX8_isTuple IX8_isTuple VX8_isTuple (mX8_199 hC) (by rw [hB.1]; exact ct_X8_isTuple l D ids H0 _ _ m (m + 13) _ _ tu (by repeat (first | with_reducible assumption | (rw [rl_u_s]; done) | (rw [rl_u_s]; rfl) | rw [rl_u_n (by first | with_reducible assumption | omega)])) rfl (by repeat (first | with_reducible assumption | (rw [rl_u_s]; done) | (rw [rl_u_s]; rfl) | rw [rl_u_n (by first | with_reducible assumption | omega)]))) (by repeat (first | with_reducible assumption | (rw [rl_u_s]; done) | (rw [rl_u_s]; rfl) | rw [rl_u_n (by first | with_reducible assumption | omega)])) rfl rfl (Nat.le_of_ble_eq_true rfl) (by rw [hB.2.1]; first | exact Nat.le_of_ble_eq_true rfl | (dsimp only; omega)) (by rw [hB.2.1]; first | exact Nat.le_of_ble_eq_true rfl | (dsimp only; omega)) (by rw [hB.2.1]; first | exact Nat.le_of_ble_eq_true rfl | (dsimp only; omega)) (by rw [hB.2.1]; first | exact Nat.le_of_ble_eq_true rfl | (dsimp only; omega)) dX8_way_7 (fun v h_7 n_7 p_7 => ?_)
  obtain ⟨rfl, rfl, rfl⟩ := p_7
  try dsimp only [Option.toList, List.cons_append, List.nil_append]
  obtain ⟨t16, ht16, et16⟩ := b13 16 (by decide)
  by_cases hr : q < 0 ∨ tu 16 ≤ q
  · rw [if_pos hr]
    refine o_if_eq (tgt := 31) hC dX8_way_10 (by decide) (fun c_10 => ?_) (fun c_10 => ?_)
    · refine o_aload_n hC dX8_way_31 (by rfl) ?_
      refine o_iconst (v := nI 1) hC dX8_way_32 (by decide +kernel) ?_
      refine o_putf hC (fX8_78 hC rfl) (fwX8 rfl rfl rfl (Or.inl rfl)) dX8_way_33 (by repeat (first | with_reducible assumption | (rw [rl_u_s]; done) | (rw [rl_u_s]; rfl) | rw [rl_u_n (by first | with_reducible assumption | omega)])) (Nat.le_of_ble_eq_true rfl) ?_
      try simp only [List.set_cons_zero, List.set_cons_succ]
      refine o_lconst (v := 0) hC dX8_way_36 (by decide +kernel) ?_
      refine o_lret hC hB dX8_way_37 (Nat.le_of_ble_eq_true rfl) (Nat.le_of_ble_eq_true rfl) ?_
      first
      | exact ⟨_, rfl, rfl, ⟨_, _, _, S, hu.dp (hq0) rfl rfl rfl rfl ⟨wrc, hrc6, hrc⟩, rfl, rfl, fun q a b => by first | exact rl_u_n (by omega) | exact (rl_u_n (by omega)).trans (rl_u_n (by omega)) | exact (dst q a b).trans (rl_u_n (by omega))⟩, (hq0).fr⟩
      | exact ⟨_, rfl, rfl, ⟨_, _, _, S, hu.dp (hq0.ob (nI 1, T.2) fu k hq.2.1) rfl rfl rfl rfl ⟨wrc, hrc6, hrc⟩, rfl, rfl, fun q a b => by first | exact rl_u_n (by omega) | exact (rl_u_n (by omega)).trans (rl_u_n (by omega)) | exact (dst q a b).trans (rl_u_n (by omega))⟩, (hq0.ob (nI 1, T.2) fu k hq.2.1).fr⟩
      | exact ⟨_, rfl, rfl, ⟨_, _, _, S, hu.dp (hq0.ob (nI 2, T.2) fu k hq.2.1) rfl rfl rfl rfl ⟨wrc, hrc6, hrc⟩, rfl, rfl, fun q a b => by first | exact rl_u_n (by omega) | exact (rl_u_n (by omega)).trans (rl_u_n (by omega)) | exact (dst q a b).trans (rl_u_n (by omega))⟩, (hq0.ob (nI 2, T.2) fu k hq.2.1).fr⟩
    · exact absurd rfl c_10
  · rw [if_neg hr]
    obtain ⟨t, ht0, rfl⟩ := nI_of_lt (k := t16) (by omega) (fun e => hr (Or.inl e)) (fun e => hr (Or.inr (by rw [et16]; exact e)))
    have ht : t < 80 := by omega
    obtain ⟨g00, gk0, -, gf0⟩ := id hq0
    refine o_if_eq (tgt := 31) hC dX8_way_10 (by decide) (fun c_10 => ?_) (fun c_10 => ?_)
    · refine o_aload_n hC dX8_way_31 (by rfl) ?_
      refine o_iconst (v := nI 1) hC dX8_way_32 (by decide +kernel) ?_
      refine o_putf hC (fX8_78 hC rfl) (fwX8 rfl rfl rfl (Or.inl rfl)) dX8_way_33 (by repeat (first | with_reducible assumption | (rw [rl_u_s]; done) | (rw [rl_u_s]; rfl) | rw [rl_u_n (by first | with_reducible assumption | omega)])) (Nat.le_of_ble_eq_true rfl) ?_
      try simp only [List.set_cons_zero, List.set_cons_succ]
      refine o_lconst (v := 0) hC dX8_way_36 (by decide +kernel) ?_
      refine o_lret hC hB dX8_way_37 (Nat.le_of_ble_eq_true rfl) (Nat.le_of_ble_eq_true rfl) ?_
      first
      | exact ⟨_, rfl, rfl, ⟨_, _, _, S, hu.dp (hq0) rfl rfl rfl rfl ⟨wrc, hrc6, hrc⟩, rfl, rfl, fun q a b => by first | exact rl_u_n (by omega) | exact (rl_u_n (by omega)).trans (rl_u_n (by omega)) | exact (dst q a b).trans (rl_u_n (by omega))⟩, (hq0).fr⟩
      | exact ⟨_, rfl, rfl, ⟨_, _, _, S, hu.dp (hq0.ob (nI 1, T.2) fu k hq.2.1) rfl rfl rfl rfl ⟨wrc, hrc6, hrc⟩, rfl, rfl, fun q a b => by first | exact rl_u_n (by omega) | exact (rl_u_n (by omega)).trans (rl_u_n (by omega)) | exact (dst q a b).trans (rl_u_n (by omega))⟩, (hq0.ob (nI 1, T.2) fu k hq.2.1).fr⟩
      | exact ⟨_, rfl, rfl, ⟨_, _, _, S, hu.dp (hq0.ob (nI 2, T.2) fu k hq.2.1) rfl rfl rfl rfl ⟨wrc, hrc6, hrc⟩, rfl, rfl, fun q a b => by first | exact rl_u_n (by omega) | exact (rl_u_n (by omega)).trans (rl_u_n (by omega)) | exact (dst q a b).trans (rl_u_n (by omega))⟩, (hq0.ob (nI 2, T.2) fu k hq.2.1).fr⟩
    · refine o_iload_n hC dX8_way_13 (by rfl) ?_
      refine o_if_lt (tgt := 31) hC dX8_way_14 (by decide) (fun c_14 => ?_) (fun c_14 => ?_)
      · refine o_aload_n hC dX8_way_31 (by rfl) ?_
        refine o_iconst (v := nI 1) hC dX8_way_32 (by decide +kernel) ?_
        refine o_putf hC (fX8_78 hC rfl) (fwX8 rfl rfl rfl (Or.inl rfl)) dX8_way_33 (by repeat (first | with_reducible assumption | (rw [rl_u_s]; done) | (rw [rl_u_s]; rfl) | rw [rl_u_n (by first | with_reducible assumption | omega)])) (Nat.le_of_ble_eq_true rfl) ?_
        try simp only [List.set_cons_zero, List.set_cons_succ]
        refine o_lconst (v := 0) hC dX8_way_36 (by decide +kernel) ?_
        refine o_lret hC hB dX8_way_37 (Nat.le_of_ble_eq_true rfl) (Nat.le_of_ble_eq_true rfl) ?_
        first
        | exact ⟨_, rfl, rfl, ⟨_, _, _, S, hu.dp (hq0) rfl rfl rfl rfl ⟨wrc, hrc6, hrc⟩, rfl, rfl, fun q a b => by first | exact rl_u_n (by omega) | exact (rl_u_n (by omega)).trans (rl_u_n (by omega)) | exact (dst q a b).trans (rl_u_n (by omega))⟩, (hq0).fr⟩
        | exact ⟨_, rfl, rfl, ⟨_, _, _, S, hu.dp (hq0.ob (nI 1, T.2) fu k hq.2.1) rfl rfl rfl rfl ⟨wrc, hrc6, hrc⟩, rfl, rfl, fun q a b => by first | exact rl_u_n (by omega) | exact (rl_u_n (by omega)).trans (rl_u_n (by omega)) | exact (dst q a b).trans (rl_u_n (by omega))⟩, (hq0.ob (nI 1, T.2) fu k hq.2.1).fr⟩
        | exact ⟨_, rfl, rfl, ⟨_, _, _, S, hu.dp (hq0.ob (nI 2, T.2) fu k hq.2.1) rfl rfl rfl rfl ⟨wrc, hrc6, hrc⟩, rfl, rfl, fun q a b => by first | exact rl_u_n (by omega) | exact (rl_u_n (by omega)).trans (rl_u_n (by omega)) | exact (dst q a b).trans (rl_u_n (by omega))⟩, (hq0.ob (nI 2, T.2) fu k hq.2.1).fr⟩
      · refine o_iload_n hC dX8_way_17 (by rfl) ?_
        refine o_aload_n hC dX8_way_18 (by rfl) ?_
        refine o_getf hC (fX8_53 hC rfl) dX8_way_19 (by repeat (first | with_reducible assumption | (rw [rl_u_s]; done) | (rw [rl_u_s]; rfl) | rw [rl_u_n (by first | with_reducible assumption | omega)])) (by first | rfl | with_reducible assumption) ?_
        refine o_sipush (v := nI 1280) hC dX8_way_22 (by decide +kernel) ?_
        refine o_iload_n hC dX8_way_25 (by rfl) ?_
        refine o_iadd hC dX8_way_26 ?_
        try rw [nI_add]
        refine o_ialdN (t0 := 0) hC rfl dX8_way_27 (by repeat (first | with_reducible assumption | (rw [rl_u_s]; done) | (rw [rl_u_s]; rfl) | rw [rl_u_n (by first | with_reducible assumption | omega)])) (by omega) (by decide) ?_
        refine o_icmp_lt (tgt := 38) hC dX8_way_28 (by decide) (fun c_28 => ?_) (fun c_28 => ?_)
        · refine o_iload_n hC dX8_way_38 (by rfl) ?_
          refine o_if_lt (tgt := 47) hC dX8_way_39 (by decide) (fun c_39 => ?_) (fun c_39 => ?_)
          · refine o_aload_n hC dX8_way_47 (by rfl) ?_
            refine o_iconst (v := nI 2) hC dX8_way_48 (by decide +kernel) ?_
            refine o_putf hC (fX8_78 hC rfl) (fwX8 rfl rfl rfl (Or.inl rfl)) dX8_way_49 (by repeat (first | with_reducible assumption | (rw [rl_u_s]; done) | (rw [rl_u_s]; rfl) | rw [rl_u_n (by first | with_reducible assumption | omega)])) (Nat.le_of_ble_eq_true rfl) ?_
            try simp only [List.set_cons_zero, List.set_cons_succ]
            refine o_lconst (v := 0) hC dX8_way_52 (by decide +kernel) ?_
            refine o_lret hC hB dX8_way_53 (Nat.le_of_ble_eq_true rfl) (Nat.le_of_ble_eq_true rfl) ?_
            first
            | exact ⟨_, rfl, rfl, ⟨_, _, _, S, hu.dp (hq0) rfl rfl rfl rfl ⟨wrc, hrc6, hrc⟩, rfl, rfl, fun q a b => by first | exact rl_u_n (by omega) | exact (rl_u_n (by omega)).trans (rl_u_n (by omega)) | exact (dst q a b).trans (rl_u_n (by omega))⟩, (hq0).fr⟩
            | exact ⟨_, rfl, rfl, ⟨_, _, _, S, hu.dp (hq0.ob (nI 1, T.2) fu k hq.2.1) rfl rfl rfl rfl ⟨wrc, hrc6, hrc⟩, rfl, rfl, fun q a b => by first | exact rl_u_n (by omega) | exact (rl_u_n (by omega)).trans (rl_u_n (by omega)) | exact (dst q a b).trans (rl_u_n (by omega))⟩, (hq0.ob (nI 1, T.2) fu k hq.2.1).fr⟩
            | exact ⟨_, rfl, rfl, ⟨_, _, _, S, hu.dp (hq0.ob (nI 2, T.2) fu k hq.2.1) rfl rfl rfl rfl ⟨wrc, hrc6, hrc⟩, rfl, rfl, fun q a b => by first | exact rl_u_n (by omega) | exact (rl_u_n (by omega)).trans (rl_u_n (by omega)) | exact (dst q a b).trans (rl_u_n (by omega))⟩, (hq0.ob (nI 2, T.2) fu k hq.2.1).fr⟩
          · refine o_iload_n hC dX8_way_42 (by rfl) ?_
            refine o_iconst (v := nI 1) hC dX8_way_43 (by decide +kernel) ?_
            refine o_icmp_le (tgt := 54) hC dX8_way_44 (by decide) (fun c_44 => ?_) (fun c_44 => ?_)
            · obtain ⟨kt, hkt, ekt⟩ := b15 (1280 + t) (by omega)
              obtain ⟨k0, hk0, rfl⟩ := nI_of_lt (k := kt) (by omega) c_14 (fun e => absurd c_28 (by rw [ekt]; exact Int32.not_lt.mpr e))
              refine o_sipush (v := nI 1280) hC dX8_way_54 (by decide +kernel) ?_
              refine o_iload_n hC dX8_way_57 (by rfl) ?_
              refine o_iadd hC dX8_way_58 ?_
              try rw [nI_add]
              refine o_istore hC dX8_way_59 (Nat.le_of_ble_eq_true rfl) ?_
              refine o_iload_n hC dX8_way_61 (by rfl) ?_
              refine o_if_ne (tgt := 80) hC dX8_way_62 (by decide) (fun c_62 => ?_) (fun c_62 => ?_)
              · refine o_aload_n hC dX8_way_80 (by rfl) ?_
                refine o_getf hC (fX8_60 hC rfl) dX8_way_81 (by repeat (first | with_reducible assumption | (rw [rl_u_s]; done) | (rw [rl_u_s]; rfl) | rw [rl_u_n (by first | with_reducible assumption | omega)])) (by first | rfl | with_reducible assumption) ?_
                refine o_bipush (v := nI 12) hC dX8_way_84 (by decide +kernel) ?_
                refine o_iload hC dX8_way_86 (by rfl) ?_
                refine o_imul hC dX8_way_88 ?_
                try rw [nI_mul]
                refine o_iload_n hC dX8_way_89 (by rfl) ?_
                refine o_iadd hC dX8_way_90 ?_
                try rw [nI_add]
                refine o_laldN (t0 := 1) hC rfl dX8_way_91 (by repeat (first | with_reducible assumption | (rw [rl_u_s]; done) | (rw [rl_u_s]; rfl) | rw [rl_u_n (by first | with_reducible assumption | omega)])) (by omega) (by decide) ?_
                refine o_lret hC hB dX8_way_92 (Nat.le_of_ble_eq_true rfl) (Nat.le_of_ble_eq_true rfl) ?_
                first
                | exact ⟨_, rfl, rfl, ⟨_, _, _, S, hu.dp (hq0) rfl rfl rfl rfl ⟨wrc, hrc6, hrc⟩, rfl, rfl, fun q a b => by first | exact rl_u_n (by omega) | exact (rl_u_n (by omega)).trans (rl_u_n (by omega)) | exact (dst q a b).trans (rl_u_n (by omega))⟩, (hq0).fr⟩
                | exact ⟨_, rfl, rfl, ⟨_, _, _, S, hu.dp (hq0.ob (nI 1, T.2) fu k hq.2.1) rfl rfl rfl rfl ⟨wrc, hrc6, hrc⟩, rfl, rfl, fun q a b => by first | exact rl_u_n (by omega) | exact (rl_u_n (by omega)).trans (rl_u_n (by omega)) | exact (dst q a b).trans (rl_u_n (by omega))⟩, (hq0.ob (nI 1, T.2) fu k hq.2.1).fr⟩
                | exact ⟨_, rfl, rfl, ⟨_, _, _, S, hu.dp (hq0.ob (nI 2, T.2) fu k hq.2.1) rfl rfl rfl rfl ⟨wrc, hrc6, hrc⟩, rfl, rfl, fun q a b => by first | exact rl_u_n (by omega) | exact (rl_u_n (by omega)).trans (rl_u_n (by omega)) | exact (dst q a b).trans (rl_u_n (by omega))⟩, (hq0.ob (nI 2, T.2) fu k hq.2.1).fr⟩
              · refine o_aload_n hC dX8_way_65 (by rfl) ?_
                refine o_getf hC (fX8_56 hC rfl) dX8_way_66 (by repeat (first | with_reducible assumption | (rw [rl_u_s]; done) | (rw [rl_u_s]; rfl) | rw [rl_u_n (by first | with_reducible assumption | omega)])) (by first | rfl | with_reducible assumption) ?_
                refine o_bipush (v := nI 12) hC dX8_way_69 (by decide +kernel) ?_
                refine o_iload hC dX8_way_71 (by rfl) ?_
                refine o_imul hC dX8_way_73 ?_
                try rw [nI_mul]
                refine o_iload_n hC dX8_way_74 (by rfl) ?_
                refine o_iadd hC dX8_way_75 ?_
                try rw [nI_add]
                refine o_laldN (t0 := 1) hC rfl dX8_way_76 (by repeat (first | with_reducible assumption | (rw [rl_u_s]; done) | (rw [rl_u_s]; rfl) | rw [rl_u_n (by first | with_reducible assumption | omega)])) (by omega) (by decide) ?_
                refine o_goto (tgt := 92) hC dX8_way_77 (by decide) ?_
                refine o_lret hC hB dX8_way_92 (Nat.le_of_ble_eq_true rfl) (Nat.le_of_ble_eq_true rfl) ?_
                first
                | exact ⟨_, rfl, rfl, ⟨_, _, _, S, hu.dp (hq0) rfl rfl rfl rfl ⟨wrc, hrc6, hrc⟩, rfl, rfl, fun q a b => by first | exact rl_u_n (by omega) | exact (rl_u_n (by omega)).trans (rl_u_n (by omega)) | exact (dst q a b).trans (rl_u_n (by omega))⟩, (hq0).fr⟩
                | exact ⟨_, rfl, rfl, ⟨_, _, _, S, hu.dp (hq0.ob (nI 1, T.2) fu k hq.2.1) rfl rfl rfl rfl ⟨wrc, hrc6, hrc⟩, rfl, rfl, fun q a b => by first | exact rl_u_n (by omega) | exact (rl_u_n (by omega)).trans (rl_u_n (by omega)) | exact (dst q a b).trans (rl_u_n (by omega))⟩, (hq0.ob (nI 1, T.2) fu k hq.2.1).fr⟩
                | exact ⟨_, rfl, rfl, ⟨_, _, _, S, hu.dp (hq0.ob (nI 2, T.2) fu k hq.2.1) rfl rfl rfl rfl ⟨wrc, hrc6, hrc⟩, rfl, rfl, fun q a b => by first | exact rl_u_n (by omega) | exact (rl_u_n (by omega)).trans (rl_u_n (by omega)) | exact (dst q a b).trans (rl_u_n (by omega))⟩, (hq0.ob (nI 2, T.2) fu k hq.2.1).fr⟩
            · refine o_aload_n hC dX8_way_47 (by rfl) ?_
              refine o_iconst (v := nI 2) hC dX8_way_48 (by decide +kernel) ?_
              refine o_putf hC (fX8_78 hC rfl) (fwX8 rfl rfl rfl (Or.inl rfl)) dX8_way_49 (by repeat (first | with_reducible assumption | (rw [rl_u_s]; done) | (rw [rl_u_s]; rfl) | rw [rl_u_n (by first | with_reducible assumption | omega)])) (Nat.le_of_ble_eq_true rfl) ?_
              try simp only [List.set_cons_zero, List.set_cons_succ]
              refine o_lconst (v := 0) hC dX8_way_52 (by decide +kernel) ?_
              refine o_lret hC hB dX8_way_53 (Nat.le_of_ble_eq_true rfl) (Nat.le_of_ble_eq_true rfl) ?_
              first
              | exact ⟨_, rfl, rfl, ⟨_, _, _, S, hu.dp (hq0) rfl rfl rfl rfl ⟨wrc, hrc6, hrc⟩, rfl, rfl, fun q a b => by first | exact rl_u_n (by omega) | exact (rl_u_n (by omega)).trans (rl_u_n (by omega)) | exact (dst q a b).trans (rl_u_n (by omega))⟩, (hq0).fr⟩
              | exact ⟨_, rfl, rfl, ⟨_, _, _, S, hu.dp (hq0.ob (nI 1, T.2) fu k hq.2.1) rfl rfl rfl rfl ⟨wrc, hrc6, hrc⟩, rfl, rfl, fun q a b => by first | exact rl_u_n (by omega) | exact (rl_u_n (by omega)).trans (rl_u_n (by omega)) | exact (dst q a b).trans (rl_u_n (by omega))⟩, (hq0.ob (nI 1, T.2) fu k hq.2.1).fr⟩
              | exact ⟨_, rfl, rfl, ⟨_, _, _, S, hu.dp (hq0.ob (nI 2, T.2) fu k hq.2.1) rfl rfl rfl rfl ⟨wrc, hrc6, hrc⟩, rfl, rfl, fun q a b => by first | exact rl_u_n (by omega) | exact (rl_u_n (by omega)).trans (rl_u_n (by omega)) | exact (dst q a b).trans (rl_u_n (by omega))⟩, (hq0.ob (nI 2, T.2) fu k hq.2.1).fr⟩
        · refine o_aload_n hC dX8_way_31 (by rfl) ?_
          refine o_iconst (v := nI 1) hC dX8_way_32 (by decide +kernel) ?_
          refine o_putf hC (fX8_78 hC rfl) (fwX8 rfl rfl rfl (Or.inl rfl)) dX8_way_33 (by repeat (first | with_reducible assumption | (rw [rl_u_s]; done) | (rw [rl_u_s]; rfl) | rw [rl_u_n (by first | with_reducible assumption | omega)])) (Nat.le_of_ble_eq_true rfl) ?_
          try simp only [List.set_cons_zero, List.set_cons_succ]
          refine o_lconst (v := 0) hC dX8_way_36 (by decide +kernel) ?_
          refine o_lret hC hB dX8_way_37 (Nat.le_of_ble_eq_true rfl) (Nat.le_of_ble_eq_true rfl) ?_
          first
          | exact ⟨_, rfl, rfl, ⟨_, _, _, S, hu.dp (hq0) rfl rfl rfl rfl ⟨wrc, hrc6, hrc⟩, rfl, rfl, fun q a b => by first | exact rl_u_n (by omega) | exact (rl_u_n (by omega)).trans (rl_u_n (by omega)) | exact (dst q a b).trans (rl_u_n (by omega))⟩, (hq0).fr⟩
          | exact ⟨_, rfl, rfl, ⟨_, _, _, S, hu.dp (hq0.ob (nI 1, T.2) fu k hq.2.1) rfl rfl rfl rfl ⟨wrc, hrc6, hrc⟩, rfl, rfl, fun q a b => by first | exact rl_u_n (by omega) | exact (rl_u_n (by omega)).trans (rl_u_n (by omega)) | exact (dst q a b).trans (rl_u_n (by omega))⟩, (hq0.ob (nI 1, T.2) fu k hq.2.1).fr⟩
          | exact ⟨_, rfl, rfl, ⟨_, _, _, S, hu.dp (hq0.ob (nI 2, T.2) fu k hq.2.1) rfl rfl rfl rfl ⟨wrc, hrc6, hrc⟩, rfl, rfl, fun q a b => by first | exact rl_u_n (by omega) | exact (rl_u_n (by omega)).trans (rl_u_n (by omega)) | exact (dst q a b).trans (rl_u_n (by omega))⟩, (hq0.ob (nI 2, T.2) fu k hq.2.1).fr⟩

set_option maxHeartbeats 4000000 in
set_option maxRecDepth 100000 in
theorem cm_X8_forward (l : Launch) (D : va_G) (ids : Nat → ClassId) (H0 : Heap) (h : rl_H) (n : Nat) (m : Nat) (T : md_T) (fu : Int32) (k : Nat) (S : md_A) (z : sh_S) (q : Int32) (hu : md_un ids h m T fu k S z) : rl_Met l (rl_e D ids H0) rl_BW rl_Ns yX8_forward cX8_forward 4 (some .int) ({ frames := 2, cells := 0, slots := 0, locals := 48 }) [.ref m, .int q] h n (fun v h' n' => ∃ r : Int32, v = some (.int r) ∧ n' = n ∧ mdx ids h' m T z (fun S' => S' = S) (∀ q : Nat, m + 12 ≤ q → q < m + 22 → h' q = h q) ∧ rl_fr h h' m (m + 23)) := by
  obtain ⟨hq, hs, ⟨hsc, hsc4⟩, hwf, ⟨hrr, hr36⟩, ⟨hnc, hn16⟩, hnw, hpr, hnv, hwv, wrc, hrc6, hrc⟩ := id hu
  have hq0 := hq.ob (nI 0, T.2) fu k hq.2.1
  have g0 := hq.1
  obtain ⟨-, gk, ⟨⟨cl, g12⟩, ⟨tu, g13, b13⟩, ⟨im, g14⟩, ⟨te, g15, b15⟩, ⟨ne, g16⟩, ⟨la, g17⟩, ⟨hn, g18⟩, ⟨hl, g19⟩, ⟨tp, g20⟩, ⟨gr, g21, b21⟩, ⟨it, g22⟩⟩, gf⟩ := id hq
  refine rl_Met.of (by decide +kernel) (Nat.le_of_ble_eq_true rfl) ?_
  intro X hC hB
  show rl_G X (rl_e D ids H0) 0 [some (.ref m), some (.int q), none, none] [] h n 0 0
  refine o_aload_n hC dX8_forward_0 (by rfl) ?_
  refine o_iconst (v := nI 0) hC dX8_forward_1 (by decide +kernel) ?_
  refine o_putf hC (fX8_78 hC rfl) (fwX8 rfl rfl rfl (Or.inl rfl)) dX8_forward_2 (by repeat (first | with_reducible assumption | (rw [rl_u_s]; done) | (rw [rl_u_s]; rfl) | rw [rl_u_n (by first | with_reducible assumption | omega)])) (Nat.le_of_ble_eq_true rfl) ?_
  try simp only [List.set_cons_zero, List.set_cons_succ]
  refine o_iload_n hC dX8_forward_5 (by rfl) ?_
  refine o_if_lt (tgt := 17) hC dX8_forward_6 (by decide) (fun c_6 => ?_) (fun c_6 => ?_)
  · refine o_iconst (v := (-1 : Int32)) hC dX8_forward_17 (by decide +kernel) ?_
    refine o_iret hC hB dX8_forward_18 (Nat.le_of_ble_eq_true rfl) (Nat.le_of_ble_eq_true rfl) ?_
    exact ⟨_, rfl, rfl, ⟨_, _, _, S, hu.dp (hq0) rfl rfl rfl rfl ⟨wrc, hrc6, hrc⟩, rfl, rfl, fun q a b => by first | exact rl_u_n (by omega) | exact (rl_u_n (by omega)).trans (rl_u_n (by omega)) | exact (dst q a b).trans (rl_u_n (by omega))⟩, (hq0).fr⟩
  · refine o_iload_n hC dX8_forward_9 (by rfl) ?_
    refine o_aload_n hC dX8_forward_10 (by rfl) ?_
    refine o_getf hC (fX8_112 hC rfl) dX8_forward_11 (by repeat (first | with_reducible assumption | (rw [rl_u_s]; done) | (rw [rl_u_s]; rfl) | rw [rl_u_n (by first | with_reducible assumption | omega)])) (by first | rfl | with_reducible assumption) ?_
    refine o_icmp_lt (tgt := 19) hC dX8_forward_14 (by decide) (fun c_14 => ?_) (fun c_14 => ?_)
    · refine o_iconst (v := nI 0) hC dX8_forward_19 (by decide +kernel) ?_
      refine o_istore_n hC dX8_forward_20 (Nat.le_of_ble_eq_true rfl) ?_
      refine o_iconst (v := nI 0) hC dX8_forward_21 (by decide +kernel) ?_
      refine o_istore_n hC dX8_forward_22 (Nat.le_of_ble_eq_true rfl) ?_
      have loop : ∀ (mm t : Nat) (c : Int32), t + mm = 80 → rl_G X (rl_e D ids H0) 23 [some (.ref m), some (.int q), some (.int c), some (.int (nI t))] [] (rl_u h m (md_ob m (nI 0, T.2) fu k)) n 0 0 := by
        intro mm
        induction mm with
        | zero =>
          intro t c hm
          refine o_iload_n hC dX8_forward_23 (by rfl) ?_
          refine o_aload_n hC dX8_forward_24 (by rfl) ?_
          refine o_getf hC (fX8_46 hC rfl) dX8_forward_25 (by repeat (first | with_reducible assumption | (rw [rl_u_s]; done) | (rw [rl_u_s]; rfl) | rw [rl_u_n (by first | with_reducible assumption | omega)])) (by first | rfl | with_reducible assumption) ?_
          refine o_bipush (v := nI 16) hC dX8_forward_28 (by decide +kernel) ?_
          obtain ⟨t16, ht16, et16⟩ := b13 16 (by decide)
          refine o_ialdN (t0 := 0) (k := 16) hC rfl dX8_forward_30 (by repeat (first | with_reducible assumption | (rw [rl_u_s]; done) | (rw [rl_u_s]; rfl) | rw [rl_u_n (by first | with_reducible assumption | omega)])) (by decide) (by decide) ?_
          rw [et16]
          refine o_icmp_ge (tgt := 73) hC dX8_forward_31 (by decide) (fun c_31 => ?_) (fun c_31 => ?_)
          · refine o_iload_n hC dX8_forward_73 (by rfl) ?_
            refine o_iret hC hB dX8_forward_74 (Nat.le_of_ble_eq_true rfl) (Nat.le_of_ble_eq_true rfl) ?_
            exact ⟨_, rfl, rfl, ⟨_, _, _, S, hu.dp (hq0) rfl rfl rfl rfl ⟨wrc, hrc6, hrc⟩, rfl, rfl, fun q a b => by first | exact rl_u_n (by omega) | exact (rl_u_n (by omega)).trans (rl_u_n (by omega)) | exact (dst q a b).trans (rl_u_n (by omega))⟩, (hq0).fr⟩
          · exact absurd (nI_le (by omega) (by omega)) c_31
        | succ mm ih =>
          intro t c hm
          refine o_iload_n hC dX8_forward_23 (by rfl) ?_
          refine o_aload_n hC dX8_forward_24 (by rfl) ?_
          refine o_getf hC (fX8_46 hC rfl) dX8_forward_25 (by repeat (first | with_reducible assumption | (rw [rl_u_s]; done) | (rw [rl_u_s]; rfl) | rw [rl_u_n (by first | with_reducible assumption | omega)])) (by first | rfl | with_reducible assumption) ?_
          refine o_bipush (v := nI 16) hC dX8_forward_28 (by decide +kernel) ?_
          obtain ⟨t16, ht16, et16⟩ := b13 16 (by decide)
          refine o_ialdN (t0 := 0) (k := 16) hC rfl dX8_forward_30 (by repeat (first | with_reducible assumption | (rw [rl_u_s]; done) | (rw [rl_u_s]; rfl) | rw [rl_u_n (by first | with_reducible assumption | omega)])) (by decide) (by decide) ?_
          rw [et16]
          refine o_icmp_ge (tgt := 73) hC dX8_forward_31 (by decide) (fun c_31 => ?_) (fun c_31 => ?_)
          · refine o_iload_n hC dX8_forward_73 (by rfl) ?_
            refine o_iret hC hB dX8_forward_74 (Nat.le_of_ble_eq_true rfl) (Nat.le_of_ble_eq_true rfl) ?_
            exact ⟨_, rfl, rfl, ⟨_, _, _, S, hu.dp (hq0) rfl rfl rfl rfl ⟨wrc, hrc6, hrc⟩, rfl, rfl, fun q a b => by first | exact rl_u_n (by omega) | exact (rl_u_n (by omega)).trans (rl_u_n (by omega)) | exact (dst q a b).trans (rl_u_n (by omega))⟩, (hq0).fr⟩
          · refine o_iload_n hC dX8_forward_34 (by rfl) ?_
            refine o_aload_n hC dX8_forward_35 (by rfl) ?_
            refine o_iload_n hC dX8_forward_36 (by rfl) ?_
            refine o_aload_n hC dX8_forward_37 (by rfl) ?_
            refine o_getf hC (fX8_115 hC rfl) dX8_forward_38 (by repeat (first | with_reducible assumption | (rw [rl_u_s]; done) | (rw [rl_u_s]; rfl) | rw [rl_u_n (by first | with_reducible assumption | omega)])) (by first | rfl | with_reducible assumption) ?_
            refine o_callV2 hC rl_BW_good rl_Ns_nw (by exact hB.2.2.2.2.2) YX8_isSo IX8_isSo VX8_isSo (mX8_206 hC) (by rw [hB.1]; exact cm_X8_isSo l D ids H0 _ _ m _ _ _ t _ hq0.rf (by omega)) (by exact hq0.1) rfl rfl (Nat.le_of_ble_eq_true rfl) (by rw [hB.2.1]; first | exact Nat.le_of_ble_eq_true rfl | (dsimp only; omega)) (by rw [hB.2.1]; first | exact Nat.le_of_ble_eq_true rfl | (dsimp only; omega)) (by rw [hB.2.1]; first | exact Nat.le_of_ble_eq_true rfl | (dsimp only; omega)) (by rw [hB.2.1]; first | exact Nat.le_of_ble_eq_true rfl | (dsimp only; omega)) dX8_forward_41 (fun v h_41 n_41 p_41 => ?_)
            obtain ⟨r41, rfl, rfl, rfl⟩ := p_41
            try dsimp only [Option.toList, List.cons_append, List.nil_append]
            refine o_aload_n hC dX8_forward_44 (by rfl) ?_
            refine o_iload_n hC dX8_forward_45 (by rfl) ?_
            refine o_aload_n hC dX8_forward_46 (by rfl) ?_
            refine o_getf hC (fX8_115 hC rfl) dX8_forward_47 (by repeat (first | with_reducible assumption | (rw [rl_u_s]; done) | (rw [rl_u_s]; rfl) | rw [rl_u_n (by first | with_reducible assumption | omega)])) (by first | rfl | with_reducible assumption) ?_
            refine o_lconst (v := 1) hC dX8_forward_50 (by decide +kernel) ?_
            refine o_iload_n hC dX8_forward_51 (by rfl) ?_
            refine o_lshl hC dX8_forward_52 ?_
            refine o_lxor hC dX8_forward_53 ?_
            refine o_callV2 hC rl_BW_good rl_Ns_nw (by exact hB.2.2.2.2.2) YX8_isSo IX8_isSo VX8_isSo (mX8_206 hC) (by rw [hB.1]; exact cm_X8_isSo l D ids H0 _ _ m _ _ _ t _ hq0.rf (by omega)) (by exact hq0.1) rfl rfl (Nat.le_of_ble_eq_true rfl) (by rw [hB.2.1]; first | exact Nat.le_of_ble_eq_true rfl | (dsimp only; omega)) (by rw [hB.2.1]; first | exact Nat.le_of_ble_eq_true rfl | (dsimp only; omega)) (by rw [hB.2.1]; first | exact Nat.le_of_ble_eq_true rfl | (dsimp only; omega)) (by rw [hB.2.1]; first | exact Nat.le_of_ble_eq_true rfl | (dsimp only; omega)) dX8_forward_54 (fun v h_54 n_54 p_54 => ?_)
            obtain ⟨r54, rfl, rfl, rfl⟩ := p_54
            try dsimp only [Option.toList, List.cons_append, List.nil_append]
            refine o_icmp_eq (tgt := 64) hC dX8_forward_57 (by decide) (fun c_57 => ?_) (fun c_57 => ?_)
            · refine o_iconst (v := nI 0) hC dX8_forward_64 (by decide +kernel) ?_
              refine o_iadd hC dX8_forward_65 ?_
              refine o_istore_n hC dX8_forward_66 (Nat.le_of_ble_eq_true rfl) ?_
              refine o_iinc hC dX8_forward_67 (by rfl) (rl_inc _) (Nat.le_of_ble_eq_true rfl) ?_
              refine o_goto (tgt := 23) hC dX8_forward_70 (by decide) ?_
              exact ih (t + 1) _ (by omega)
            · refine o_iconst (v := nI 1) hC dX8_forward_60 (by decide +kernel) ?_
              refine o_goto (tgt := 65) hC dX8_forward_61 (by decide) ?_
              refine o_iadd hC dX8_forward_65 ?_
              refine o_istore_n hC dX8_forward_66 (Nat.le_of_ble_eq_true rfl) ?_
              refine o_iinc hC dX8_forward_67 (by rfl) (rl_inc _) (Nat.le_of_ble_eq_true rfl) ?_
              refine o_goto (tgt := 23) hC dX8_forward_70 (by decide) ?_
              exact ih (t + 1) _ (by omega)
      exact loop 80 0 _ (by omega)
    · refine o_iconst (v := (-1 : Int32)) hC dX8_forward_17 (by decide +kernel) ?_
      refine o_iret hC hB dX8_forward_18 (Nat.le_of_ble_eq_true rfl) (Nat.le_of_ble_eq_true rfl) ?_
      exact ⟨_, rfl, rfl, ⟨_, _, _, S, hu.dp (hq0) rfl rfl rfl rfl ⟨wrc, hrc6, hrc⟩, rfl, rfl, fun q a b => by first | exact rl_u_n (by omega) | exact (rl_u_n (by omega)).trans (rl_u_n (by omega)) | exact (dst q a b).trans (rl_u_n (by omega))⟩, (hq0).fr⟩
end
section
/-! THE MODEL: count, matters, blame, told -/

set_option maxHeartbeats 4000000 in
set_option maxRecDepth 100000 in
theorem cm_X8_count (l : Launch) (D : va_G) (ids : Nat → ClassId) (H0 : Heap) (h : rl_H) (n : Nat) (m : Nat) (T : md_T) (fu : Int32) (k : Nat) (S : md_A) (z : sh_S) (q : Int32) (hu : md_un ids h m T fu k S z) : rl_Met l (rl_e D ids H0) rl_BW rl_Ns yX8_count cX8_count 4 (some .int) ({ frames := 2, cells := 0, slots := 0, locals := 48 }) [.ref m, .int q] h n (fun v h' n' => ∃ r : Int32, v = some (.int r) ∧ n' = n ∧ mdx ids h' m T z (fun S' => S' = S) (∀ q : Nat, m + 12 ≤ q → q < m + 22 → h' q = h q) ∧ rl_fr h h' m (m + 23)) := by
  obtain ⟨hq, hs, ⟨hsc, hsc4⟩, hwf, ⟨hrr, hr36⟩, ⟨hnc, hn16⟩, hnw, hpr, hnv, hwv, wrc, hrc6, hrc⟩ := id hu
  have hq0 := hq.ob (nI 0, T.2) fu k hq.2.1
  have g0 := hq.1
  obtain ⟨-, gk, ⟨⟨cl, g12⟩, ⟨tu, g13, b13⟩, ⟨im, g14⟩, ⟨te, g15, b15⟩, ⟨ne, g16⟩, ⟨la, g17⟩, ⟨hn, g18⟩, ⟨hl, g19⟩, ⟨tp, g20⟩, ⟨gr, g21, b21⟩, ⟨it, g22⟩⟩, gf⟩ := id hq
  refine rl_Met.of (by decide +kernel) (Nat.le_of_ble_eq_true rfl) ?_
  intro X hC hB
  show rl_G X (rl_e D ids H0) 0 [some (.ref m), some (.int q), none, none] [] h n 0 0
  refine o_aload_n hC dX8_count_0 (by rfl) ?_
  refine o_iconst (v := nI 0) hC dX8_count_1 (by decide +kernel) ?_
  refine o_putf hC (fX8_78 hC rfl) (fwX8 rfl rfl rfl (Or.inl rfl)) dX8_count_2 (by repeat (first | with_reducible assumption | (rw [rl_u_s]; done) | (rw [rl_u_s]; rfl) | rw [rl_u_n (by first | with_reducible assumption | omega)])) (Nat.le_of_ble_eq_true rfl) ?_
  try simp only [List.set_cons_zero, List.set_cons_succ]
  refine o_aload_n hC dX8_count_5 (by rfl) ?_
  refine o_iload_n hC dX8_count_6 (by rfl) ?_
  refine o_callV1 hC rl_BW_good rl_Ns_nw (by exact hB.2.2.2.2.2) YX8_isTuple IX8_isTuple VX8_isTuple (mX8_199 hC) (by rw [hB.1]; exact ct_X8_isTuple l D ids H0 _ _ m (m + 13) _ _ tu (by repeat (first | with_reducible assumption | (rw [rl_u_s]; done) | (rw [rl_u_s]; rfl) | rw [rl_u_n (by first | with_reducible assumption | omega)])) rfl (by repeat (first | with_reducible assumption | (rw [rl_u_s]; done) | (rw [rl_u_s]; rfl) | rw [rl_u_n (by first | with_reducible assumption | omega)]))) (by repeat (first | with_reducible assumption | (rw [rl_u_s]; done) | (rw [rl_u_s]; rfl) | rw [rl_u_n (by first | with_reducible assumption | omega)])) rfl rfl (Nat.le_of_ble_eq_true rfl) (by rw [hB.2.1]; first | exact Nat.le_of_ble_eq_true rfl | (dsimp only; omega)) (by rw [hB.2.1]; first | exact Nat.le_of_ble_eq_true rfl | (dsimp only; omega)) (by rw [hB.2.1]; first | exact Nat.le_of_ble_eq_true rfl | (dsimp only; omega)) (by rw [hB.2.1]; first | exact Nat.le_of_ble_eq_true rfl | (dsimp only; omega)) dX8_count_7 (fun v h_7 n_7 p_7 => ?_)
  obtain ⟨rfl, rfl, rfl⟩ := p_7
  try dsimp only [Option.toList, List.cons_append, List.nil_append]
  obtain ⟨t16, ht16, et16⟩ := b13 16 (by decide)
  by_cases hr : q < 0 ∨ tu 16 ≤ q
  · rw [if_pos hr]
    refine o_if_ne (tgt := 15) hC dX8_count_10 (by decide) (fun c_10 => ?_) (fun c_10 => ?_)
    · exact absurd rfl c_10
    · refine o_iconst (v := (-1 : Int32)) hC dX8_count_13 (by decide +kernel) ?_
      refine o_iret hC hB dX8_count_14 (Nat.le_of_ble_eq_true rfl) (Nat.le_of_ble_eq_true rfl) ?_
      exact ⟨_, rfl, rfl, ⟨_, _, _, S, hu.dp (hq0) rfl rfl rfl rfl ⟨wrc, hrc6, hrc⟩, rfl, rfl, fun q a b => by first | exact rl_u_n (by omega) | exact (rl_u_n (by omega)).trans (rl_u_n (by omega)) | exact (dst q a b).trans (rl_u_n (by omega))⟩, (hq0).fr⟩
  · rw [if_neg hr]
    obtain ⟨t, ht0, rfl⟩ := nI_of_lt (k := t16) (by omega) (fun e => hr (Or.inl e)) (fun e => hr (Or.inr (by rw [et16]; exact e)))
    have ht : t < 80 := by omega
    obtain ⟨g00, gk0, -, gf0⟩ := id hq0
    refine o_if_ne (tgt := 15) hC dX8_count_10 (by decide) (fun c_10 => ?_) (fun c_10 => ?_)
    · refine o_aload_n hC dX8_count_15 (by rfl) ?_
      refine o_iload_n hC dX8_count_16 (by rfl) ?_
      refine o_callV1 hC rl_BW_good rl_Ns_nw (by exact hB.2.2.2.2.2) YX8_stand IX8_stand VX8_stand (mX8_213 hC) (by rw [hB.1]; exact cm_X8_stand l D ids H0 _ _ m _ _ _ t z.2.2.1 hq0.rf ht hrr hr36) (by exact hq0.1) rfl rfl (Nat.le_of_ble_eq_true rfl) (by rw [hB.2.1]; first | exact Nat.le_of_ble_eq_true rfl | (dsimp only; omega)) (by rw [hB.2.1]; first | exact Nat.le_of_ble_eq_true rfl | (dsimp only; omega)) (by rw [hB.2.1]; first | exact Nat.le_of_ble_eq_true rfl | (dsimp only; omega)) (by rw [hB.2.1]; first | exact Nat.le_of_ble_eq_true rfl | (dsimp only; omega)) dX8_count_17 (fun v h_17 n_17 p_17 => ?_)
      obtain ⟨r17, im2, rfl, rfl, im36, hst, q17, dst⟩ := p_17
      have hq2 := hq0.tr q17
      obtain ⟨g02, gk2, -, gf2⟩ := id hq2
      try dsimp only [Option.toList, List.cons_append, List.nil_append]
      refine o_if_ne (tgt := 26) hC dX8_count_20 (by decide) (fun c_20 => ?_) (fun c_20 => ?_)
      · have im16 : im2 ≤ 16 := hst.elim (fun e => absurd e c_20) (fun e => e.2)
        refine o_iconst (v := nI 0) hC dX8_count_26 (by decide +kernel) ?_
        refine o_istore_n hC dX8_count_27 (Nat.le_of_ble_eq_true rfl) ?_
        refine o_iconst (v := nI 0) hC dX8_count_28 (by decide +kernel) ?_
        refine o_istore_n hC dX8_count_29 (Nat.le_of_ble_eq_true rfl) ?_
        have loop : ∀ (mm sn : Nat) (c : Int32), sn + mm = 65536 → rl_G X (rl_e D ids H0) 30 [some (.ref m), some (.int (nI t)), some (.int c), some (.int (nI sn))] [] h_17 n_17 0 0 := by
          intro mm
          induction mm with
          | zero =>
            intro sn c hm
            have e0 : sn = 65536 := by omega
            subst e0
            refine o_iload_n hC dX8_count_30 (by rfl) ?_
            refine o_iconst (v := nI 1) hC dX8_count_31 (by decide +kernel) ?_
            refine o_aload_n hC dX8_count_32 (by rfl) ?_
            refine o_getf hC (fX8_210 hC rfl) dX8_count_33 (by repeat (first | with_reducible assumption | (rw [rl_u_s]; done) | (rw [rl_u_s]; rfl) | rw [rl_u_n (by first | with_reducible assumption | omega)])) (by first | rfl | with_reducible assumption) ?_
            refine o_ishl hC dX8_count_36 ?_
            refine o_icmp_ge (tgt := 67) hC dX8_count_37 (by decide) (fun c_37 => ?_) (fun c_37 => ?_)
            · refine o_iload_n hC dX8_count_67 (by rfl) ?_
              refine o_iret hC hB dX8_count_68 (Nat.le_of_ble_eq_true rfl) (Nat.le_of_ble_eq_true rfl) ?_
              exact ⟨_, rfl, rfl, ⟨_, _, _, S, hu.dp (hq2) rfl rfl rfl rfl ⟨wrc, hrc6, hrc⟩, rfl, rfl, fun q a b => by first | exact rl_u_n (by omega) | exact (rl_u_n (by omega)).trans (rl_u_n (by omega)) | exact (dst q a b).trans (rl_u_n (by omega))⟩, (hq2).fr⟩
            · exact absurd (md_shl16 im2 im16) c_37
          | succ mm ih =>
            intro sn c hm
            refine o_iload_n hC dX8_count_30 (by rfl) ?_
            refine o_iconst (v := nI 1) hC dX8_count_31 (by decide +kernel) ?_
            refine o_aload_n hC dX8_count_32 (by rfl) ?_
            refine o_getf hC (fX8_210 hC rfl) dX8_count_33 (by repeat (first | with_reducible assumption | (rw [rl_u_s]; done) | (rw [rl_u_s]; rfl) | rw [rl_u_n (by first | with_reducible assumption | omega)])) (by first | rfl | with_reducible assumption) ?_
            refine o_ishl hC dX8_count_36 ?_
            refine o_icmp_ge (tgt := 67) hC dX8_count_37 (by decide) (fun c_37 => ?_) (fun c_37 => ?_)
            · refine o_iload_n hC dX8_count_67 (by rfl) ?_
              refine o_iret hC hB dX8_count_68 (Nat.le_of_ble_eq_true rfl) (Nat.le_of_ble_eq_true rfl) ?_
              exact ⟨_, rfl, rfl, ⟨_, _, _, S, hu.dp (hq2) rfl rfl rfl rfl ⟨wrc, hrc6, hrc⟩, rfl, rfl, fun q a b => by first | exact rl_u_n (by omega) | exact (rl_u_n (by omega)).trans (rl_u_n (by omega)) | exact (dst q a b).trans (rl_u_n (by omega))⟩, (hq2).fr⟩
            · refine o_iload_n hC dX8_count_40 (by rfl) ?_
              refine o_aload_n hC dX8_count_41 (by rfl) ?_
              refine o_iload_n hC dX8_count_42 (by rfl) ?_
              refine o_aload_n hC dX8_count_43 (by rfl) ?_
              refine o_iload_n hC dX8_count_44 (by rfl) ?_
              refine o_callV1 hC rl_BW_good rl_Ns_nw (by exact hB.2.2.2.2.2) YX8_rowsOf IX8_rowsOf VX8_rowsOf (mX8_216 hC) (by rw [hB.1]; exact cm_X8_rowsOf l D ids H0 _ _ m _ _ _ im2 _ hq2.rf rfl im36) (by exact hq2.1) rfl rfl (Nat.le_of_ble_eq_true rfl) (by rw [hB.2.1]; first | exact Nat.le_of_ble_eq_true rfl | (dsimp only; omega)) (by rw [hB.2.1]; first | exact Nat.le_of_ble_eq_true rfl | (dsimp only; omega)) (by rw [hB.2.1]; first | exact Nat.le_of_ble_eq_true rfl | (dsimp only; omega)) (by rw [hB.2.1]; first | exact Nat.le_of_ble_eq_true rfl | (dsimp only; omega)) dX8_count_45 (fun v h_45 n_45 p_45 => ?_)
              obtain ⟨r45, rfl, rfl, rfl⟩ := p_45
              try dsimp only [Option.toList, List.cons_append, List.nil_append]
              refine o_callV2 hC rl_BW_good rl_Ns_nw (by exact hB.2.2.2.2.2) YX8_isSo IX8_isSo VX8_isSo (mX8_206 hC) (by rw [hB.1]; exact cm_X8_isSo l D ids H0 _ _ m _ _ _ t _ hq2.rf ht) (by exact hq2.1) rfl rfl (Nat.le_of_ble_eq_true rfl) (by rw [hB.2.1]; first | exact Nat.le_of_ble_eq_true rfl | (dsimp only; omega)) (by rw [hB.2.1]; first | exact Nat.le_of_ble_eq_true rfl | (dsimp only; omega)) (by rw [hB.2.1]; first | exact Nat.le_of_ble_eq_true rfl | (dsimp only; omega)) (by rw [hB.2.1]; first | exact Nat.le_of_ble_eq_true rfl | (dsimp only; omega)) dX8_count_48 (fun v h_48 n_48 p_48 => ?_)
              obtain ⟨r48, rfl, rfl, rfl⟩ := p_48
              try dsimp only [Option.toList, List.cons_append, List.nil_append]
              refine o_if_eq (tgt := 58) hC dX8_count_51 (by decide) (fun c_51 => ?_) (fun c_51 => ?_)
              · refine o_iconst (v := nI 0) hC dX8_count_58 (by decide +kernel) ?_
                refine o_iadd hC dX8_count_59 ?_
                refine o_istore_n hC dX8_count_60 (Nat.le_of_ble_eq_true rfl) ?_
                refine o_iinc hC dX8_count_61 (by rfl) (rl_inc _) (Nat.le_of_ble_eq_true rfl) ?_
                refine o_goto (tgt := 30) hC dX8_count_64 (by decide) ?_
                exact ih (sn + 1) _ (by omega)
              · refine o_iconst (v := nI 1) hC dX8_count_54 (by decide +kernel) ?_
                refine o_goto (tgt := 59) hC dX8_count_55 (by decide) ?_
                refine o_iadd hC dX8_count_59 ?_
                refine o_istore_n hC dX8_count_60 (Nat.le_of_ble_eq_true rfl) ?_
                refine o_iinc hC dX8_count_61 (by rfl) (rl_inc _) (Nat.le_of_ble_eq_true rfl) ?_
                refine o_goto (tgt := 30) hC dX8_count_64 (by decide) ?_
                exact ih (sn + 1) _ (by omega)
        exact loop 65536 0 _ (by omega)
      · refine o_bipush (v := (-4 : Int32)) hC dX8_count_23 (by decide +kernel) ?_
        refine o_iret hC hB dX8_count_25 (Nat.le_of_ble_eq_true rfl) (Nat.le_of_ble_eq_true rfl) ?_
        first
        | exact ⟨_, rfl, rfl, ⟨_, _, _, S, hu.dp (hq2) rfl rfl rfl rfl ⟨wrc, hrc6, hrc⟩, rfl, rfl, fun q a b => by first | exact rl_u_n (by omega) | exact (rl_u_n (by omega)).trans (rl_u_n (by omega)) | exact (dst q a b).trans (rl_u_n (by omega))⟩, (hq2).fr⟩
        | exact ⟨_, rfl, rfl, ⟨_, _, _, S, hu.dp (hq0) rfl rfl rfl rfl ⟨wrc, hrc6, hrc⟩, rfl, rfl, fun q a b => by first | exact rl_u_n (by omega) | exact (rl_u_n (by omega)).trans (rl_u_n (by omega)) | exact (dst q a b).trans (rl_u_n (by omega))⟩, (hq0).fr⟩
    · exact absurd c_10 (by decide +kernel)

set_option maxHeartbeats 4000000 in
set_option maxRecDepth 100000 in
theorem cm_X8_matters (l : Launch) (D : va_G) (ids : Nat → ClassId) (H0 : Heap) (h : rl_H) (n : Nat) (m : Nat) (T : md_T) (fu : Int32) (k : Nat) (S : md_A) (z : sh_S) (q r : Int32) (hu : md_un ids h m T fu k S z) : rl_Met l (rl_e D ids H0) rl_BW rl_Ns yX8_matters cX8_matters 6 (some .int) ({ frames := 2, cells := 0, slots := 0, locals := 48 }) [.ref m, .int q, .int r] h n (fun v h' n' => ∃ r : Int32, v = some (.int r) ∧ n' = n ∧ mdx ids h' m T z (fun S' => S' = S) (∀ q : Nat, m + 12 ≤ q → q < m + 22 → h' q = h q) ∧ rl_fr h h' m (m + 23)) := by
  obtain ⟨hq, hs, ⟨hsc, hsc4⟩, hwf, ⟨hrr, hr36⟩, ⟨hnc, hn16⟩, hnw, hpr, hnv, hwv, wrc, hrc6, hrc⟩ := id hu
  have hq0 := hq.ob (nI 0, T.2) fu k hq.2.1
  have g0 := hq.1
  obtain ⟨-, gk, ⟨⟨cl, g12⟩, ⟨tu, g13, b13⟩, ⟨im, g14⟩, ⟨te, g15, b15⟩, ⟨ne, g16⟩, ⟨la, g17⟩, ⟨hn, g18⟩, ⟨hl, g19⟩, ⟨tp, g20⟩, ⟨gr, g21, b21⟩, ⟨it, g22⟩⟩, gf⟩ := id hq
  refine rl_Met.of (by decide +kernel) (Nat.le_of_ble_eq_true rfl) ?_
  intro X hC hB
  show rl_G X (rl_e D ids H0) 0 [some (.ref m), some (.int q), some (.int r), none, none, none] [] h n 0 0
  refine o_aload_n hC dX8_matters_0 (by rfl) ?_
  refine o_iconst (v := nI 0) hC dX8_matters_1 (by decide +kernel) ?_
  refine o_putf hC (fX8_78 hC rfl) (fwX8 rfl rfl rfl (Or.inl rfl)) dX8_matters_2 (by repeat (first | with_reducible assumption | (rw [rl_u_s]; done) | (rw [rl_u_s]; rfl) | rw [rl_u_n (by first | with_reducible assumption | omega)])) (Nat.le_of_ble_eq_true rfl) ?_
  try simp only [List.set_cons_zero, List.set_cons_succ]
  refine o_aload_n hC dX8_matters_5 (by rfl) ?_
  refine o_iload_n hC dX8_matters_6 (by rfl) ?_
  refine o_callV1 hC rl_BW_good rl_Ns_nw (by exact hB.2.2.2.2.2) YX8_isTuple IX8_isTuple VX8_isTuple (mX8_199 hC) (by rw [hB.1]; exact ct_X8_isTuple l D ids H0 _ _ m (m + 13) _ _ tu (by repeat (first | with_reducible assumption | (rw [rl_u_s]; done) | (rw [rl_u_s]; rfl) | rw [rl_u_n (by first | with_reducible assumption | omega)])) rfl (by repeat (first | with_reducible assumption | (rw [rl_u_s]; done) | (rw [rl_u_s]; rfl) | rw [rl_u_n (by first | with_reducible assumption | omega)]))) (by repeat (first | with_reducible assumption | (rw [rl_u_s]; done) | (rw [rl_u_s]; rfl) | rw [rl_u_n (by first | with_reducible assumption | omega)])) rfl rfl (Nat.le_of_ble_eq_true rfl) (by rw [hB.2.1]; first | exact Nat.le_of_ble_eq_true rfl | (dsimp only; omega)) (by rw [hB.2.1]; first | exact Nat.le_of_ble_eq_true rfl | (dsimp only; omega)) (by rw [hB.2.1]; first | exact Nat.le_of_ble_eq_true rfl | (dsimp only; omega)) (by rw [hB.2.1]; first | exact Nat.le_of_ble_eq_true rfl | (dsimp only; omega)) dX8_matters_7 (fun v h_7 n_7 p_7 => ?_)
  obtain ⟨rfl, rfl, rfl⟩ := p_7
  try dsimp only [Option.toList, List.cons_append, List.nil_append]
  obtain ⟨t16, ht16, et16⟩ := b13 16 (by decide)
  by_cases hr : q < 0 ∨ tu 16 ≤ q
  · rw [if_pos hr]
    refine o_if_eq (tgt := 25) hC dX8_matters_10 (by decide) (fun c_10 => ?_) (fun c_10 => ?_)
    · refine o_iconst (v := (-1 : Int32)) hC dX8_matters_25 (by decide +kernel) ?_
      refine o_iret hC hB dX8_matters_26 (Nat.le_of_ble_eq_true rfl) (Nat.le_of_ble_eq_true rfl) ?_
      exact ⟨_, rfl, rfl, ⟨_, _, _, S, hu.dp (hq0) rfl rfl rfl rfl ⟨wrc, hrc6, hrc⟩, rfl, rfl, fun q a b => by first | exact rl_u_n (by omega) | exact (rl_u_n (by omega)).trans (rl_u_n (by omega)) | exact (dst q a b).trans (rl_u_n (by omega))⟩, (hq0).fr⟩
    · exact absurd rfl c_10
  · rw [if_neg hr]
    obtain ⟨t, ht0, rfl⟩ := nI_of_lt (k := t16) (by omega) (fun e => hr (Or.inl e)) (fun e => hr (Or.inr (by rw [et16]; exact e)))
    have ht : t < 80 := by omega
    obtain ⟨g00, gk0, -, gf0⟩ := id hq0
    refine o_if_eq (tgt := 25) hC dX8_matters_10 (by decide) (fun c_10 => ?_) (fun c_10 => ?_)
    · refine o_iconst (v := (-1 : Int32)) hC dX8_matters_25 (by decide +kernel) ?_
      refine o_iret hC hB dX8_matters_26 (Nat.le_of_ble_eq_true rfl) (Nat.le_of_ble_eq_true rfl) ?_
      first
      | exact ⟨_, rfl, rfl, ⟨_, _, _, S, hu.dp (hq2) rfl rfl rfl rfl ⟨wrc, hrc6, hrc⟩, rfl, rfl, fun q a b => by first | exact rl_u_n (by omega) | exact (rl_u_n (by omega)).trans (rl_u_n (by omega)) | exact (dst q a b).trans (rl_u_n (by omega))⟩, (hq2).fr⟩
      | exact ⟨_, rfl, rfl, ⟨_, _, _, S, hu.dp (hq0) rfl rfl rfl rfl ⟨wrc, hrc6, hrc⟩, rfl, rfl, fun q a b => by first | exact rl_u_n (by omega) | exact (rl_u_n (by omega)).trans (rl_u_n (by omega)) | exact (dst q a b).trans (rl_u_n (by omega))⟩, (hq0).fr⟩
    · refine o_iload_n hC dX8_matters_13 (by rfl) ?_
      refine o_if_lt (tgt := 25) hC dX8_matters_14 (by decide) (fun c_14 => ?_) (fun c_14 => ?_)
      · refine o_iconst (v := (-1 : Int32)) hC dX8_matters_25 (by decide +kernel) ?_
        refine o_iret hC hB dX8_matters_26 (Nat.le_of_ble_eq_true rfl) (Nat.le_of_ble_eq_true rfl) ?_
        first
        | exact ⟨_, rfl, rfl, ⟨_, _, _, S, hu.dp (hq2) rfl rfl rfl rfl ⟨wrc, hrc6, hrc⟩, rfl, rfl, fun q a b => by first | exact rl_u_n (by omega) | exact (rl_u_n (by omega)).trans (rl_u_n (by omega)) | exact (dst q a b).trans (rl_u_n (by omega))⟩, (hq2).fr⟩
        | exact ⟨_, rfl, rfl, ⟨_, _, _, S, hu.dp (hq0) rfl rfl rfl rfl ⟨wrc, hrc6, hrc⟩, rfl, rfl, fun q a b => by first | exact rl_u_n (by omega) | exact (rl_u_n (by omega)).trans (rl_u_n (by omega)) | exact (dst q a b).trans (rl_u_n (by omega))⟩, (hq0).fr⟩
      · refine o_iload_n hC dX8_matters_17 (by rfl) ?_
        refine o_aload_n hC dX8_matters_18 (by rfl) ?_
        refine o_getf hC (fX8_112 hC rfl) dX8_matters_19 (by repeat (first | with_reducible assumption | (rw [rl_u_s]; done) | (rw [rl_u_s]; rfl) | rw [rl_u_n (by first | with_reducible assumption | omega)])) (by first | rfl | with_reducible assumption) ?_
        refine o_icmp_lt (tgt := 27) hC dX8_matters_22 (by decide) (fun c_22 => ?_) (fun c_22 => ?_)
        · refine o_aload_n hC dX8_matters_27 (by rfl) ?_
          refine o_iload_n hC dX8_matters_28 (by rfl) ?_
          refine o_callV1 hC rl_BW_good rl_Ns_nw (by exact hB.2.2.2.2.2) YX8_stand IX8_stand VX8_stand (mX8_213 hC) (by rw [hB.1]; exact cm_X8_stand l D ids H0 _ _ m _ _ _ t z.2.2.1 hq0.rf ht hrr hr36) (by exact hq0.1) rfl rfl (Nat.le_of_ble_eq_true rfl) (by rw [hB.2.1]; first | exact Nat.le_of_ble_eq_true rfl | (dsimp only; omega)) (by rw [hB.2.1]; first | exact Nat.le_of_ble_eq_true rfl | (dsimp only; omega)) (by rw [hB.2.1]; first | exact Nat.le_of_ble_eq_true rfl | (dsimp only; omega)) (by rw [hB.2.1]; first | exact Nat.le_of_ble_eq_true rfl | (dsimp only; omega)) dX8_matters_29 (fun v h_29 n_29 p_29 => ?_)
          obtain ⟨r29, im2, rfl, rfl, im36, hst, q29, dst⟩ := p_29
          have hq2 := hq0.tr q29
          obtain ⟨g02, gk2, -, gf2⟩ := id hq2
          try dsimp only [Option.toList, List.cons_append, List.nil_append]
          refine o_if_ne (tgt := 38) hC dX8_matters_32 (by decide) (fun c_32 => ?_) (fun c_32 => ?_)
          · have im16 : im2 ≤ 16 := hst.elim (fun e => absurd e c_32) (fun e => e.2)
            refine o_iconst (v := nI 0) hC dX8_matters_38 (by decide +kernel) ?_
            refine o_istore_n hC dX8_matters_39 (Nat.le_of_ble_eq_true rfl) ?_
            have loop : ∀ (mm sn : Nat) (o4 : Option Value), sn + mm = 65536 → rl_G X (rl_e D ids H0) 40 [some (.ref m), some (.int (nI t)), some (.int r), some (.int (nI sn)), o4, none] [] h_29 n_29 0 0 := by
              intro mm
              induction mm with
              | zero =>
                intro sn o4 hm
                have e0 : sn = 65536 := by omega
                subst e0
                refine o_iload_n hC dX8_matters_40 (by rfl) ?_
                refine o_iconst (v := nI 1) hC dX8_matters_41 (by decide +kernel) ?_
                refine o_aload_n hC dX8_matters_42 (by rfl) ?_
                refine o_getf hC (fX8_210 hC rfl) dX8_matters_43 (by repeat (first | with_reducible assumption | (rw [rl_u_s]; done) | (rw [rl_u_s]; rfl) | rw [rl_u_n (by first | with_reducible assumption | omega)])) (by first | rfl | with_reducible assumption) ?_
                refine o_ishl hC dX8_matters_46 ?_
                refine o_icmp_ge (tgt := 94) hC dX8_matters_47 (by decide) (fun c_47 => ?_) (fun c_47 => ?_)
                · refine o_iconst (v := nI 0) hC dX8_matters_94 (by decide +kernel) ?_
                  refine o_iret hC hB dX8_matters_95 (Nat.le_of_ble_eq_true rfl) (Nat.le_of_ble_eq_true rfl) ?_
                  exact ⟨_, rfl, rfl, ⟨_, _, _, S, hu.dp (hq2) rfl rfl rfl rfl ⟨wrc, hrc6, hrc⟩, rfl, rfl, fun q a b => by first | exact rl_u_n (by omega) | exact (rl_u_n (by omega)).trans (rl_u_n (by omega)) | exact (dst q a b).trans (rl_u_n (by omega))⟩, (hq2).fr⟩
                · exact absurd (md_shl16 im2 im16) c_47
              | succ mm ih =>
                intro sn o4 hm
                refine o_iload_n hC dX8_matters_40 (by rfl) ?_
                refine o_iconst (v := nI 1) hC dX8_matters_41 (by decide +kernel) ?_
                refine o_aload_n hC dX8_matters_42 (by rfl) ?_
                refine o_getf hC (fX8_210 hC rfl) dX8_matters_43 (by repeat (first | with_reducible assumption | (rw [rl_u_s]; done) | (rw [rl_u_s]; rfl) | rw [rl_u_n (by first | with_reducible assumption | omega)])) (by first | rfl | with_reducible assumption) ?_
                refine o_ishl hC dX8_matters_46 ?_
                refine o_icmp_ge (tgt := 94) hC dX8_matters_47 (by decide) (fun c_47 => ?_) (fun c_47 => ?_)
                · refine o_iconst (v := nI 0) hC dX8_matters_94 (by decide +kernel) ?_
                  refine o_iret hC hB dX8_matters_95 (Nat.le_of_ble_eq_true rfl) (Nat.le_of_ble_eq_true rfl) ?_
                  exact ⟨_, rfl, rfl, ⟨_, _, _, S, hu.dp (hq2) rfl rfl rfl rfl ⟨wrc, hrc6, hrc⟩, rfl, rfl, fun q a b => by first | exact rl_u_n (by omega) | exact (rl_u_n (by omega)).trans (rl_u_n (by omega)) | exact (dst q a b).trans (rl_u_n (by omega))⟩, (hq2).fr⟩
                · refine o_aload_n hC dX8_matters_50 (by rfl) ?_
                  refine o_iload_n hC dX8_matters_51 (by rfl) ?_
                  refine o_callV1 hC rl_BW_good rl_Ns_nw (by exact hB.2.2.2.2.2) YX8_rowsOf IX8_rowsOf VX8_rowsOf (mX8_216 hC) (by rw [hB.1]; exact cm_X8_rowsOf l D ids H0 _ _ m _ _ _ im2 _ hq2.rf rfl im36) (by exact hq2.1) rfl rfl (Nat.le_of_ble_eq_true rfl) (by rw [hB.2.1]; first | exact Nat.le_of_ble_eq_true rfl | (dsimp only; omega)) (by rw [hB.2.1]; first | exact Nat.le_of_ble_eq_true rfl | (dsimp only; omega)) (by rw [hB.2.1]; first | exact Nat.le_of_ble_eq_true rfl | (dsimp only; omega)) (by rw [hB.2.1]; first | exact Nat.le_of_ble_eq_true rfl | (dsimp only; omega)) dX8_matters_52 (fun v h_52 n_52 p_52 => ?_)
                  obtain ⟨r52, rfl, rfl, rfl⟩ := p_52
                  try dsimp only [Option.toList, List.cons_append, List.nil_append]
                  refine o_lstore hC dX8_matters_55 (Nat.le_of_ble_eq_true rfl) ?_
                  refine o_aload_n hC dX8_matters_57 (by rfl) ?_
                  refine o_iload_n hC dX8_matters_58 (by rfl) ?_
                  refine o_lload hC dX8_matters_59 (by rfl) ?_
                  refine o_lconst (v := 1) hC dX8_matters_61 (by decide +kernel) ?_
                  refine o_iload_n hC dX8_matters_62 (by rfl) ?_
                  refine o_lshl hC dX8_matters_63 ?_
                  refine o_ldc2 hC nX8_85 dX8_matters_64 ?_
                  refine o_lxor hC dX8_matters_67 ?_
                  refine o_land hC dX8_matters_68 ?_
                  refine o_callV2 hC rl_BW_good rl_Ns_nw (by exact hB.2.2.2.2.2) YX8_isSo IX8_isSo VX8_isSo (mX8_206 hC) (by rw [hB.1]; exact cm_X8_isSo l D ids H0 _ _ m _ _ _ t _ hq2.rf ht) (by exact hq2.1) rfl rfl (Nat.le_of_ble_eq_true rfl) (by rw [hB.2.1]; first | exact Nat.le_of_ble_eq_true rfl | (dsimp only; omega)) (by rw [hB.2.1]; first | exact Nat.le_of_ble_eq_true rfl | (dsimp only; omega)) (by rw [hB.2.1]; first | exact Nat.le_of_ble_eq_true rfl | (dsimp only; omega)) (by rw [hB.2.1]; first | exact Nat.le_of_ble_eq_true rfl | (dsimp only; omega)) dX8_matters_69 (fun v h_69 n_69 p_69 => ?_)
                  obtain ⟨r69, rfl, rfl, rfl⟩ := p_69
                  try dsimp only [Option.toList, List.cons_append, List.nil_append]
                  refine o_aload_n hC dX8_matters_72 (by rfl) ?_
                  refine o_iload_n hC dX8_matters_73 (by rfl) ?_
                  refine o_lload hC dX8_matters_74 (by rfl) ?_
                  refine o_lconst (v := 1) hC dX8_matters_76 (by decide +kernel) ?_
                  refine o_iload_n hC dX8_matters_77 (by rfl) ?_
                  refine o_lshl hC dX8_matters_78 ?_
                  refine o_lor hC dX8_matters_79 ?_
                  refine o_callV2 hC rl_BW_good rl_Ns_nw (by exact hB.2.2.2.2.2) YX8_isSo IX8_isSo VX8_isSo (mX8_206 hC) (by rw [hB.1]; exact cm_X8_isSo l D ids H0 _ _ m _ _ _ t _ hq2.rf ht) (by exact hq2.1) rfl rfl (Nat.le_of_ble_eq_true rfl) (by rw [hB.2.1]; first | exact Nat.le_of_ble_eq_true rfl | (dsimp only; omega)) (by rw [hB.2.1]; first | exact Nat.le_of_ble_eq_true rfl | (dsimp only; omega)) (by rw [hB.2.1]; first | exact Nat.le_of_ble_eq_true rfl | (dsimp only; omega)) (by rw [hB.2.1]; first | exact Nat.le_of_ble_eq_true rfl | (dsimp only; omega)) dX8_matters_80 (fun v h_80 n_80 p_80 => ?_)
                  obtain ⟨r80, rfl, rfl, rfl⟩ := p_80
                  try dsimp only [Option.toList, List.cons_append, List.nil_append]
                  refine o_icmp_eq (tgt := 88) hC dX8_matters_83 (by decide) (fun c_83 => ?_) (fun c_83 => ?_)
                  · refine o_iinc hC dX8_matters_88 (by rfl) (rl_inc _) (Nat.le_of_ble_eq_true rfl) ?_
                    refine o_goto (tgt := 40) hC dX8_matters_91 (by decide) ?_
                    exact ih (sn + 1) _ (by omega)
                  · refine o_iconst (v := nI 1) hC dX8_matters_86 (by decide +kernel) ?_
                    refine o_iret hC hB dX8_matters_87 (Nat.le_of_ble_eq_true rfl) (Nat.le_of_ble_eq_true rfl) ?_
                    exact ⟨_, rfl, rfl, ⟨_, _, _, S, hu.dp (hq2) rfl rfl rfl rfl ⟨wrc, hrc6, hrc⟩, rfl, rfl, fun q a b => by first | exact rl_u_n (by omega) | exact (rl_u_n (by omega)).trans (rl_u_n (by omega)) | exact (dst q a b).trans (rl_u_n (by omega))⟩, (hq2).fr⟩
            exact loop 65536 0 _ (by omega)
          · refine o_bipush (v := (-4 : Int32)) hC dX8_matters_35 (by decide +kernel) ?_
            refine o_iret hC hB dX8_matters_37 (Nat.le_of_ble_eq_true rfl) (Nat.le_of_ble_eq_true rfl) ?_
            first
            | exact ⟨_, rfl, rfl, ⟨_, _, _, S, hu.dp (hq2) rfl rfl rfl rfl ⟨wrc, hrc6, hrc⟩, rfl, rfl, fun q a b => by first | exact rl_u_n (by omega) | exact (rl_u_n (by omega)).trans (rl_u_n (by omega)) | exact (dst q a b).trans (rl_u_n (by omega))⟩, (hq2).fr⟩
            | exact ⟨_, rfl, rfl, ⟨_, _, _, S, hu.dp (hq0) rfl rfl rfl rfl ⟨wrc, hrc6, hrc⟩, rfl, rfl, fun q a b => by first | exact rl_u_n (by omega) | exact (rl_u_n (by omega)).trans (rl_u_n (by omega)) | exact (dst q a b).trans (rl_u_n (by omega))⟩, (hq0).fr⟩
        · refine o_iconst (v := (-1 : Int32)) hC dX8_matters_25 (by decide +kernel) ?_
          refine o_iret hC hB dX8_matters_26 (Nat.le_of_ble_eq_true rfl) (Nat.le_of_ble_eq_true rfl) ?_
          first
          | exact ⟨_, rfl, rfl, ⟨_, _, _, S, hu.dp (hq2) rfl rfl rfl rfl ⟨wrc, hrc6, hrc⟩, rfl, rfl, fun q a b => by first | exact rl_u_n (by omega) | exact (rl_u_n (by omega)).trans (rl_u_n (by omega)) | exact (dst q a b).trans (rl_u_n (by omega))⟩, (hq2).fr⟩
          | exact ⟨_, rfl, rfl, ⟨_, _, _, S, hu.dp (hq0) rfl rfl rfl rfl ⟨wrc, hrc6, hrc⟩, rfl, rfl, fun q a b => by first | exact rl_u_n (by omega) | exact (rl_u_n (by omega)).trans (rl_u_n (by omega)) | exact (dst q a b).trans (rl_u_n (by omega))⟩, (hq0).fr⟩

set_option maxHeartbeats 4000000 in
set_option maxRecDepth 100000 in
theorem cm_X8_blame (l : Launch) (D : va_G) (ids : Nat → ClassId) (H0 : Heap) (h : rl_H) (n : Nat) (m : Nat) (T : md_T) (fu : Int32) (k : Nat) (S : md_A) (z : sh_S) (q : Int32) (hu : md_un ids h m T fu k S z) : rl_Met l (rl_e D ids H0) rl_BW rl_Ns yX8_blame cX8_blame 8 (some .int) ({ frames := 2, cells := 0, slots := 0, locals := 48 }) [.ref m, .int q] h n (fun v h' n' => ∃ r : Int32, v = some (.int r) ∧ n' = n ∧ mdx ids h' m T z (fun S' => S' = S) (∀ q : Nat, m + 12 ≤ q → q < m + 22 → h' q = h q) ∧ rl_fr h h' m (m + 23)) := by
  obtain ⟨hq, hs, ⟨hsc, hsc4⟩, hwf, ⟨hrr, hr36⟩, ⟨hnc, hn16⟩, hnw, hpr, hnv, hwv, wrc, hrc6, hrc⟩ := id hu
  have hq0 := hq.ob (nI 0, T.2) fu k hq.2.1
  have g0 := hq.1
  obtain ⟨-, gk, ⟨⟨cl, g12⟩, ⟨tu, g13, b13⟩, ⟨im, g14⟩, ⟨te, g15, b15⟩, ⟨ne, g16⟩, ⟨la, g17⟩, ⟨hn, g18⟩, ⟨hl, g19⟩, ⟨tp, g20⟩, ⟨gr, g21, b21⟩, ⟨it, g22⟩⟩, gf⟩ := id hq
  refine rl_Met.of (by decide +kernel) (Nat.le_of_ble_eq_true rfl) ?_
  intro X hC hB
  show rl_G X (rl_e D ids H0) 0 [some (.ref m), some (.int q), none, none, none, none, none, none] [] h n 0 0
  refine o_aload_n hC dX8_blame_0 (by rfl) ?_
  refine o_iconst (v := nI 0) hC dX8_blame_1 (by decide +kernel) ?_
  refine o_putf hC (fX8_78 hC rfl) (fwX8 rfl rfl rfl (Or.inl rfl)) dX8_blame_2 (by repeat (first | with_reducible assumption | (rw [rl_u_s]; done) | (rw [rl_u_s]; rfl) | rw [rl_u_n (by first | with_reducible assumption | omega)])) (Nat.le_of_ble_eq_true rfl) ?_
  try simp only [List.set_cons_zero, List.set_cons_succ]
  refine o_aload_n hC dX8_blame_5 (by rfl) ?_
  refine o_iload_n hC dX8_blame_6 (by rfl) ?_
  refine o_callV1 hC rl_BW_good rl_Ns_nw (by exact hB.2.2.2.2.2) YX8_isTuple IX8_isTuple VX8_isTuple (mX8_199 hC) (by rw [hB.1]; exact ct_X8_isTuple l D ids H0 _ _ m (m + 13) _ _ tu (by repeat (first | with_reducible assumption | (rw [rl_u_s]; done) | (rw [rl_u_s]; rfl) | rw [rl_u_n (by first | with_reducible assumption | omega)])) rfl (by repeat (first | with_reducible assumption | (rw [rl_u_s]; done) | (rw [rl_u_s]; rfl) | rw [rl_u_n (by first | with_reducible assumption | omega)]))) (by repeat (first | with_reducible assumption | (rw [rl_u_s]; done) | (rw [rl_u_s]; rfl) | rw [rl_u_n (by first | with_reducible assumption | omega)])) rfl rfl (Nat.le_of_ble_eq_true rfl) (by rw [hB.2.1]; first | exact Nat.le_of_ble_eq_true rfl | (dsimp only; omega)) (by rw [hB.2.1]; first | exact Nat.le_of_ble_eq_true rfl | (dsimp only; omega)) (by rw [hB.2.1]; first | exact Nat.le_of_ble_eq_true rfl | (dsimp only; omega)) (by rw [hB.2.1]; first | exact Nat.le_of_ble_eq_true rfl | (dsimp only; omega)) dX8_blame_7 (fun v h_7 n_7 p_7 => ?_)
  obtain ⟨rfl, rfl, rfl⟩ := p_7
  try dsimp only [Option.toList, List.cons_append, List.nil_append]
  obtain ⟨t16, ht16, et16⟩ := b13 16 (by decide)
  by_cases hr : q < 0 ∨ tu 16 ≤ q
  · rw [if_pos hr]
    refine o_if_ne (tgt := 15) hC dX8_blame_10 (by decide) (fun c_10 => ?_) (fun c_10 => ?_)
    · exact absurd rfl c_10
    · refine o_iconst (v := (-1 : Int32)) hC dX8_blame_13 (by decide +kernel) ?_
      refine o_iret hC hB dX8_blame_14 (Nat.le_of_ble_eq_true rfl) (Nat.le_of_ble_eq_true rfl) ?_
      exact ⟨_, rfl, rfl, ⟨_, _, _, S, hu.dp (hq0) rfl rfl rfl rfl ⟨wrc, hrc6, hrc⟩, rfl, rfl, fun q a b => by first | exact rl_u_n (by omega) | exact (rl_u_n (by omega)).trans (rl_u_n (by omega)) | exact (dst q a b).trans (rl_u_n (by omega))⟩, (hq0).fr⟩
  · rw [if_neg hr]
    obtain ⟨t, ht0, rfl⟩ := nI_of_lt (k := t16) (by omega) (fun e => hr (Or.inl e)) (fun e => hr (Or.inr (by rw [et16]; exact e)))
    have ht : t < 80 := by omega
    obtain ⟨g00, gk0, -, gf0⟩ := id hq0
    refine o_if_ne (tgt := 15) hC dX8_blame_10 (by decide) (fun c_10 => ?_) (fun c_10 => ?_)
    · refine o_aload_n hC dX8_blame_15 (by rfl) ?_
      refine o_iload_n hC dX8_blame_16 (by rfl) ?_
      refine o_callV1 hC rl_BW_good rl_Ns_nw (by exact hB.2.2.2.2.2) YX8_stand IX8_stand VX8_stand (mX8_213 hC) (by rw [hB.1]; exact cm_X8_stand l D ids H0 _ _ m _ _ _ t z.2.2.1 hq0.rf ht hrr hr36) (by exact hq0.1) rfl rfl (Nat.le_of_ble_eq_true rfl) (by rw [hB.2.1]; first | exact Nat.le_of_ble_eq_true rfl | (dsimp only; omega)) (by rw [hB.2.1]; first | exact Nat.le_of_ble_eq_true rfl | (dsimp only; omega)) (by rw [hB.2.1]; first | exact Nat.le_of_ble_eq_true rfl | (dsimp only; omega)) (by rw [hB.2.1]; first | exact Nat.le_of_ble_eq_true rfl | (dsimp only; omega)) dX8_blame_17 (fun v h_17 n_17 p_17 => ?_)
      obtain ⟨r17, im2, rfl, rfl, im36, hst, q17, dst⟩ := p_17
      have hq2 := hq0.tr q17
      obtain ⟨g02, gk2, -, gf2⟩ := id hq2
      try dsimp only [Option.toList, List.cons_append, List.nil_append]
      refine o_if_ne (tgt := 26) hC dX8_blame_20 (by decide) (fun c_20 => ?_) (fun c_20 => ?_)
      · have im16 : im2 ≤ 16 := hst.elim (fun e => absurd e c_20) (fun e => e.2)
        refine o_aload_n hC dX8_blame_26 (by rfl) ?_
        refine o_iload_n hC dX8_blame_27 (by rfl) ?_
        refine o_aload_n hC dX8_blame_28 (by rfl) ?_
        refine o_getf hC (fX8_115 hC rfl) dX8_blame_29 (by repeat (first | with_reducible assumption | (rw [rl_u_s]; done) | (rw [rl_u_s]; rfl) | rw [rl_u_n (by first | with_reducible assumption | omega)])) (by first | rfl | with_reducible assumption) ?_
        refine o_callV2 hC rl_BW_good rl_Ns_nw (by exact hB.2.2.2.2.2) YX8_isSo IX8_isSo VX8_isSo (mX8_206 hC) (by rw [hB.1]; exact cm_X8_isSo l D ids H0 _ _ m _ _ _ t _ hq2.rf ht) (by exact hq2.1) rfl rfl (Nat.le_of_ble_eq_true rfl) (by rw [hB.2.1]; first | exact Nat.le_of_ble_eq_true rfl | (dsimp only; omega)) (by rw [hB.2.1]; first | exact Nat.le_of_ble_eq_true rfl | (dsimp only; omega)) (by rw [hB.2.1]; first | exact Nat.le_of_ble_eq_true rfl | (dsimp only; omega)) (by rw [hB.2.1]; first | exact Nat.le_of_ble_eq_true rfl | (dsimp only; omega)) dX8_blame_32 (fun v h_32 n_32 p_32 => ?_)
        obtain ⟨r32, rfl, rfl, rfl⟩ := p_32
        try dsimp only [Option.toList, List.cons_append, List.nil_append]
        refine o_istore_n hC dX8_blame_35 (Nat.le_of_ble_eq_true rfl) ?_
        refine o_iconst (v := (-1 : Int32)) hC dX8_blame_36 (by decide +kernel) ?_
        refine o_istore_n hC dX8_blame_37 (Nat.le_of_ble_eq_true rfl) ?_
        refine o_iconst (v := nI 0) hC dX8_blame_38 (by decide +kernel) ?_
        refine o_istore hC dX8_blame_39 (Nat.le_of_ble_eq_true rfl) ?_
        have loop : ∀ (mm sn : Nat) (c : Int32) (o5 : Option Value) (o7 : Option Value), sn + mm = 65536 → rl_G X (rl_e D ids H0) 41 [some (.ref m), some (.int (nI t)), some (.int r32), some (.int c), some (.int (nI sn)), o5, none, o7] [] h_32 n_32 0 0 := by
          intro mm
          induction mm with
          | zero =>
            intro sn c o5 o7 hm
            have e0 : sn = 65536 := by omega
            subst e0
            refine o_iload hC dX8_blame_41 (by rfl) ?_
            refine o_iconst (v := nI 1) hC dX8_blame_43 (by decide +kernel) ?_
            refine o_aload_n hC dX8_blame_44 (by rfl) ?_
            refine o_getf hC (fX8_210 hC rfl) dX8_blame_45 (by repeat (first | with_reducible assumption | (rw [rl_u_s]; done) | (rw [rl_u_s]; rfl) | rw [rl_u_n (by first | with_reducible assumption | omega)])) (by first | rfl | with_reducible assumption) ?_
            refine o_ishl hC dX8_blame_48 ?_
            refine o_icmp_ge (tgt := 128) hC dX8_blame_49 (by decide) (fun c_49 => ?_) (fun c_49 => ?_)
            · refine o_iload_n hC dX8_blame_128 (by rfl) ?_
              refine o_iret hC hB dX8_blame_129 (Nat.le_of_ble_eq_true rfl) (Nat.le_of_ble_eq_true rfl) ?_
              exact ⟨_, rfl, rfl, ⟨_, _, _, S, hu.dp (hq2) rfl rfl rfl rfl ⟨wrc, hrc6, hrc⟩, rfl, rfl, fun q a b => by first | exact rl_u_n (by omega) | exact (rl_u_n (by omega)).trans (rl_u_n (by omega)) | exact (dst q a b).trans (rl_u_n (by omega))⟩, (hq2).fr⟩
            · exact absurd (md_shl16 im2 im16) c_49
          | succ mm ih =>
            intro sn c o5 o7 hm
            refine o_iload hC dX8_blame_41 (by rfl) ?_
            refine o_iconst (v := nI 1) hC dX8_blame_43 (by decide +kernel) ?_
            refine o_aload_n hC dX8_blame_44 (by rfl) ?_
            refine o_getf hC (fX8_210 hC rfl) dX8_blame_45 (by repeat (first | with_reducible assumption | (rw [rl_u_s]; done) | (rw [rl_u_s]; rfl) | rw [rl_u_n (by first | with_reducible assumption | omega)])) (by first | rfl | with_reducible assumption) ?_
            refine o_ishl hC dX8_blame_48 ?_
            refine o_icmp_ge (tgt := 128) hC dX8_blame_49 (by decide) (fun c_49 => ?_) (fun c_49 => ?_)
            · refine o_iload_n hC dX8_blame_128 (by rfl) ?_
              refine o_iret hC hB dX8_blame_129 (Nat.le_of_ble_eq_true rfl) (Nat.le_of_ble_eq_true rfl) ?_
              exact ⟨_, rfl, rfl, ⟨_, _, _, S, hu.dp (hq2) rfl rfl rfl rfl ⟨wrc, hrc6, hrc⟩, rfl, rfl, fun q a b => by first | exact rl_u_n (by omega) | exact (rl_u_n (by omega)).trans (rl_u_n (by omega)) | exact (dst q a b).trans (rl_u_n (by omega))⟩, (hq2).fr⟩
            · refine o_aload_n hC dX8_blame_52 (by rfl) ?_
              refine o_iload hC dX8_blame_53 (by rfl) ?_
              refine o_callV1 hC rl_BW_good rl_Ns_nw (by exact hB.2.2.2.2.2) YX8_rowsOf IX8_rowsOf VX8_rowsOf (mX8_216 hC) (by rw [hB.1]; exact cm_X8_rowsOf l D ids H0 _ _ m _ _ _ im2 _ hq2.rf rfl im36) (by exact hq2.1) rfl rfl (Nat.le_of_ble_eq_true rfl) (by rw [hB.2.1]; first | exact Nat.le_of_ble_eq_true rfl | (dsimp only; omega)) (by rw [hB.2.1]; first | exact Nat.le_of_ble_eq_true rfl | (dsimp only; omega)) (by rw [hB.2.1]; first | exact Nat.le_of_ble_eq_true rfl | (dsimp only; omega)) (by rw [hB.2.1]; first | exact Nat.le_of_ble_eq_true rfl | (dsimp only; omega)) dX8_blame_55 (fun v h_55 n_55 p_55 => ?_)
              obtain ⟨r55, rfl, rfl, rfl⟩ := p_55
              try dsimp only [Option.toList, List.cons_append, List.nil_append]
              refine o_lstore hC dX8_blame_58 (Nat.le_of_ble_eq_true rfl) ?_
              refine o_lload hC dX8_blame_60 (by rfl) ?_
              refine o_aload_n hC dX8_blame_62 (by rfl) ?_
              refine o_getf hC (fX8_115 hC rfl) dX8_blame_63 (by repeat (first | with_reducible assumption | (rw [rl_u_s]; done) | (rw [rl_u_s]; rfl) | rw [rl_u_n (by first | with_reducible assumption | omega)])) (by first | rfl | with_reducible assumption) ?_
              refine o_ldc2 hC nX8_85 dX8_blame_66 ?_
              refine o_lxor hC dX8_blame_69 ?_
              refine o_land hC dX8_blame_70 ?_
              refine o_lconst (v := 0) hC dX8_blame_71 (by decide +kernel) ?_
              refine o_lcmp hC dX8_blame_72 ?_
              refine o_if_ne (tgt := 122) hC dX8_blame_73 (by decide) (fun c_73 => ?_) (fun c_73 => ?_)
              · refine o_iinc hC dX8_blame_122 (by rfl) (rl_inc _) (Nat.le_of_ble_eq_true rfl) ?_
                refine o_goto (tgt := 41) hC dX8_blame_125 (by decide) ?_
                exact ih (sn + 1) _ _ _ (by omega)
              · refine o_aload_n hC dX8_blame_76 (by rfl) ?_
                refine o_iload_n hC dX8_blame_77 (by rfl) ?_
                refine o_aload_n hC dX8_blame_78 (by rfl) ?_
                refine o_getf hC (fX8_115 hC rfl) dX8_blame_79 (by repeat (first | with_reducible assumption | (rw [rl_u_s]; done) | (rw [rl_u_s]; rfl) | rw [rl_u_n (by first | with_reducible assumption | omega)])) (by first | rfl | with_reducible assumption) ?_
                refine o_lload hC dX8_blame_82 (by rfl) ?_
                refine o_ldc2 hC nX8_85 dX8_blame_84 ?_
                refine o_lxor hC dX8_blame_87 ?_
                refine o_land hC dX8_blame_88 ?_
                refine o_callV2 hC rl_BW_good rl_Ns_nw (by exact hB.2.2.2.2.2) YX8_isSo IX8_isSo VX8_isSo (mX8_206 hC) (by rw [hB.1]; exact cm_X8_isSo l D ids H0 _ _ m _ _ _ t _ hq2.rf ht) (by exact hq2.1) rfl rfl (Nat.le_of_ble_eq_true rfl) (by rw [hB.2.1]; first | exact Nat.le_of_ble_eq_true rfl | (dsimp only; omega)) (by rw [hB.2.1]; first | exact Nat.le_of_ble_eq_true rfl | (dsimp only; omega)) (by rw [hB.2.1]; first | exact Nat.le_of_ble_eq_true rfl | (dsimp only; omega)) (by rw [hB.2.1]; first | exact Nat.le_of_ble_eq_true rfl | (dsimp only; omega)) dX8_blame_89 (fun v h_89 n_89 p_89 => ?_)
                obtain ⟨r89, rfl, rfl, rfl⟩ := p_89
                try dsimp only [Option.toList, List.cons_append, List.nil_append]
                refine o_iload_n hC dX8_blame_92 (by rfl) ?_
                refine o_icmp_eq (tgt := 122) hC dX8_blame_93 (by decide) (fun c_93 => ?_) (fun c_93 => ?_)
                · refine o_iinc hC dX8_blame_122 (by rfl) (rl_inc _) (Nat.le_of_ble_eq_true rfl) ?_
                  refine o_goto (tgt := 41) hC dX8_blame_125 (by decide) ?_
                  exact ih (sn + 1) _ _ _ (by omega)
                · refine o_iload hC dX8_blame_96 (by rfl) ?_
                  refine o_i2l hC dX8_blame_98 ?_
                  refine o_callS1 hC rl_BW_good rl_Ns_nw (by exact hB.2.2.2.2.2) YX8_ones SX8_ones (mX8_220 hC) (by rw [hB.1]; exact cm_X8_ones l D ids H0 _ _ _) (Nat.le_of_ble_eq_true rfl) (by rw [hB.2.1]; first | exact Nat.le_of_ble_eq_true rfl | (dsimp only; omega)) (by rw [hB.2.1]; first | exact Nat.le_of_ble_eq_true rfl | (dsimp only; omega)) (by rw [hB.2.1]; first | exact Nat.le_of_ble_eq_true rfl | (dsimp only; omega)) (by rw [hB.2.1]; first | exact Nat.le_of_ble_eq_true rfl | (dsimp only; omega)) dX8_blame_99 (fun v h_99 n_99 p_99 => ?_)
                  obtain ⟨r99, rfl, rfl, rfl⟩ := p_99
                  try dsimp only [Option.toList, List.cons_append, List.nil_append]
                  refine o_istore hC dX8_blame_102 (Nat.le_of_ble_eq_true rfl) ?_
                  refine o_iload_n hC dX8_blame_104 (by rfl) ?_
                  refine o_iconst (v := (-1 : Int32)) hC dX8_blame_105 (by decide +kernel) ?_
                  refine o_icmp_eq (tgt := 115) hC dX8_blame_106 (by decide) (fun c_106 => ?_) (fun c_106 => ?_)
                  · refine o_iload hC dX8_blame_115 (by rfl) ?_
                    refine o_goto (tgt := 121) hC dX8_blame_117 (by decide) ?_
                    refine o_istore_n hC dX8_blame_121 (Nat.le_of_ble_eq_true rfl) ?_
                    refine o_iinc hC dX8_blame_122 (by rfl) (rl_inc _) (Nat.le_of_ble_eq_true rfl) ?_
                    refine o_goto (tgt := 41) hC dX8_blame_125 (by decide) ?_
                    exact ih (sn + 1) _ _ _ (by omega)
                  · refine o_iload hC dX8_blame_109 (by rfl) ?_
                    refine o_iload_n hC dX8_blame_111 (by rfl) ?_
                    refine o_icmp_ge (tgt := 120) hC dX8_blame_112 (by decide) (fun c_112 => ?_) (fun c_112 => ?_)
                    · refine o_iload_n hC dX8_blame_120 (by rfl) ?_
                      refine o_istore_n hC dX8_blame_121 (Nat.le_of_ble_eq_true rfl) ?_
                      refine o_iinc hC dX8_blame_122 (by rfl) (rl_inc _) (Nat.le_of_ble_eq_true rfl) ?_
                      refine o_goto (tgt := 41) hC dX8_blame_125 (by decide) ?_
                      exact ih (sn + 1) _ _ _ (by omega)
                    · refine o_iload hC dX8_blame_115 (by rfl) ?_
                      refine o_goto (tgt := 121) hC dX8_blame_117 (by decide) ?_
                      refine o_istore_n hC dX8_blame_121 (Nat.le_of_ble_eq_true rfl) ?_
                      refine o_iinc hC dX8_blame_122 (by rfl) (rl_inc _) (Nat.le_of_ble_eq_true rfl) ?_
                      refine o_goto (tgt := 41) hC dX8_blame_125 (by decide) ?_
                      exact ih (sn + 1) _ _ _ (by omega)
        exact loop 65536 0 _ _ _ (by omega)
      · refine o_bipush (v := (-4 : Int32)) hC dX8_blame_23 (by decide +kernel) ?_
        refine o_iret hC hB dX8_blame_25 (Nat.le_of_ble_eq_true rfl) (Nat.le_of_ble_eq_true rfl) ?_
        first
        | exact ⟨_, rfl, rfl, ⟨_, _, _, S, hu.dp (hq2) rfl rfl rfl rfl ⟨wrc, hrc6, hrc⟩, rfl, rfl, fun q a b => by first | exact rl_u_n (by omega) | exact (rl_u_n (by omega)).trans (rl_u_n (by omega)) | exact (dst q a b).trans (rl_u_n (by omega))⟩, (hq2).fr⟩
        | exact ⟨_, rfl, rfl, ⟨_, _, _, S, hu.dp (hq0) rfl rfl rfl rfl ⟨wrc, hrc6, hrc⟩, rfl, rfl, fun q a b => by first | exact rl_u_n (by omega) | exact (rl_u_n (by omega)).trans (rl_u_n (by omega)) | exact (dst q a b).trans (rl_u_n (by omega))⟩, (hq0).fr⟩
    · exact absurd c_10 (by decide +kernel)

set_option maxHeartbeats 4000000 in
set_option maxRecDepth 100000 in
theorem cm_X8_told (l : Launch) (D : va_G) (ids : Nat → ClassId) (H0 : Heap) (h : rl_H) (n : Nat) (m : Nat) (T : md_T) (fu : Int32) (k : Nat) (S : md_A) (z : sh_S) (w : Int32) (hu : md_un ids h m T fu k S z) : rl_Met l (rl_e D ids H0) rl_BW rl_Ns yX8_told cX8_told 4 (some .int) ({ frames := 2, cells := 0, slots := 0, locals := 48 }) [.ref m, .int w] h n (fun v h' n' => ∃ r : Int32, v = some (.int r) ∧ n' = n ∧ mdx ids h' m T z (fun S' => S' = S) (∀ q : Nat, m + 12 ≤ q → q < m + 22 → h' q = h q) ∧ rl_fr h h' m (m + 23)) := by
  obtain ⟨hq, hs, ⟨hsc, hsc4⟩, hwf, ⟨hrr, hr36⟩, ⟨hnc, hn16⟩, hnw, hpr, hnv, hwv, wrc, hrc6, hrc⟩ := id hu
  have hq0 := hq.ob (nI 0, T.2) fu k hq.2.1
  have g0 := hq.1
  obtain ⟨-, gk, ⟨⟨cl, g12⟩, ⟨tu, g13, b13⟩, ⟨im, g14⟩, ⟨te, g15, b15⟩, ⟨ne, g16⟩, ⟨la, g17⟩, ⟨hn, g18⟩, ⟨hl, g19⟩, ⟨tp, g20⟩, ⟨gr, g21, b21⟩, ⟨it, g22⟩⟩, gf⟩ := id hq
  refine rl_Met.of (by decide +kernel) (Nat.le_of_ble_eq_true rfl) ?_
  intro X hC hB
  show rl_G X (rl_e D ids H0) 0 [some (.ref m), some (.int w), none, none] [] h n 0 0
  refine o_aload_n hC dX8_told_0 (by rfl) ?_
  refine o_iconst (v := nI 0) hC dX8_told_1 (by decide +kernel) ?_
  refine o_putf hC (fX8_78 hC rfl) (fwX8 rfl rfl rfl (Or.inl rfl)) dX8_told_2 (by repeat (first | with_reducible assumption | (rw [rl_u_s]; done) | (rw [rl_u_s]; rfl) | rw [rl_u_n (by first | with_reducible assumption | omega)])) (Nat.le_of_ble_eq_true rfl) ?_
  try simp only [List.set_cons_zero, List.set_cons_succ]
  refine o_iconst (v := nI 0) hC dX8_told_5 (by decide +kernel) ?_
  refine o_istore_n hC dX8_told_6 (Nat.le_of_ble_eq_true rfl) ?_
  refine o_iload_n hC dX8_told_7 (by rfl) ?_
  by_cases hw : w < 0 ∨ nI 5 < w
  · refine o_tableOut (tgt := 120) hC dX8_told_8 (rl_out (by decide) hw) (by decide) ?_
    refine o_bipush (v := (-2 : Int32)) hC dX8_told_120 (by decide +kernel) ?_
    refine o_iret hC hB dX8_told_122 (Nat.le_of_ble_eq_true rfl) (Nat.le_of_ble_eq_true rfl) ?_
    exact ⟨_, rfl, rfl, ⟨_, _, _, S, hu.dp (hq0) rfl rfl rfl rfl ⟨wrc, hrc6, hrc⟩, rfl, rfl, fun q a b => by first | exact rl_u_n (by omega) | exact (rl_u_n (by omega)).trans (rl_u_n (by omega)) | exact (dst q a b).trans (rl_u_n (by omega))⟩, (hq0).fr⟩
  · obtain ⟨j, hj, rfl⟩ := rl_inn (by decide) hw
    rcases (show j = 0 ∨ j = 1 ∨ j = 2 ∨ j = 3 ∨ j = 4 ∨ j = 5 by omega) with rfl | rfl | rfl | rfl | rfl | rfl
    · refine o_tableIn (off := 40) (tgt := 48) hC dX8_told_8 (by decide +kernel) (by decide +kernel) (by decide +kernel) (by decide) ?_
      refine o_aload_n hC dX8_told_48 (by rfl) ?_
      refine o_getf hC (fX8_109 hC rfl) dX8_told_49 (by repeat (first | with_reducible assumption | (rw [rl_u_s]; done) | (rw [rl_u_s]; rfl) | rw [rl_u_n (by first | with_reducible assumption | omega)])) (by first | rfl | with_reducible assumption) ?_
      refine o_iret hC hB dX8_told_52 (Nat.le_of_ble_eq_true rfl) (Nat.le_of_ble_eq_true rfl) ?_
      exact ⟨_, rfl, rfl, ⟨_, _, _, S, hu.dp (hq0) rfl rfl rfl rfl ⟨wrc, hrc6, hrc⟩, rfl, rfl, fun q a b => by first | exact rl_u_n (by omega) | exact (rl_u_n (by omega)).trans (rl_u_n (by omega)) | exact (dst q a b).trans (rl_u_n (by omega))⟩, (hq0).fr⟩
    · refine o_tableIn (off := 45) (tgt := 53) hC dX8_told_8 (by decide +kernel) (by decide +kernel) (by decide +kernel) (by decide) ?_
      refine o_aload_n hC dX8_told_53 (by rfl) ?_
      refine o_getf hC (fX8_112 hC rfl) dX8_told_54 (by repeat (first | with_reducible assumption | (rw [rl_u_s]; done) | (rw [rl_u_s]; rfl) | rw [rl_u_n (by first | with_reducible assumption | omega)])) (by first | rfl | with_reducible assumption) ?_
      refine o_iret hC hB dX8_told_57 (Nat.le_of_ble_eq_true rfl) (Nat.le_of_ble_eq_true rfl) ?_
      exact ⟨_, rfl, rfl, ⟨_, _, _, S, hu.dp (hq0) rfl rfl rfl rfl ⟨wrc, hrc6, hrc⟩, rfl, rfl, fun q a b => by first | exact rl_u_n (by omega) | exact (rl_u_n (by omega)).trans (rl_u_n (by omega)) | exact (dst q a b).trans (rl_u_n (by omega))⟩, (hq0).fr⟩
    · refine o_tableIn (off := 50) (tgt := 58) hC dX8_told_8 (by decide +kernel) (by decide +kernel) (by decide +kernel) (by decide) ?_
      refine o_aload_n hC dX8_told_58 (by rfl) ?_
      refine o_getf hC (fX8_119 hC rfl) dX8_told_59 (by repeat (first | with_reducible assumption | (rw [rl_u_s]; done) | (rw [rl_u_s]; rfl) | rw [rl_u_n (by first | with_reducible assumption | omega)])) (by first | rfl | with_reducible assumption) ?_
      refine o_iret hC hB dX8_told_62 (Nat.le_of_ble_eq_true rfl) (Nat.le_of_ble_eq_true rfl) ?_
      exact ⟨_, rfl, rfl, ⟨_, _, _, S, hu.dp (hq0) rfl rfl rfl rfl ⟨wrc, hrc6, hrc⟩, rfl, rfl, fun q a b => by first | exact rl_u_n (by omega) | exact (rl_u_n (by omega)).trans (rl_u_n (by omega)) | exact (dst q a b).trans (rl_u_n (by omega))⟩, (hq0).fr⟩
    · refine o_tableIn (off := 55) (tgt := 63) hC dX8_told_8 (by decide +kernel) (by decide +kernel) (by decide +kernel) (by decide) ?_
      refine o_aload_n hC dX8_told_63 (by rfl) ?_
      refine o_getf hC (fX8_46 hC rfl) dX8_told_64 (by repeat (first | with_reducible assumption | (rw [rl_u_s]; done) | (rw [rl_u_s]; rfl) | rw [rl_u_n (by first | with_reducible assumption | omega)])) (by first | rfl | with_reducible assumption) ?_
      refine o_bipush (v := nI 16) hC dX8_told_67 (by decide +kernel) ?_
      refine o_ialdN (t0 := 0) hC rfl dX8_told_69 (by repeat (first | with_reducible assumption | (rw [rl_u_s]; done) | (rw [rl_u_s]; rfl) | rw [rl_u_n (by first | with_reducible assumption | omega)])) (by omega) (by decide) ?_
      refine o_iret hC hB dX8_told_70 (Nat.le_of_ble_eq_true rfl) (Nat.le_of_ble_eq_true rfl) ?_
      exact ⟨_, rfl, rfl, ⟨_, _, _, S, hu.dp (hq0) rfl rfl rfl rfl ⟨wrc, hrc6, hrc⟩, rfl, rfl, fun q a b => by first | exact rl_u_n (by omega) | exact (rl_u_n (by omega)).trans (rl_u_n (by omega)) | exact (dst q a b).trans (rl_u_n (by omega))⟩, (hq0).fr⟩
    · refine o_tableIn (off := 63) (tgt := 71) hC dX8_told_8 (by decide +kernel) (by decide +kernel) (by decide +kernel) (by decide) ?_
      refine o_iconst (v := nI 0) hC dX8_told_71 (by decide +kernel) ?_
      refine o_istore_n hC dX8_told_72 (Nat.le_of_ble_eq_true rfl) ?_
      have loop : ∀ (mm t : Nat) (c : Int32), t + mm = 80 → rl_G X (rl_e D ids H0) 73 [some (.ref m), some (.int (nI 4)), some (.int c), some (.int (nI t))] [] (rl_u h m (md_ob m (nI 0, T.2) fu k)) n 0 0 := by
        intro mm
        induction mm with
        | zero =>
          intro t c hm
          refine o_iload_n hC dX8_told_73 (by rfl) ?_
          refine o_aload_n hC dX8_told_74 (by rfl) ?_
          refine o_getf hC (fX8_46 hC rfl) dX8_told_75 (by repeat (first | with_reducible assumption | (rw [rl_u_s]; done) | (rw [rl_u_s]; rfl) | rw [rl_u_n (by first | with_reducible assumption | omega)])) (by first | rfl | with_reducible assumption) ?_
          refine o_bipush (v := nI 16) hC dX8_told_78 (by decide +kernel) ?_
          obtain ⟨t16, ht16, et16⟩ := b13 16 (by decide)
          refine o_ialdN (t0 := 0) (k := 16) hC rfl dX8_told_80 (by repeat (first | with_reducible assumption | (rw [rl_u_s]; done) | (rw [rl_u_s]; rfl) | rw [rl_u_n (by first | with_reducible assumption | omega)])) (by decide) (by decide) ?_
          rw [et16]
          refine o_icmp_ge (tgt := 110) hC dX8_told_81 (by decide) (fun c_81 => ?_) (fun c_81 => ?_)
          · refine o_iload_n hC dX8_told_110 (by rfl) ?_
            refine o_iret hC hB dX8_told_111 (Nat.le_of_ble_eq_true rfl) (Nat.le_of_ble_eq_true rfl) ?_
            exact ⟨_, rfl, rfl, ⟨_, _, _, S, hu.dp (hq0) rfl rfl rfl rfl ⟨wrc, hrc6, hrc⟩, rfl, rfl, fun q a b => by first | exact rl_u_n (by omega) | exact (rl_u_n (by omega)).trans (rl_u_n (by omega)) | exact (dst q a b).trans (rl_u_n (by omega))⟩, (hq0).fr⟩
          · exact absurd (nI_le (by omega) (by omega)) c_81
        | succ mm ih =>
          intro t c hm
          refine o_iload_n hC dX8_told_73 (by rfl) ?_
          refine o_aload_n hC dX8_told_74 (by rfl) ?_
          refine o_getf hC (fX8_46 hC rfl) dX8_told_75 (by repeat (first | with_reducible assumption | (rw [rl_u_s]; done) | (rw [rl_u_s]; rfl) | rw [rl_u_n (by first | with_reducible assumption | omega)])) (by first | rfl | with_reducible assumption) ?_
          refine o_bipush (v := nI 16) hC dX8_told_78 (by decide +kernel) ?_
          obtain ⟨t16, ht16, et16⟩ := b13 16 (by decide)
          refine o_ialdN (t0 := 0) (k := 16) hC rfl dX8_told_80 (by repeat (first | with_reducible assumption | (rw [rl_u_s]; done) | (rw [rl_u_s]; rfl) | rw [rl_u_n (by first | with_reducible assumption | omega)])) (by decide) (by decide) ?_
          rw [et16]
          refine o_icmp_ge (tgt := 110) hC dX8_told_81 (by decide) (fun c_81 => ?_) (fun c_81 => ?_)
          · refine o_iload_n hC dX8_told_110 (by rfl) ?_
            refine o_iret hC hB dX8_told_111 (Nat.le_of_ble_eq_true rfl) (Nat.le_of_ble_eq_true rfl) ?_
            exact ⟨_, rfl, rfl, ⟨_, _, _, S, hu.dp (hq0) rfl rfl rfl rfl ⟨wrc, hrc6, hrc⟩, rfl, rfl, fun q a b => by first | exact rl_u_n (by omega) | exact (rl_u_n (by omega)).trans (rl_u_n (by omega)) | exact (dst q a b).trans (rl_u_n (by omega))⟩, (hq0).fr⟩
          · refine o_iload_n hC dX8_told_84 (by rfl) ?_
            refine o_aload_n hC dX8_told_85 (by rfl) ?_
            refine o_iload_n hC dX8_told_86 (by rfl) ?_
            refine o_aload_n hC dX8_told_87 (by rfl) ?_
            refine o_getf hC (fX8_115 hC rfl) dX8_told_88 (by repeat (first | with_reducible assumption | (rw [rl_u_s]; done) | (rw [rl_u_s]; rfl) | rw [rl_u_n (by first | with_reducible assumption | omega)])) (by first | rfl | with_reducible assumption) ?_
            refine o_callV2 hC rl_BW_good rl_Ns_nw (by exact hB.2.2.2.2.2) YX8_isSo IX8_isSo VX8_isSo (mX8_206 hC) (by rw [hB.1]; exact cm_X8_isSo l D ids H0 _ _ m _ _ _ t _ hq0.rf (by omega)) (by exact hq0.1) rfl rfl (Nat.le_of_ble_eq_true rfl) (by rw [hB.2.1]; first | exact Nat.le_of_ble_eq_true rfl | (dsimp only; omega)) (by rw [hB.2.1]; first | exact Nat.le_of_ble_eq_true rfl | (dsimp only; omega)) (by rw [hB.2.1]; first | exact Nat.le_of_ble_eq_true rfl | (dsimp only; omega)) (by rw [hB.2.1]; first | exact Nat.le_of_ble_eq_true rfl | (dsimp only; omega)) dX8_told_91 (fun v h_91 n_91 p_91 => ?_)
            obtain ⟨r91, rfl, rfl, rfl⟩ := p_91
            try dsimp only [Option.toList, List.cons_append, List.nil_append]
            refine o_if_eq (tgt := 101) hC dX8_told_94 (by decide) (fun c_94 => ?_) (fun c_94 => ?_)
            · refine o_iconst (v := nI 0) hC dX8_told_101 (by decide +kernel) ?_
              refine o_iadd hC dX8_told_102 ?_
              refine o_istore_n hC dX8_told_103 (Nat.le_of_ble_eq_true rfl) ?_
              refine o_iinc hC dX8_told_104 (by rfl) (rl_inc _) (Nat.le_of_ble_eq_true rfl) ?_
              refine o_goto (tgt := 73) hC dX8_told_107 (by decide) ?_
              exact ih (t + 1) _ (by omega)
            · refine o_iconst (v := nI 1) hC dX8_told_97 (by decide +kernel) ?_
              refine o_goto (tgt := 102) hC dX8_told_98 (by decide) ?_
              refine o_iadd hC dX8_told_102 ?_
              refine o_istore_n hC dX8_told_103 (Nat.le_of_ble_eq_true rfl) ?_
              refine o_iinc hC dX8_told_104 (by rfl) (rl_inc _) (Nat.le_of_ble_eq_true rfl) ?_
              refine o_goto (tgt := 73) hC dX8_told_107 (by decide) ?_
              exact ih (t + 1) _ (by omega)
      exact loop 80 0 _ (by omega)
    · refine o_tableIn (off := 104) (tgt := 112) hC dX8_told_8 (by decide +kernel) (by decide +kernel) (by decide +kernel) (by decide) ?_
      refine o_aload_n hC dX8_told_112 (by rfl) ?_
      refine o_getf hC (fX8_115 hC rfl) dX8_told_113 (by repeat (first | with_reducible assumption | (rw [rl_u_s]; done) | (rw [rl_u_s]; rfl) | rw [rl_u_n (by first | with_reducible assumption | omega)])) (by first | rfl | with_reducible assumption) ?_
      refine o_callS1 hC rl_BW_good rl_Ns_nw (by exact hB.2.2.2.2.2) YX8_ones SX8_ones (mX8_220 hC) (by rw [hB.1]; exact cm_X8_ones l D ids H0 _ _ _) (Nat.le_of_ble_eq_true rfl) (by rw [hB.2.1]; first | exact Nat.le_of_ble_eq_true rfl | (dsimp only; omega)) (by rw [hB.2.1]; first | exact Nat.le_of_ble_eq_true rfl | (dsimp only; omega)) (by rw [hB.2.1]; first | exact Nat.le_of_ble_eq_true rfl | (dsimp only; omega)) (by rw [hB.2.1]; first | exact Nat.le_of_ble_eq_true rfl | (dsimp only; omega)) dX8_told_116 (fun v h_116 n_116 p_116 => ?_)
      obtain ⟨r116, rfl, rfl, rfl⟩ := p_116
      try dsimp only [Option.toList, List.cons_append, List.nil_append]
      refine o_iret hC hB dX8_told_119 (Nat.le_of_ble_eq_true rfl) (Nat.le_of_ble_eq_true rfl) ?_
      exact ⟨_, rfl, rfl, ⟨_, _, _, S, hu.dp (hq0) rfl rfl rfl rfl ⟨wrc, hrc6, hrc⟩, rfl, rfl, fun q a b => by first | exact rl_u_n (by omega) | exact (rl_u_n (by omega)).trans (rl_u_n (by omega)) | exact (dst q a b).trans (rl_u_n (by omega))⟩, (hq0).fr⟩
end
section
/-! THE MODEL: what changes sources, rows, nodes, present -/
def sh_source (z : sh_S) (q : Int32) : Int32 × sh_S := if q < nI 1 ∨ ¬ q ≤ nI 4 then (-2, z) else if 4 ≤ z.1 then (-4, z) else (nI z.1, (z.1 + 1, upd z.2.1 z.1 q, z.2.2))
def sh_row (z : sh_S) (q : Int32) : Int32 × sh_S := if q < 0 ∨ nI z.1 ≤ q then (-1, z) else if 36 ≤ z.2.2.1 then (-4, z) else (nI z.2.2.1, (z.1, z.2.1, z.2.2.1 + 1, z.2.2.2.1, z.2.2.2.2.1, z.2.2.2.2.2 ||| (1 : Int64) <<< ((nI z.2.2.1).toInt64 &&& 63)))
def sh_columns (z : sh_S) (q : Int32) : Int32 × sh_S := if sh_nn z q then (-1, z) else (sh_w z q, z)
def sh_drop (z : sh_S) (q on : Int32) : Int32 × sh_S := if q < 0 ∨ nI z.2.2.1 ≤ q then (-1, z) else (if dp_pr z.2.2.2.2.2 q on = z.2.2.2.2.2 then nI 0 else nI 1, (z.1, z.2.1, z.2.2.1, z.2.2.2.1, z.2.2.2.2.1, dp_pr z.2.2.2.2.2 q on))
def sh_clear (z : sh_S) : sh_S := (0, z.2.1, 0, 0, z.2.2.2.2.1, 0)
theorem mf_inj32b {c c' : ClassId} {N N' : Nat} {f g : Nat → Int32} (h : (some (.inl (c, N, .inl f)) : Option va_E) = some (.inl (c', N', .inl g))) : f = g := by
  injection h with h
  injection h with h
  injection h with _ h
  injection h with _ h
  injection h
theorem nI_eq_of {a b : Nat} (h : ¬ nI a = nI b) : a ≠ b := fun e => h (by rw [e])

set_option maxHeartbeats 4000000 in
set_option maxRecDepth 100000 in
theorem cm_X8_source (l : Launch) (D : va_G) (ids : Nat → ClassId) (H0 : Heap) (h : rl_H) (n : Nat) (m : Nat) (T : md_T) (fu : Int32) (k : Nat) (S : md_A) (z : sh_S) (q : Int32) (hu : md_un ids h m T fu k S z) : rl_Met l (rl_e D ids H0) rl_BW rl_Ns yX8_source cX8_source 2 (some .int) ({ frames := 0, cells := 0, slots := 0, locals := 0 }) [.ref m, .int q] h n (fun v h' n' => ∃ r : Int32, v = some (.int r) ∧ n' = n ∧ mdx ids h' m T (sh_source z q).2 (fun S' => S'.2 = S.2) (∀ q : Nat, m + 12 ≤ q → q < m + 23 → h' q = h q) ∧ r = (sh_source z q).1 ∧ rl_fr h h' m (m + 23)) := by
  obtain ⟨hq, hs, ⟨hsc, hsc4⟩, hwf, ⟨hrr, hr36⟩, ⟨hnc, hn16⟩, hnw, hpr, hnv, hwv, wrc, hrc6, hrc⟩ := id hu
  have hq0 := hq.ob (nI 0, T.2) fu k hq.2.1
  have g0 := hq.1
  obtain ⟨-, gk, ⟨⟨cl, g12⟩, ⟨tu, g13, b13⟩, ⟨im, g14⟩, ⟨te, g15, b15⟩, ⟨ne, g16⟩, ⟨la, g17⟩, ⟨hn, g18⟩, ⟨hl, g19⟩, ⟨tp, g20⟩, ⟨gr, g21, b21⟩, ⟨it, g22⟩⟩, gf⟩ := id hq
  obtain ⟨a1, a2, a3, a4, a5, a6, a7, a8, a9, a10, a11⟩ := id hs
  refine rl_Met.of (by decide +kernel) (Nat.le_of_ble_eq_true rfl) ?_
  intro X hC hB
  show rl_G X (rl_e D ids H0) 0 [some (.ref m), some (.int q)] [] h n 0 0
  refine o_aload_n hC dX8_source_0 (by rfl) ?_
  refine o_iconst (v := nI 0) hC dX8_source_1 (by decide +kernel) ?_
  refine o_putf hC (fX8_78 hC rfl) (fwX8 rfl rfl rfl (Or.inl rfl)) dX8_source_2 (by repeat (first | with_reducible assumption | (rw [rl_u_s]; done) | (rw [rl_u_s]; rfl) | rw [rl_u_n (by first | with_reducible assumption | omega)])) (Nat.le_of_ble_eq_true rfl) ?_
  try simp only [List.set_cons_zero, List.set_cons_succ]
  refine o_iload_n hC dX8_source_5 (by rfl) ?_
  refine o_iconst (v := nI 1) hC dX8_source_6 (by decide +kernel) ?_
  refine o_icmp_lt (tgt := 15) hC dX8_source_7 (by decide) (fun c_7 => ?_) (fun c_7 => ?_)
  · refine o_bipush (v := (-2 : Int32)) hC dX8_source_15 (by decide +kernel) ?_
    refine o_iret hC hB dX8_source_17 (Nat.le_of_ble_eq_true rfl) (Nat.le_of_ble_eq_true rfl) ?_
    first
    | (have e : sh_source z q = (-2, z) := if_pos (Or.inl c_7); exact ⟨_, rfl, rfl, (by rw [e]; exact ⟨_, _, _, S, hu.dp hq0 rfl rfl rfl rfl ⟨wrc, hrc6, hrc⟩, rfl, rfl, fun q a b => rl_u_n (by omega)⟩), (by rw [e]), hq0.fr⟩)
    | (have e : sh_source z q = (-2, z) := if_pos (Or.inr c_12); exact ⟨_, rfl, rfl, (by rw [e]; exact ⟨_, _, _, S, hu.dp hq0 rfl rfl rfl rfl ⟨wrc, hrc6, hrc⟩, rfl, rfl, fun q a b => rl_u_n (by omega)⟩), (by rw [e]), hq0.fr⟩)
  · refine o_iload_n hC dX8_source_10 (by rfl) ?_
    refine o_iconst (v := nI 4) hC dX8_source_11 (by decide +kernel) ?_
    refine o_icmp_le (tgt := 18) hC dX8_source_12 (by decide) (fun c_12 => ?_) (fun c_12 => ?_)
    · refine o_aload_n hC dX8_source_18 (by rfl) ?_
      refine o_getf (v := .int (nI z.1)) hC (fX8_109 hC rfl) dX8_source_19 (by repeat (first | with_reducible assumption | (rw [rl_u_s]; done) | (rw [rl_u_s]; rfl) | rw [rl_u_n (by first | with_reducible assumption | omega)])) (by rw [← hsc]; rfl) ?_
      refine o_iconst (v := nI 4) hC dX8_source_22 (by decide +kernel) ?_
      refine o_icmp_ne (tgt := 29) hC dX8_source_23 (by decide) (fun c_23 => ?_) (fun c_23 => ?_)
      · have s4b : z.1 ≠ 4 := nI_eq_of c_23
        refine o_aload_n hC dX8_source_29 (by rfl) ?_
        refine o_getf hC (fX8_7 hC rfl) dX8_source_30 (by repeat (first | with_reducible assumption | (rw [rl_u_s]; done) | (rw [rl_u_s]; rfl) | rw [rl_u_n (by first | with_reducible assumption | omega)])) (by first | rfl | with_reducible assumption) ?_
        refine o_aload_n hC dX8_source_33 (by rfl) ?_
        refine o_getf (v := .int (nI z.1)) hC (fX8_109 hC rfl) dX8_source_34 (by repeat (first | with_reducible assumption | (rw [rl_u_s]; done) | (rw [rl_u_s]; rfl) | rw [rl_u_n (by first | with_reducible assumption | omega)])) (by rw [← hsc]; rfl) ?_
        refine o_iload_n hC dX8_source_37 (by rfl) ?_
        refine o_iastN (t0 := 0) hC rfl dX8_source_38 (by repeat (first | with_reducible assumption | (rw [rl_u_s]; done) | (rw [rl_u_s]; rfl) | rw [rl_u_n (by first | with_reducible assumption | omega)])) (by omega) (by decide) ?_
        refine o_aload_n hC dX8_source_39 (by rfl) ?_
        refine o_dup hC dX8_source_40 rfl ?_
        refine o_getf (v := .int (nI z.1)) hC (fX8_109 hC rfl) dX8_source_41 (by repeat (first | with_reducible assumption | (rw [rl_u_s]; done) | (rw [rl_u_s]; rfl) | rw [rl_u_n (by first | with_reducible assumption | omega)])) (by rw [← hsc]; rfl) ?_
        refine o_iconst (v := nI 1) hC dX8_source_44 (by decide +kernel) ?_
        refine o_iadd hC dX8_source_45 ?_
        try rw [nI_add]
        refine o_putf hC (fX8_109 hC rfl) (fwX8 rfl rfl rfl (Or.inl rfl)) dX8_source_46 (by repeat (first | with_reducible assumption | (rw [rl_u_s]; done) | (rw [rl_u_s]; rfl) | rw [rl_u_n (by first | with_reducible assumption | omega)])) (Nat.le_of_ble_eq_true rfl) ?_
        try simp only [List.set_cons_zero, List.set_cons_succ]
        refine o_aload_n hC dX8_source_49 (by rfl) ?_
        refine o_getf hC (fX8_109 hC rfl) dX8_source_50 (by repeat (first | with_reducible assumption | (rw [rl_u_s]; done) | (rw [rl_u_s]; rfl) | rw [rl_u_n (by first | with_reducible assumption | omega)])) (by first | rfl | with_reducible assumption) ?_
        refine o_iconst (v := nI 1) hC dX8_source_53 (by decide +kernel) ?_
        refine o_isub hC dX8_source_54 ?_
        rw [rl_pred z.1]
        refine o_iret hC hB dX8_source_55 (Nat.le_of_ble_eq_true rfl) (Nat.le_of_ble_eq_true rfl) ?_
        have wv0 : ∀ i : Nat, i < z.1 + 1 → ∃ w : Nat, 1 ≤ w ∧ w ≤ 4 ∧ upd S.1 z.1 q i = nI w := fun i hi => by
          by_cases ei : i = z.1
          · subst ei
            rw [upd_at]
            obtain ⟨w, hw, rfl⟩ := nI_of2 (M := nI 4) (nI_toInt (by decide)) (fun e => c_7 (Int32.lt_trans e (by decide +kernel))) c_12
            exact ⟨w, Nat.pos_of_ne_zero (fun e => c_7 (by rw [e]; decide +kernel)), hw, rfl⟩
          · rw [upd_lt (show i < z.1 by omega)]
            exact hwv i (by omega)
        have s4 : z.1 ≠ 4 := nI_eq_of c_23
        have e : sh_source z q = (nI z.1, (z.1 + 1, upd z.2.1 z.1 q, z.2.2)) := (if_neg (fun e => e.elim c_7 (fun e => e c_12))).trans (if_neg (by omega))
        refine ⟨_, rfl, rfl, (by rw [e]; refine ⟨(nI 0, nI (z.1 + 1), T.2.2), fu, k, (upd S.1 z.1 q, S.2), ⟨⟨by repeat (first | with_reducible assumption | (rw [rl_u_s]; done) | (rw [rl_u_s]; rfl) | rw [rl_u_n (by first | with_reducible assumption | omega)]), gk, ⟨⟨cl, by repeat (first | with_reducible assumption | (rw [rl_u_s]; done) | (rw [rl_u_s]; rfl) | rw [rl_u_n (by first | with_reducible assumption | omega)])⟩, ⟨tu, by repeat (first | with_reducible assumption | (rw [rl_u_s]; done) | (rw [rl_u_s]; rfl) | rw [rl_u_n (by first | with_reducible assumption | omega)]), b13⟩, ⟨im, by repeat (first | with_reducible assumption | (rw [rl_u_s]; done) | (rw [rl_u_s]; rfl) | rw [rl_u_n (by first | with_reducible assumption | omega)])⟩, ⟨te, by repeat (first | with_reducible assumption | (rw [rl_u_s]; done) | (rw [rl_u_s]; rfl) | rw [rl_u_n (by first | with_reducible assumption | omega)]), b15⟩, ⟨ne, by repeat (first | with_reducible assumption | (rw [rl_u_s]; done) | (rw [rl_u_s]; rfl) | rw [rl_u_n (by first | with_reducible assumption | omega)])⟩, ⟨la, by repeat (first | with_reducible assumption | (rw [rl_u_s]; done) | (rw [rl_u_s]; rfl) | rw [rl_u_n (by first | with_reducible assumption | omega)])⟩, ⟨hn, by repeat (first | with_reducible assumption | (rw [rl_u_s]; done) | (rw [rl_u_s]; rfl) | rw [rl_u_n (by first | with_reducible assumption | omega)])⟩, ⟨hl, by repeat (first | with_reducible assumption | (rw [rl_u_s]; done) | (rw [rl_u_s]; rfl) | rw [rl_u_n (by first | with_reducible assumption | omega)])⟩, ⟨tp, by repeat (first | with_reducible assumption | (rw [rl_u_s]; done) | (rw [rl_u_s]; rfl) | rw [rl_u_n (by first | with_reducible assumption | omega)])⟩, ⟨gr, by repeat (first | with_reducible assumption | (rw [rl_u_s]; done) | (rw [rl_u_s]; rfl) | rw [rl_u_n (by first | with_reducible assumption | omega)]), b21⟩, ⟨it, by repeat (first | with_reducible assumption | (rw [rl_u_s]; done) | (rw [rl_u_s]; rfl) | rw [rl_u_n (by first | with_reducible assumption | omega)])⟩⟩, fun _ _ _ => rfl⟩, ⟨by repeat (first | with_reducible assumption | (rw [rl_u_s]; done) | (rw [rl_u_s]; rfl) | rw [rl_u_n (by first | with_reducible assumption | omega)]), by repeat (first | with_reducible assumption | (rw [rl_u_s]; done) | (rw [rl_u_s]; rfl) | rw [rl_u_n (by first | with_reducible assumption | omega)]), by repeat (first | with_reducible assumption | (rw [rl_u_s]; done) | (rw [rl_u_s]; rfl) | rw [rl_u_n (by first | with_reducible assumption | omega)]), by repeat (first | with_reducible assumption | (rw [rl_u_s]; done) | (rw [rl_u_s]; rfl) | rw [rl_u_n (by first | with_reducible assumption | omega)]), by repeat (first | with_reducible assumption | (rw [rl_u_s]; done) | (rw [rl_u_s]; rfl) | rw [rl_u_n (by first | with_reducible assumption | omega)]), by repeat (first | with_reducible assumption | (rw [rl_u_s]; done) | (rw [rl_u_s]; rfl) | rw [rl_u_n (by first | with_reducible assumption | omega)]), by repeat (first | with_reducible assumption | (rw [rl_u_s]; done) | (rw [rl_u_s]; rfl) | rw [rl_u_n (by first | with_reducible assumption | omega)]), by repeat (first | with_reducible assumption | (rw [rl_u_s]; done) | (rw [rl_u_s]; rfl) | rw [rl_u_n (by first | with_reducible assumption | omega)]), by repeat (first | with_reducible assumption | (rw [rl_u_s]; done) | (rw [rl_u_s]; rfl) | rw [rl_u_n (by first | with_reducible assumption | omega)]), by repeat (first | with_reducible assumption | (rw [rl_u_s]; done) | (rw [rl_u_s]; rfl) | rw [rl_u_n (by first | with_reducible assumption | omega)]), by repeat (first | with_reducible assumption | (rw [rl_u_s]; done) | (rw [rl_u_s]; rfl) | rw [rl_u_n (by first | with_reducible assumption | omega)])⟩, ⟨rfl, (by show z.1 + 1 ≤ 4; omega)⟩, (by show upd S.1 z.1 q = upd z.2.1 z.1 q; rw [hwf]), ⟨hrr, hr36⟩, ⟨hnc, hn16⟩, hnw, hpr, hnv, ?_, ⟨wrc, hrc6, hrc⟩⟩, rfl, rfl, fun q a b => by repeat (first | rfl | rw [rl_u_n (by omega)])⟩; exact wv0), (by rw [e]), fun q hq => by repeat (first | rfl | rw [rl_u_n (by omega)])⟩
      · refine o_bipush (v := (-4 : Int32)) hC dX8_source_26 (by decide +kernel) ?_
        refine o_iret hC hB dX8_source_28 (Nat.le_of_ble_eq_true rfl) (Nat.le_of_ble_eq_true rfl) ?_
        (have e : sh_source z q = (-4, z) := (if_neg (fun e => e.elim c_7 (fun e => e c_12))).trans (if_pos (Nat.le_of_eq (nI_inj2 (by omega) (by decide) c_23).symm)); exact ⟨_, rfl, rfl, (by rw [e]; exact ⟨_, _, _, S, hu.dp hq0 rfl rfl rfl rfl ⟨wrc, hrc6, hrc⟩, rfl, rfl, fun q a b => rl_u_n (by omega)⟩), (by rw [e]), hq0.fr⟩)
    · refine o_bipush (v := (-2 : Int32)) hC dX8_source_15 (by decide +kernel) ?_
      refine o_iret hC hB dX8_source_17 (Nat.le_of_ble_eq_true rfl) (Nat.le_of_ble_eq_true rfl) ?_
      first
      | (have e : sh_source z q = (-2, z) := if_pos (Or.inl c_7); exact ⟨_, rfl, rfl, (by rw [e]; exact ⟨_, _, _, S, hu.dp hq0 rfl rfl rfl rfl ⟨wrc, hrc6, hrc⟩, rfl, rfl, fun q a b => rl_u_n (by omega)⟩), (by rw [e]), hq0.fr⟩)
      | (have e : sh_source z q = (-2, z) := if_pos (Or.inr c_12); exact ⟨_, rfl, rfl, (by rw [e]; exact ⟨_, _, _, S, hu.dp hq0 rfl rfl rfl rfl ⟨wrc, hrc6, hrc⟩, rfl, rfl, fun q a b => rl_u_n (by omega)⟩), (by rw [e]), hq0.fr⟩)

set_option maxHeartbeats 4000000 in
set_option maxRecDepth 100000 in
theorem cm_X8_row (l : Launch) (D : va_G) (ids : Nat → ClassId) (H0 : Heap) (h : rl_H) (n : Nat) (m : Nat) (T : md_T) (fu : Int32) (k : Nat) (S : md_A) (z : sh_S) (q a b c d : Int32) (hu : md_un ids h m T fu k S z) : rl_Met l (rl_e D ids H0) rl_BW rl_Ns yX8_row cX8_row 6 (some .int) ({ frames := 0, cells := 0, slots := 0, locals := 0 }) [.ref m, .int q, .int a, .int b, .int c, .int d] h n (fun v h' n' => ∃ r : Int32, v = some (.int r) ∧ n' = n ∧ mdx ids h' m T (sh_row z q).2 (fun S' => (S' = S ∧ (sh_row z q).2 = z ∧ h' (m + 13) = h (m + 13)) ∨ (S' = (S.1, upd S.2.1 z.2.2.1 q, upd (upd (upd (upd S.2.2.1 (4 * z.2.2.1) a) (4 * z.2.2.1 + 1) b) (4 * z.2.2.1 + 2) c) (4 * z.2.2.1 + 3) d, S.2.2.2) ∧ (sh_row z q).2.2.2.1 = z.2.2.1 + 1 ∧ ∀ tu : Nat → Int32, h (m + 13) = some (.inl (ids 0, 17, .inl tu)) → h' (m + 13) = some (.inl (ids 0, 17, .inl (upd tu 16 (nI 0)))))) (∀ q : Nat, m + 12 ≤ q → q < m + 23 → q ≠ m + 13 → h' q = h q) ∧ r = (sh_row z q).1 ∧ rl_fr h h' m (m + 23)) := by
  obtain ⟨hq, hs, ⟨hsc, hsc4⟩, hwf, ⟨hrr, hr36⟩, ⟨hnc, hn16⟩, hnw, hpr, hnv, hwv, wrc, hrc6, hrc⟩ := id hu
  have hq0 := hq.ob (nI 0, T.2) fu k hq.2.1
  have g0 := hq.1
  obtain ⟨-, gk, ⟨⟨cl, g12⟩, ⟨tu, g13, b13⟩, ⟨im, g14⟩, ⟨te, g15, b15⟩, ⟨ne, g16⟩, ⟨la, g17⟩, ⟨hn, g18⟩, ⟨hl, g19⟩, ⟨tp, g20⟩, ⟨gr, g21, b21⟩, ⟨it, g22⟩⟩, gf⟩ := id hq
  obtain ⟨a1, a2, a3, a4, a5, a6, a7, a8, a9, a10, a11⟩ := id hs
  refine rl_Met.of (by decide +kernel) (Nat.le_of_ble_eq_true rfl) ?_
  intro X hC hB
  show rl_G X (rl_e D ids H0) 0 [some (.ref m), some (.int q), some (.int a), some (.int b), some (.int c), some (.int d)] [] h n 0 0
  refine o_aload_n hC dX8_row_0 (by rfl) ?_
  refine o_iconst (v := nI 0) hC dX8_row_1 (by decide +kernel) ?_
  refine o_putf hC (fX8_78 hC rfl) (fwX8 rfl rfl rfl (Or.inl rfl)) dX8_row_2 (by repeat (first | with_reducible assumption | (rw [rl_u_s]; done) | (rw [rl_u_s]; rfl) | rw [rl_u_n (by first | with_reducible assumption | omega)])) (Nat.le_of_ble_eq_true rfl) ?_
  try simp only [List.set_cons_zero, List.set_cons_succ]
  refine o_iload_n hC dX8_row_5 (by rfl) ?_
  refine o_if_lt (tgt := 17) hC dX8_row_6 (by decide) (fun c_6 => ?_) (fun c_6 => ?_)
  · refine o_iconst (v := (-1 : Int32)) hC dX8_row_17 (by decide +kernel) ?_
    refine o_iret hC hB dX8_row_18 (Nat.le_of_ble_eq_true rfl) (Nat.le_of_ble_eq_true rfl) ?_
    first
    | (have e : sh_row z q = (-1, z) := if_pos (Or.inl c_6); exact ⟨_, rfl, rfl, (by rw [e]; exact ⟨_, _, _, S, hu.dp hq0 rfl rfl rfl rfl ⟨wrc, hrc6, hrc⟩, rfl, Or.inl ⟨rfl, rfl, rl_u_n (by omega)⟩, fun q a b d => rl_u_n (by omega)⟩), (by rw [e]), hq0.fr⟩)
    | (have e : sh_row z q = (-1, z) := if_pos (Or.inr (by rw [← hsc]; exact Int32.not_lt.mp c_14)); exact ⟨_, rfl, rfl, (by rw [e]; exact ⟨_, _, _, S, hu.dp hq0 rfl rfl rfl rfl ⟨wrc, hrc6, hrc⟩, rfl, Or.inl ⟨rfl, rfl, rl_u_n (by omega)⟩, fun q a b d => rl_u_n (by omega)⟩), (by rw [e]), hq0.fr⟩)
  · refine o_iload_n hC dX8_row_9 (by rfl) ?_
    refine o_aload_n hC dX8_row_10 (by rfl) ?_
    refine o_getf hC (fX8_109 hC rfl) dX8_row_11 (by repeat (first | with_reducible assumption | (rw [rl_u_s]; done) | (rw [rl_u_s]; rfl) | rw [rl_u_n (by first | with_reducible assumption | omega)])) (by first | rfl | with_reducible assumption) ?_
    refine o_icmp_lt (tgt := 19) hC dX8_row_14 (by decide) (fun c_14 => ?_) (fun c_14 => ?_)
    · refine o_aload_n hC dX8_row_19 (by rfl) ?_
      refine o_getf (v := .int (nI z.2.2.1)) hC (fX8_112 hC rfl) dX8_row_20 (by repeat (first | with_reducible assumption | (rw [rl_u_s]; done) | (rw [rl_u_s]; rfl) | rw [rl_u_n (by first | with_reducible assumption | omega)])) (by rw [← hrr]; rfl) ?_
      refine o_bipush (v := nI 36) hC dX8_row_23 (by decide +kernel) ?_
      refine o_icmp_ne (tgt := 31) hC dX8_row_25 (by decide) (fun c_25 => ?_) (fun c_25 => ?_)
      · have r36b : z.2.2.1 ≠ 36 := nI_eq_of c_25
        refine o_aload_n hC dX8_row_31 (by rfl) ?_
        refine o_getf hC (fX8_13 hC rfl) dX8_row_32 (by repeat (first | with_reducible assumption | (rw [rl_u_s]; done) | (rw [rl_u_s]; rfl) | rw [rl_u_n (by first | with_reducible assumption | omega)])) (by first | rfl | with_reducible assumption) ?_
        refine o_aload_n hC dX8_row_35 (by rfl) ?_
        refine o_getf (v := .int (nI z.2.2.1)) hC (fX8_112 hC rfl) dX8_row_36 (by repeat (first | with_reducible assumption | (rw [rl_u_s]; done) | (rw [rl_u_s]; rfl) | rw [rl_u_n (by first | with_reducible assumption | omega)])) (by rw [← hrr]; rfl) ?_
        refine o_iload_n hC dX8_row_39 (by rfl) ?_
        refine o_iastN (t0 := 0) hC rfl dX8_row_40 (by repeat (first | with_reducible assumption | (rw [rl_u_s]; done) | (rw [rl_u_s]; rfl) | rw [rl_u_n (by first | with_reducible assumption | omega)])) (by omega) (by decide) ?_
        refine o_aload_n hC dX8_row_41 (by rfl) ?_
        refine o_getf hC (fX8_16 hC rfl) dX8_row_42 (by repeat (first | with_reducible assumption | (rw [rl_u_s]; done) | (rw [rl_u_s]; rfl) | rw [rl_u_n (by first | with_reducible assumption | omega)])) (by first | rfl | with_reducible assumption) ?_
        refine o_iconst (v := nI 4) hC dX8_row_45 (by decide +kernel) ?_
        refine o_aload_n hC dX8_row_46 (by rfl) ?_
        refine o_getf (v := .int (nI z.2.2.1)) hC (fX8_112 hC rfl) dX8_row_47 (by repeat (first | with_reducible assumption | (rw [rl_u_s]; done) | (rw [rl_u_s]; rfl) | rw [rl_u_n (by first | with_reducible assumption | omega)])) (by rw [← hrr]; rfl) ?_
        refine o_imul hC dX8_row_50 ?_
        try rw [nI_mul]
        refine o_iload_n hC dX8_row_51 (by rfl) ?_
        refine o_iastN (t0 := 0) hC rfl dX8_row_52 (by repeat (first | with_reducible assumption | (rw [rl_u_s]; done) | (rw [rl_u_s]; rfl) | rw [rl_u_n (by first | with_reducible assumption | omega)])) (by omega) (by decide) ?_
        refine o_aload_n hC dX8_row_53 (by rfl) ?_
        refine o_getf hC (fX8_16 hC rfl) dX8_row_54 (by repeat (first | with_reducible assumption | (rw [rl_u_s]; done) | (rw [rl_u_s]; rfl) | rw [rl_u_n (by first | with_reducible assumption | omega)])) (by first | rfl | with_reducible assumption) ?_
        refine o_iconst (v := nI 4) hC dX8_row_57 (by decide +kernel) ?_
        refine o_aload_n hC dX8_row_58 (by rfl) ?_
        refine o_getf (v := .int (nI z.2.2.1)) hC (fX8_112 hC rfl) dX8_row_59 (by repeat (first | with_reducible assumption | (rw [rl_u_s]; done) | (rw [rl_u_s]; rfl) | rw [rl_u_n (by first | with_reducible assumption | omega)])) (by rw [← hrr]; rfl) ?_
        refine o_imul hC dX8_row_62 ?_
        try rw [nI_mul]
        refine o_iconst (v := nI 1) hC dX8_row_63 (by decide +kernel) ?_
        refine o_iadd hC dX8_row_64 ?_
        try rw [nI_add]
        refine o_iload_n hC dX8_row_65 (by rfl) ?_
        refine o_iastN (t0 := 0) hC rfl dX8_row_66 (by repeat (first | with_reducible assumption | (rw [rl_u_s]; done) | (rw [rl_u_s]; rfl) | rw [rl_u_n (by first | with_reducible assumption | omega)])) (by omega) (by decide) ?_
        refine o_aload_n hC dX8_row_67 (by rfl) ?_
        refine o_getf hC (fX8_16 hC rfl) dX8_row_68 (by repeat (first | with_reducible assumption | (rw [rl_u_s]; done) | (rw [rl_u_s]; rfl) | rw [rl_u_n (by first | with_reducible assumption | omega)])) (by first | rfl | with_reducible assumption) ?_
        refine o_iconst (v := nI 4) hC dX8_row_71 (by decide +kernel) ?_
        refine o_aload_n hC dX8_row_72 (by rfl) ?_
        refine o_getf (v := .int (nI z.2.2.1)) hC (fX8_112 hC rfl) dX8_row_73 (by repeat (first | with_reducible assumption | (rw [rl_u_s]; done) | (rw [rl_u_s]; rfl) | rw [rl_u_n (by first | with_reducible assumption | omega)])) (by rw [← hrr]; rfl) ?_
        refine o_imul hC dX8_row_76 ?_
        try rw [nI_mul]
        refine o_iconst (v := nI 2) hC dX8_row_77 (by decide +kernel) ?_
        refine o_iadd hC dX8_row_78 ?_
        try rw [nI_add]
        refine o_iload hC dX8_row_79 (by rfl) ?_
        refine o_iastN (t0 := 0) hC rfl dX8_row_81 (by repeat (first | with_reducible assumption | (rw [rl_u_s]; done) | (rw [rl_u_s]; rfl) | rw [rl_u_n (by first | with_reducible assumption | omega)])) (by omega) (by decide) ?_
        refine o_aload_n hC dX8_row_82 (by rfl) ?_
        refine o_getf hC (fX8_16 hC rfl) dX8_row_83 (by repeat (first | with_reducible assumption | (rw [rl_u_s]; done) | (rw [rl_u_s]; rfl) | rw [rl_u_n (by first | with_reducible assumption | omega)])) (by first | rfl | with_reducible assumption) ?_
        refine o_iconst (v := nI 4) hC dX8_row_86 (by decide +kernel) ?_
        refine o_aload_n hC dX8_row_87 (by rfl) ?_
        refine o_getf (v := .int (nI z.2.2.1)) hC (fX8_112 hC rfl) dX8_row_88 (by repeat (first | with_reducible assumption | (rw [rl_u_s]; done) | (rw [rl_u_s]; rfl) | rw [rl_u_n (by first | with_reducible assumption | omega)])) (by rw [← hrr]; rfl) ?_
        refine o_imul hC dX8_row_91 ?_
        try rw [nI_mul]
        refine o_iconst (v := nI 3) hC dX8_row_92 (by decide +kernel) ?_
        refine o_iadd hC dX8_row_93 ?_
        try rw [nI_add]
        refine o_iload hC dX8_row_94 (by rfl) ?_
        refine o_iastN (t0 := 0) hC rfl dX8_row_96 (by repeat (first | with_reducible assumption | (rw [rl_u_s]; done) | (rw [rl_u_s]; rfl) | rw [rl_u_n (by first | with_reducible assumption | omega)])) (by omega) (by decide) ?_
        refine o_aload_n hC dX8_row_97 (by rfl) ?_
        refine o_dup hC dX8_row_98 rfl ?_
        refine o_getf (v := .long z.2.2.2.2.2) hC (fX8_115 hC rfl) dX8_row_99 (by repeat (first | with_reducible assumption | (rw [rl_u_s]; done) | (rw [rl_u_s]; rfl) | rw [rl_u_n (by first | with_reducible assumption | omega)])) (by rw [← hpr]; rfl) ?_
        refine o_lconst (v := 1) hC dX8_row_102 (by decide +kernel) ?_
        refine o_aload_n hC dX8_row_103 (by rfl) ?_
        refine o_getf (v := .int (nI z.2.2.1)) hC (fX8_112 hC rfl) dX8_row_104 (by repeat (first | with_reducible assumption | (rw [rl_u_s]; done) | (rw [rl_u_s]; rfl) | rw [rl_u_n (by first | with_reducible assumption | omega)])) (by rw [← hrr]; rfl) ?_
        refine o_lshl hC dX8_row_107 ?_
        refine o_lor hC dX8_row_108 ?_
        refine o_putf hC (fX8_115 hC rfl) (fwX8 rfl rfl rfl (Or.inl rfl)) dX8_row_109 (by repeat (first | with_reducible assumption | (rw [rl_u_s]; done) | (rw [rl_u_s]; rfl) | rw [rl_u_n (by first | with_reducible assumption | omega)])) (Nat.le_of_ble_eq_true rfl) ?_
        try simp only [List.set_cons_zero, List.set_cons_succ]
        refine o_aload_n hC dX8_row_112 (by rfl) ?_
        refine o_dup hC dX8_row_113 rfl ?_
        refine o_getf (v := .int (nI z.2.2.1)) hC (fX8_112 hC rfl) dX8_row_114 (by repeat (first | with_reducible assumption | (rw [rl_u_s]; done) | (rw [rl_u_s]; rfl) | rw [rl_u_n (by first | with_reducible assumption | omega)])) (by rw [← hrr]; rfl) ?_
        refine o_iconst (v := nI 1) hC dX8_row_117 (by decide +kernel) ?_
        refine o_iadd hC dX8_row_118 ?_
        try rw [nI_add]
        refine o_putf hC (fX8_112 hC rfl) (fwX8 rfl rfl rfl (Or.inl rfl)) dX8_row_119 (by repeat (first | with_reducible assumption | (rw [rl_u_s]; done) | (rw [rl_u_s]; rfl) | rw [rl_u_n (by first | with_reducible assumption | omega)])) (Nat.le_of_ble_eq_true rfl) ?_
        try simp only [List.set_cons_zero, List.set_cons_succ]
        refine o_aload_n hC dX8_row_122 (by rfl) ?_
        refine o_getf hC (fX8_46 hC rfl) dX8_row_123 (by repeat (first | with_reducible assumption | (rw [rl_u_s]; done) | (rw [rl_u_s]; rfl) | rw [rl_u_n (by first | with_reducible assumption | omega)])) (by first | rfl | with_reducible assumption) ?_
        refine o_bipush (v := nI 16) hC dX8_row_126 (by decide +kernel) ?_
        refine o_iconst (v := nI 0) hC dX8_row_128 (by decide +kernel) ?_
        refine o_iastN (t0 := 0) hC rfl dX8_row_129 (by repeat (first | with_reducible assumption | (rw [rl_u_s]; done) | (rw [rl_u_s]; rfl) | rw [rl_u_n (by first | with_reducible assumption | omega)])) (by omega) (by decide) ?_
        refine o_aload_n hC dX8_row_130 (by rfl) ?_
        refine o_getf hC (fX8_112 hC rfl) dX8_row_131 (by repeat (first | with_reducible assumption | (rw [rl_u_s]; done) | (rw [rl_u_s]; rfl) | rw [rl_u_n (by first | with_reducible assumption | omega)])) (by first | rfl | with_reducible assumption) ?_
        refine o_iconst (v := nI 1) hC dX8_row_134 (by decide +kernel) ?_
        refine o_isub hC dX8_row_135 ?_
        rw [rl_pred z.2.2.1]
        refine o_iret hC hB dX8_row_136 (Nat.le_of_ble_eq_true rfl) (Nat.le_of_ble_eq_true rfl) ?_
        have r36 : z.2.2.1 ≠ 36 := nI_eq_of c_25
        have e : sh_row z q = (nI z.2.2.1, (z.1, z.2.1, z.2.2.1 + 1, z.2.2.2.1, z.2.2.2.2.1, z.2.2.2.2.2 ||| (1 : Int64) <<< ((nI z.2.2.1).toInt64 &&& 63))) := (if_neg (fun e => e.elim c_6 (fun e => absurd c_14 (by rw [hsc]; exact Int32.not_lt.mpr e)))).trans (if_neg (by omega))
        exact ⟨_, rfl, rfl, (by rw [e]; exact ⟨(nI 0, T.2.1, nI (z.2.2.1 + 1), z.2.2.2.2.2 ||| (1 : Int64) <<< ((nI z.2.2.1).toInt64 &&& 63), T.2.2.2.2), fu, k, (S.1, upd S.2.1 z.2.2.1 q, upd (upd (upd (upd S.2.2.1 (4 * z.2.2.1) a) (4 * z.2.2.1 + 1) b) (4 * z.2.2.1 + 2) c) (4 * z.2.2.1 + 3) d, S.2.2.2), ⟨⟨by repeat (first | with_reducible assumption | (rw [rl_u_s]; done) | (rw [rl_u_s]; rfl) | rw [rl_u_n (by first | with_reducible assumption | omega)]), gk, ⟨⟨cl, by repeat (first | with_reducible assumption | (rw [rl_u_s]; done) | (rw [rl_u_s]; rfl) | rw [rl_u_n (by first | with_reducible assumption | omega)])⟩, ⟨(upd tu 16 (nI 0)), by repeat (first | with_reducible assumption | (rw [rl_u_s]; done) | (rw [rl_u_s]; rfl) | rw [rl_u_n (by first | with_reducible assumption | omega)]), md_bd b13 ⟨0, by decide, rfl⟩⟩, ⟨im, by repeat (first | with_reducible assumption | (rw [rl_u_s]; done) | (rw [rl_u_s]; rfl) | rw [rl_u_n (by first | with_reducible assumption | omega)])⟩, ⟨te, by repeat (first | with_reducible assumption | (rw [rl_u_s]; done) | (rw [rl_u_s]; rfl) | rw [rl_u_n (by first | with_reducible assumption | omega)]), b15⟩, ⟨ne, by repeat (first | with_reducible assumption | (rw [rl_u_s]; done) | (rw [rl_u_s]; rfl) | rw [rl_u_n (by first | with_reducible assumption | omega)])⟩, ⟨la, by repeat (first | with_reducible assumption | (rw [rl_u_s]; done) | (rw [rl_u_s]; rfl) | rw [rl_u_n (by first | with_reducible assumption | omega)])⟩, ⟨hn, by repeat (first | with_reducible assumption | (rw [rl_u_s]; done) | (rw [rl_u_s]; rfl) | rw [rl_u_n (by first | with_reducible assumption | omega)])⟩, ⟨hl, by repeat (first | with_reducible assumption | (rw [rl_u_s]; done) | (rw [rl_u_s]; rfl) | rw [rl_u_n (by first | with_reducible assumption | omega)])⟩, ⟨tp, by repeat (first | with_reducible assumption | (rw [rl_u_s]; done) | (rw [rl_u_s]; rfl) | rw [rl_u_n (by first | with_reducible assumption | omega)])⟩, ⟨gr, by repeat (first | with_reducible assumption | (rw [rl_u_s]; done) | (rw [rl_u_s]; rfl) | rw [rl_u_n (by first | with_reducible assumption | omega)]), b21⟩, ⟨it, by repeat (first | with_reducible assumption | (rw [rl_u_s]; done) | (rw [rl_u_s]; rfl) | rw [rl_u_n (by first | with_reducible assumption | omega)])⟩⟩, fun _ _ _ => rfl⟩, ⟨by repeat (first | with_reducible assumption | (rw [rl_u_s]; done) | (rw [rl_u_s]; rfl) | rw [rl_u_n (by first | with_reducible assumption | omega)]), by repeat (first | with_reducible assumption | (rw [rl_u_s]; done) | (rw [rl_u_s]; rfl) | rw [rl_u_n (by first | with_reducible assumption | omega)]), by repeat (first | with_reducible assumption | (rw [rl_u_s]; done) | (rw [rl_u_s]; rfl) | rw [rl_u_n (by first | with_reducible assumption | omega)]), by repeat (first | with_reducible assumption | (rw [rl_u_s]; done) | (rw [rl_u_s]; rfl) | rw [rl_u_n (by first | with_reducible assumption | omega)]), by repeat (first | with_reducible assumption | (rw [rl_u_s]; done) | (rw [rl_u_s]; rfl) | rw [rl_u_n (by first | with_reducible assumption | omega)]), by repeat (first | with_reducible assumption | (rw [rl_u_s]; done) | (rw [rl_u_s]; rfl) | rw [rl_u_n (by first | with_reducible assumption | omega)]), by repeat (first | with_reducible assumption | (rw [rl_u_s]; done) | (rw [rl_u_s]; rfl) | rw [rl_u_n (by first | with_reducible assumption | omega)]), by repeat (first | with_reducible assumption | (rw [rl_u_s]; done) | (rw [rl_u_s]; rfl) | rw [rl_u_n (by first | with_reducible assumption | omega)]), by repeat (first | with_reducible assumption | (rw [rl_u_s]; done) | (rw [rl_u_s]; rfl) | rw [rl_u_n (by first | with_reducible assumption | omega)]), by repeat (first | with_reducible assumption | (rw [rl_u_s]; done) | (rw [rl_u_s]; rfl) | rw [rl_u_n (by first | with_reducible assumption | omega)]), by repeat (first | with_reducible assumption | (rw [rl_u_s]; done) | (rw [rl_u_s]; rfl) | rw [rl_u_n (by first | with_reducible assumption | omega)])⟩, ⟨hsc, hsc4⟩, hwf, ⟨rfl, (by show z.2.2.1 + 1 ≤ 36; omega)⟩, ⟨hnc, hn16⟩, hnw, rfl, hnv, hwv, ⟨wrc, hrc6, hrc⟩⟩, rfl, Or.inr ⟨rfl, rfl, (fun t9 e9 => by rw [mf_inj32b (e9.symm.trans g13)]; repeat (first | with_reducible assumption | (rw [rl_u_s]; done) | (rw [rl_u_s]; rfl) | rw [rl_u_n (by first | with_reducible assumption | omega)]))⟩, (fun q a b d => by repeat (first | rfl | rw [rl_u_n (by omega)]))⟩), (by rw [e]), fun q hq => by repeat (first | rfl | rw [rl_u_n (by omega)])⟩
      · refine o_bipush (v := (-4 : Int32)) hC dX8_row_28 (by decide +kernel) ?_
        refine o_iret hC hB dX8_row_30 (Nat.le_of_ble_eq_true rfl) (Nat.le_of_ble_eq_true rfl) ?_
        (have e : sh_row z q = (-4, z) := (if_neg (fun e => e.elim c_6 (fun e => absurd c_14 (by rw [hsc]; exact Int32.not_lt.mpr e)))).trans (if_pos (Nat.le_of_eq (nI_inj2 (by omega) (by decide) c_25).symm)); exact ⟨_, rfl, rfl, (by rw [e]; exact ⟨_, _, _, S, hu.dp hq0 rfl rfl rfl rfl ⟨wrc, hrc6, hrc⟩, rfl, Or.inl ⟨rfl, rfl, rl_u_n (by omega)⟩, fun q a b d => rl_u_n (by omega)⟩), (by rw [e]), hq0.fr⟩)
    · refine o_iconst (v := (-1 : Int32)) hC dX8_row_17 (by decide +kernel) ?_
      refine o_iret hC hB dX8_row_18 (Nat.le_of_ble_eq_true rfl) (Nat.le_of_ble_eq_true rfl) ?_
      first
      | (have e : sh_row z q = (-1, z) := if_pos (Or.inl c_6); exact ⟨_, rfl, rfl, (by rw [e]; exact ⟨_, _, _, S, hu.dp hq0 rfl rfl rfl rfl ⟨wrc, hrc6, hrc⟩, rfl, Or.inl ⟨rfl, rfl, rl_u_n (by omega)⟩, fun q a b d => rl_u_n (by omega)⟩), (by rw [e]), hq0.fr⟩)
      | (have e : sh_row z q = (-1, z) := if_pos (Or.inr (by rw [← hsc]; exact Int32.not_lt.mp c_14)); exact ⟨_, rfl, rfl, (by rw [e]; exact ⟨_, _, _, S, hu.dp hq0 rfl rfl rfl rfl ⟨wrc, hrc6, hrc⟩, rfl, Or.inl ⟨rfl, rfl, rl_u_n (by omega)⟩, fun q a b d => rl_u_n (by omega)⟩), (by rw [e]), hq0.fr⟩)

set_option maxHeartbeats 4000000 in
set_option maxRecDepth 100000 in
theorem cm_X8_clear (l : Launch) (D : va_G) (ids : Nat → ClassId) (H0 : Heap) (h : rl_H) (n : Nat) (m : Nat) (T : md_T) (fu : Int32) (k : Nat) (S : md_A) (z : sh_S)  (hu : md_un ids h m T fu k S z) : rl_Met l (rl_e D ids H0) rl_BW rl_Ns yX8_clear cX8_clear 1 none ({ frames := 0, cells := 0, slots := 0, locals := 0 }) [.ref m] h n (fun v h' n' => v = none ∧ n' = n ∧ mdx ids h' m T (sh_clear z) (fun S' => S' = S ∧ ∀ tu : Nat → Int32, h (m + 13) = some (.inl (ids 0, 17, .inl tu)) → h' (m + 13) = some (.inl (ids 0, 17, .inl (upd tu 16 (nI 0))))) (∀ q : Nat, m + 12 ≤ q → q < m + 23 → q ≠ m + 13 → h' q = h q) ∧ rl_fr h h' m (m + 23)) := by
  obtain ⟨hq, hs, ⟨hsc, hsc4⟩, hwf, ⟨hrr, hr36⟩, ⟨hnc, hn16⟩, hnw, hpr, hnv, hwv, wrc, hrc6, hrc⟩ := id hu
  have hq0 := hq.ob (nI 0, T.2) fu k hq.2.1
  have g0 := hq.1
  obtain ⟨-, gk, ⟨⟨cl, g12⟩, ⟨tu, g13, b13⟩, ⟨im, g14⟩, ⟨te, g15, b15⟩, ⟨ne, g16⟩, ⟨la, g17⟩, ⟨hn, g18⟩, ⟨hl, g19⟩, ⟨tp, g20⟩, ⟨gr, g21, b21⟩, ⟨it, g22⟩⟩, gf⟩ := id hq
  obtain ⟨a1, a2, a3, a4, a5, a6, a7, a8, a9, a10, a11⟩ := id hs
  refine rl_Met.of (by decide +kernel) (Nat.le_of_ble_eq_true rfl) ?_
  intro X hC hB
  show rl_G X (rl_e D ids H0) 0 [some (.ref m)] [] h n 0 0
  refine o_aload_n hC dX8_clear_0 (by rfl) ?_
  refine o_iconst (v := nI 0) hC dX8_clear_1 (by decide +kernel) ?_
  refine o_putf hC (fX8_78 hC rfl) (fwX8 rfl rfl rfl (Or.inl rfl)) dX8_clear_2 (by repeat (first | with_reducible assumption | (rw [rl_u_s]; done) | (rw [rl_u_s]; rfl) | rw [rl_u_n (by first | with_reducible assumption | omega)])) (Nat.le_of_ble_eq_true rfl) ?_
  try simp only [List.set_cons_zero, List.set_cons_succ]
  refine o_aload_n hC dX8_clear_5 (by rfl) ?_
  refine o_iconst (v := nI 0) hC dX8_clear_6 (by decide +kernel) ?_
  refine o_putf hC (fX8_109 hC rfl) (fwX8 rfl rfl rfl (Or.inl rfl)) dX8_clear_7 (by repeat (first | with_reducible assumption | (rw [rl_u_s]; done) | (rw [rl_u_s]; rfl) | rw [rl_u_n (by first | with_reducible assumption | omega)])) (Nat.le_of_ble_eq_true rfl) ?_
  try simp only [List.set_cons_zero, List.set_cons_succ]
  refine o_aload_n hC dX8_clear_10 (by rfl) ?_
  refine o_iconst (v := nI 0) hC dX8_clear_11 (by decide +kernel) ?_
  refine o_putf hC (fX8_112 hC rfl) (fwX8 rfl rfl rfl (Or.inl rfl)) dX8_clear_12 (by repeat (first | with_reducible assumption | (rw [rl_u_s]; done) | (rw [rl_u_s]; rfl) | rw [rl_u_n (by first | with_reducible assumption | omega)])) (Nat.le_of_ble_eq_true rfl) ?_
  try simp only [List.set_cons_zero, List.set_cons_succ]
  refine o_aload_n hC dX8_clear_15 (by rfl) ?_
  refine o_iconst (v := nI 0) hC dX8_clear_16 (by decide +kernel) ?_
  refine o_putf hC (fX8_119 hC rfl) (fwX8 rfl rfl rfl (Or.inl rfl)) dX8_clear_17 (by repeat (first | with_reducible assumption | (rw [rl_u_s]; done) | (rw [rl_u_s]; rfl) | rw [rl_u_n (by first | with_reducible assumption | omega)])) (Nat.le_of_ble_eq_true rfl) ?_
  try simp only [List.set_cons_zero, List.set_cons_succ]
  refine o_aload_n hC dX8_clear_20 (by rfl) ?_
  refine o_lconst (v := 0) hC dX8_clear_21 (by decide +kernel) ?_
  refine o_putf hC (fX8_115 hC rfl) (fwX8 rfl rfl rfl (Or.inl rfl)) dX8_clear_22 (by repeat (first | with_reducible assumption | (rw [rl_u_s]; done) | (rw [rl_u_s]; rfl) | rw [rl_u_n (by first | with_reducible assumption | omega)])) (Nat.le_of_ble_eq_true rfl) ?_
  try simp only [List.set_cons_zero, List.set_cons_succ]
  refine o_aload_n hC dX8_clear_25 (by rfl) ?_
  refine o_getf hC (fX8_46 hC rfl) dX8_clear_26 (by repeat (first | with_reducible assumption | (rw [rl_u_s]; done) | (rw [rl_u_s]; rfl) | rw [rl_u_n (by first | with_reducible assumption | omega)])) (by first | rfl | with_reducible assumption) ?_
  refine o_bipush (v := nI 16) hC dX8_clear_29 (by decide +kernel) ?_
  refine o_iconst (v := nI 0) hC dX8_clear_31 (by decide +kernel) ?_
  refine o_iastN (t0 := 0) hC rfl dX8_clear_32 (by repeat (first | with_reducible assumption | (rw [rl_u_s]; done) | (rw [rl_u_s]; rfl) | rw [rl_u_n (by first | with_reducible assumption | omega)])) (by omega) (by decide) ?_
  refine o_vret hC hB dX8_clear_33 (Nat.le_of_ble_eq_true rfl) (Nat.le_of_ble_eq_true rfl) ?_
  exact ⟨rfl, rfl, ⟨(nI 0, nI 0, nI 0, 0, nI 0, T.2.2.2.2.2), fu, k, S, ⟨⟨by repeat (first | with_reducible assumption | (rw [rl_u_s]; done) | (rw [rl_u_s]; rfl) | rw [rl_u_n (by first | with_reducible assumption | omega)]), gk, ⟨⟨cl, by repeat (first | with_reducible assumption | (rw [rl_u_s]; done) | (rw [rl_u_s]; rfl) | rw [rl_u_n (by first | with_reducible assumption | omega)])⟩, ⟨(upd tu 16 (nI 0)), by repeat (first | with_reducible assumption | (rw [rl_u_s]; done) | (rw [rl_u_s]; rfl) | rw [rl_u_n (by first | with_reducible assumption | omega)]), md_bd b13 ⟨0, by decide, rfl⟩⟩, ⟨im, by repeat (first | with_reducible assumption | (rw [rl_u_s]; done) | (rw [rl_u_s]; rfl) | rw [rl_u_n (by first | with_reducible assumption | omega)])⟩, ⟨te, by repeat (first | with_reducible assumption | (rw [rl_u_s]; done) | (rw [rl_u_s]; rfl) | rw [rl_u_n (by first | with_reducible assumption | omega)]), b15⟩, ⟨ne, by repeat (first | with_reducible assumption | (rw [rl_u_s]; done) | (rw [rl_u_s]; rfl) | rw [rl_u_n (by first | with_reducible assumption | omega)])⟩, ⟨la, by repeat (first | with_reducible assumption | (rw [rl_u_s]; done) | (rw [rl_u_s]; rfl) | rw [rl_u_n (by first | with_reducible assumption | omega)])⟩, ⟨hn, by repeat (first | with_reducible assumption | (rw [rl_u_s]; done) | (rw [rl_u_s]; rfl) | rw [rl_u_n (by first | with_reducible assumption | omega)])⟩, ⟨hl, by repeat (first | with_reducible assumption | (rw [rl_u_s]; done) | (rw [rl_u_s]; rfl) | rw [rl_u_n (by first | with_reducible assumption | omega)])⟩, ⟨tp, by repeat (first | with_reducible assumption | (rw [rl_u_s]; done) | (rw [rl_u_s]; rfl) | rw [rl_u_n (by first | with_reducible assumption | omega)])⟩, ⟨gr, by repeat (first | with_reducible assumption | (rw [rl_u_s]; done) | (rw [rl_u_s]; rfl) | rw [rl_u_n (by first | with_reducible assumption | omega)]), b21⟩, ⟨it, by repeat (first | with_reducible assumption | (rw [rl_u_s]; done) | (rw [rl_u_s]; rfl) | rw [rl_u_n (by first | with_reducible assumption | omega)])⟩⟩, fun _ _ _ => rfl⟩, ⟨by repeat (first | with_reducible assumption | (rw [rl_u_s]; done) | (rw [rl_u_s]; rfl) | rw [rl_u_n (by first | with_reducible assumption | omega)]), by repeat (first | with_reducible assumption | (rw [rl_u_s]; done) | (rw [rl_u_s]; rfl) | rw [rl_u_n (by first | with_reducible assumption | omega)]), by repeat (first | with_reducible assumption | (rw [rl_u_s]; done) | (rw [rl_u_s]; rfl) | rw [rl_u_n (by first | with_reducible assumption | omega)]), by repeat (first | with_reducible assumption | (rw [rl_u_s]; done) | (rw [rl_u_s]; rfl) | rw [rl_u_n (by first | with_reducible assumption | omega)]), by repeat (first | with_reducible assumption | (rw [rl_u_s]; done) | (rw [rl_u_s]; rfl) | rw [rl_u_n (by first | with_reducible assumption | omega)]), by repeat (first | with_reducible assumption | (rw [rl_u_s]; done) | (rw [rl_u_s]; rfl) | rw [rl_u_n (by first | with_reducible assumption | omega)]), by repeat (first | with_reducible assumption | (rw [rl_u_s]; done) | (rw [rl_u_s]; rfl) | rw [rl_u_n (by first | with_reducible assumption | omega)]), by repeat (first | with_reducible assumption | (rw [rl_u_s]; done) | (rw [rl_u_s]; rfl) | rw [rl_u_n (by first | with_reducible assumption | omega)]), by repeat (first | with_reducible assumption | (rw [rl_u_s]; done) | (rw [rl_u_s]; rfl) | rw [rl_u_n (by first | with_reducible assumption | omega)]), by repeat (first | with_reducible assumption | (rw [rl_u_s]; done) | (rw [rl_u_s]; rfl) | rw [rl_u_n (by first | with_reducible assumption | omega)]), by repeat (first | with_reducible assumption | (rw [rl_u_s]; done) | (rw [rl_u_s]; rfl) | rw [rl_u_n (by first | with_reducible assumption | omega)])⟩, ⟨rfl, Nat.zero_le _⟩, hwf, ⟨rfl, Nat.zero_le _⟩, ⟨rfl, Nat.zero_le _⟩, hnw, rfl, fun a ha => absurd ha (Nat.not_lt_zero a), fun i hi => absurd hi (Nat.not_lt_zero i), ⟨wrc, hrc6, hrc⟩⟩, rfl, ⟨rfl, (fun t9 e9 => by rw [mf_inj32b (e9.symm.trans g13)]; repeat (first | with_reducible assumption | (rw [rl_u_s]; done) | (rw [rl_u_s]; rfl) | rw [rl_u_n (by first | with_reducible assumption | omega)]))⟩, (fun q a b d => by repeat (first | rfl | rw [rl_u_n (by omega)]))⟩, fun q hq => by repeat (first | rfl | rw [rl_u_n (by omega)])⟩
end
section
/-! THE MODEL: what makes nodes -/
theorem md_nv.new {S : md_A} {k op w : Nat} {fi se x y u v : Int32} (h1 : op ≤ 6) (h2 : 1 ≤ w) (h3 : w ≤ 6) (h6 : 1 ≤ op → ∃ b wb : Nat, b < k ∧ wb ≤ 6 ∧ fi = nI b ∧ S.2.2.2.2.2.2.2.2.2.2 b = nI wb ∧ (op = 3 ∨ op = 4 ∨ op = 5 → ∃ d wd : Nat, d < k ∧ wd ≤ 6 ∧ se = nI d ∧ S.2.2.2.2.2.2.2.2.2.2 d = nI wd ∧ (op = 3 → wb + wd ≤ 6))) (h7 : op = 1 ∨ op = 3 ∨ op = 6 → ∃ ca : Nat, ca < 6 ∧ x = nI ca) (h8 : op = 1 → u = -1 ∨ ∃ cc : Nat, cc < 6 ∧ u = nI cc) (h9 : op = 2 → ∃ N : Nat, N < 10 ^ 6 ∧ x = nI N ∧ ∀ c : Nat, N / 10 ^ c ≠ 0 → 1 ≤ N / 10 ^ c % 10 ∧ N / 10 ^ c % 10 ≤ 6) (h10 : op = 3 ∨ op = 6 → ∃ cb : Nat, cb < 6 ∧ y = nI cb) : md_nv (S.1, S.2.1, S.2.2.1, upd S.2.2.2.1 k (nI op), upd S.2.2.2.2.1 k fi, upd S.2.2.2.2.2.1 k se, upd S.2.2.2.2.2.2.1 k x, upd S.2.2.2.2.2.2.2.1 k y, upd S.2.2.2.2.2.2.2.2.1 k u, upd S.2.2.2.2.2.2.2.2.2.1 k v, upd S.2.2.2.2.2.2.2.2.2.2 k (nI w)) k := by
  refine ⟨op, w, h1, h2, h3, upd_at, upd_at, fun q => ?_, fun q => ?_, fun q => ?_, fun q => ?_, fun q => ?_⟩
  · obtain ⟨b, wb, i1, i2, i3, i4, i5⟩ := h6 q
    refine ⟨b, wb, i1, i2, upd_at.trans i3, (upd_lt i1).trans i4, fun q2 => ?_⟩
    obtain ⟨d, wd, j1, j2, j3, j4, j5⟩ := i5 q2
    exact ⟨d, wd, j1, j2, upd_at.trans j3, (upd_lt j1).trans j4, j5⟩
  · obtain ⟨c, i1, i2⟩ := h7 q
    exact ⟨c, i1, upd_at.trans i2⟩
  · rcases h8 q with i | ⟨c, i1, i2⟩
    · exact Or.inl (upd_at.trans i)
    · exact Or.inr ⟨c, i1, upd_at.trans i2⟩
  · obtain ⟨N, i1, i2, i3⟩ := h9 q
    exact ⟨N, i1, upd_at.trans i2, i3⟩
  · obtain ⟨c, i1, i2⟩ := h10 q
    exact ⟨c, i1, upd_at.trans i2⟩
theorem md_nkz {z : sh_S} {j : Nat} {k r w : Int32} (hn : ¬ sh_nn z (nI j)) (hw : sh_w z (nI j) = w) (hz : (r = nI 0 ∧ (k < 0 ∨ w ≤ k)) ∨ (r = nI 1 ∧ ¬ (k < 0 ∨ w ≤ k))) : (r = nI 0 ∧ sh_nk z (nI j) k) ∨ (r = nI 1 ∧ ¬ sh_nk z (nI j) k) := by
  subst hw
  exact hz.imp (fun a => ⟨a.1, Or.inr a.2⟩) (fun a => ⟨a.1, fun e => e.elim hn a.2⟩)
theorem md_co {z : sh_S} {j w : Nat} {k : Int32} (hw : sh_w z (nI j) = nI w) (hw6 : w ≤ 6) (hz : ¬ sh_nk z (nI j) k) : ∃ c : Nat, c < 6 ∧ k = nI c := by
  obtain ⟨c, h1, h2⟩ := nI_of_lt (k := w) (by omega) (fun e => hz (Or.inr (Or.inl e))) (fun e => hz (Or.inr (Or.inr (by rw [hw]; exact e))))
  exact ⟨c, by omega, h2⟩
theorem md_un.nd {ids : Nat → ClassId} {h : rl_H} {m : Nat} {T : md_T} {fu : Int32} {k : Nat} {S : md_A} {z : sh_S} (H : md_un ids h m T fu k S z) {q : Int32} (hn : ¬ sh_nn z q) : ∃ j w : Nat, j < z.2.2.2.1 ∧ j < 16 ∧ q = nI j ∧ 1 ≤ w ∧ w ≤ 6 ∧ S.2.2.2.2.2.2.2.2.2.2 j = nI w ∧ sh_w z (nI j) = nI w := by
  obtain ⟨-, -, -, -, -, ⟨hnc, hn16⟩, hnw, -, hnv, -, -⟩ := H
  obtain ⟨j, hj, e⟩ := nI_of_lt (k := z.2.2.2.1) (by omega) (fun e => hn (Or.inl e)) (fun e => hn (Or.inr e))
  obtain ⟨op, w, -, h2, h3, -, h5, -⟩ := hnv j hj
  refine ⟨j, w, hj, by omega, e, h2, h3, h5, ?_⟩
  unfold sh_w
  rw [rl_cl (N := 16) (by omega) (by decide), ← hnw]
  exact h5

set_option maxHeartbeats 4000000 in
set_option maxRecDepth 100000 in
theorem cm_X8_isNode (l : Launch) (D : va_G) (ids : Nat → ClassId) (H0 : Heap) (h : rl_H) (n : Nat) (m : Nat) (T : md_T) (fu : Int32) (k : Nat) (S : md_A) (z : sh_S) (q : Int32) (hu : md_un ids h m T fu k S z) : rl_Met l (rl_e D ids H0) rl_BW rl_Ns yX8_isNode cX8_isNode 2 (some .boolean) ({ frames := 0, cells := 0, slots := 0, locals := 0 }) [.ref m, .int q] h n (fun v h' n' => ∃ r : Int32, v = some (.int r) ∧ h' = h ∧ n' = n ∧ ((r = nI 0 ∧ sh_nn z q) ∨ (r = nI 1 ∧ ¬ sh_nn z q))) := by
  obtain ⟨hq, hs, ⟨hsc, hsc4⟩, hwf, ⟨hrr, hr36⟩, ⟨hnc, hn16⟩, hnw, hpr, hnv, hwv, wrc, hrc6, hrc⟩ := id hu
  have g0 := hq.1
  refine rl_Met.of (by decide +kernel) (Nat.le_of_ble_eq_true rfl) ?_
  intro X hC hB
  show rl_G X (rl_e D ids H0) 0 [some (.ref m), some (.int q)] [] h n 0 0
  refine o_iload_n hC dX8_isNode_0 (by rfl) ?_
  refine o_if_lt (tgt := 16) hC dX8_isNode_1 (by decide) (fun c_1 => ?_) (fun c_1 => ?_)
  · refine o_iconst (v := nI 0) hC dX8_isNode_16 (by decide +kernel) ?_
    refine o_zret hC hB dX8_isNode_17 (by first | rfl | decide +kernel) (Nat.le_of_ble_eq_true rfl) (Nat.le_of_ble_eq_true rfl) ?_
    first
    | exact ⟨_, rfl, rfl, rfl, Or.inl ⟨rfl, Or.inl c_1⟩⟩
    | exact ⟨_, rfl, rfl, rfl, Or.inl ⟨rfl, Or.inr c_9⟩⟩
    | exact ⟨_, rfl, rfl, rfl, Or.inr ⟨rfl, fun e => e.elim c_1 c_9⟩⟩
  · refine o_iload_n hC dX8_isNode_4 (by rfl) ?_
    refine o_aload_n hC dX8_isNode_5 (by rfl) ?_
    refine o_getf (v := .int (nI z.2.2.2.1)) hC (fX8_119 hC rfl) dX8_isNode_6 (by repeat (first | with_reducible assumption | (rw [rl_u_s]; done) | (rw [rl_u_s]; rfl) | rw [rl_u_n (by first | with_reducible assumption | omega)])) (by rw [← hnc]; rfl) ?_
    refine o_icmp_ge (tgt := 16) hC dX8_isNode_9 (by decide) (fun c_9 => ?_) (fun c_9 => ?_)
    · refine o_iconst (v := nI 0) hC dX8_isNode_16 (by decide +kernel) ?_
      refine o_zret hC hB dX8_isNode_17 (by first | rfl | decide +kernel) (Nat.le_of_ble_eq_true rfl) (Nat.le_of_ble_eq_true rfl) ?_
      first
      | exact ⟨_, rfl, rfl, rfl, Or.inl ⟨rfl, Or.inl c_1⟩⟩
      | exact ⟨_, rfl, rfl, rfl, Or.inl ⟨rfl, Or.inr c_9⟩⟩
      | exact ⟨_, rfl, rfl, rfl, Or.inr ⟨rfl, fun e => e.elim c_1 c_9⟩⟩
    · refine o_iconst (v := nI 1) hC dX8_isNode_12 (by decide +kernel) ?_
      refine o_goto (tgt := 17) hC dX8_isNode_13 (by decide) ?_
      refine o_zret hC hB dX8_isNode_17 (by first | rfl | decide +kernel) (Nat.le_of_ble_eq_true rfl) (Nat.le_of_ble_eq_true rfl) ?_
      first
      | exact ⟨_, rfl, rfl, rfl, Or.inl ⟨rfl, Or.inl c_1⟩⟩
      | exact ⟨_, rfl, rfl, rfl, Or.inl ⟨rfl, Or.inr c_9⟩⟩
      | exact ⟨_, rfl, rfl, rfl, Or.inr ⟨rfl, fun e => e.elim c_1 c_9⟩⟩

set_option maxHeartbeats 4000000 in
set_option maxRecDepth 100000 in
theorem cm_X8_isColumn (l : Launch) (D : va_G) (ids : Nat → ClassId) (H0 : Heap) (h : rl_H) (n : Nat) (m : Nat) (T : md_T) (fu : Int32) (k : Nat) (S : md_A) (z : sh_S) (j : Nat) (c : Int32) (hu : md_un ids h m T fu k S z) (hj : j < 16) : rl_Met l (rl_e D ids H0) rl_BW rl_Ns yX8_isColumn cX8_isColumn 3 (some .boolean) ({ frames := 0, cells := 0, slots := 0, locals := 0 }) [.ref m, .int (nI j), .int c] h n (fun v h' n' => ∃ r : Int32, v = some (.int r) ∧ h' = h ∧ n' = n ∧ ((r = nI 0 ∧ (c < 0 ∨ S.2.2.2.2.2.2.2.2.2.2 j ≤ c)) ∨ (r = nI 1 ∧ ¬ (c < 0 ∨ S.2.2.2.2.2.2.2.2.2.2 j ≤ c)))) := by
  obtain ⟨hq, hs, ⟨hsc, hsc4⟩, hwf, ⟨hrr, hr36⟩, ⟨hnc, hn16⟩, hnw, hpr, hnv, hwv, wrc, hrc6, hrc⟩ := id hu
  have g0 := hq.1
  obtain ⟨a1, a2, a3, a4, a5, a6, a7, a8, a9, a10, a11⟩ := id hs
  refine rl_Met.of (by decide +kernel) (Nat.le_of_ble_eq_true rfl) ?_
  intro X hC hB
  show rl_G X (rl_e D ids H0) 0 [some (.ref m), some (.int (nI j)), some (.int c)] [] h n 0 0
  refine o_iload_n hC dX8_isColumn_0 (by rfl) ?_
  refine o_if_lt (tgt := 18) hC dX8_isColumn_1 (by decide) (fun c_1 => ?_) (fun c_1 => ?_)
  · refine o_iconst (v := nI 0) hC dX8_isColumn_18 (by decide +kernel) ?_
    refine o_zret hC hB dX8_isColumn_19 (by first | rfl | decide +kernel) (Nat.le_of_ble_eq_true rfl) (Nat.le_of_ble_eq_true rfl) ?_
    first
    | exact ⟨_, rfl, rfl, rfl, Or.inl ⟨rfl, Or.inl c_1⟩⟩
    | exact ⟨_, rfl, rfl, rfl, Or.inl ⟨rfl, Or.inr c_11⟩⟩
    | exact ⟨_, rfl, rfl, rfl, Or.inr ⟨rfl, fun e => e.elim c_1 c_11⟩⟩
  · refine o_iload_n hC dX8_isColumn_4 (by rfl) ?_
    refine o_aload_n hC dX8_isColumn_5 (by rfl) ?_
    refine o_getf hC (fX8_40 hC rfl) dX8_isColumn_6 (by repeat (first | with_reducible assumption | (rw [rl_u_s]; done) | (rw [rl_u_s]; rfl) | rw [rl_u_n (by first | with_reducible assumption | omega)])) (by first | rfl | with_reducible assumption) ?_
    refine o_iload_n hC dX8_isColumn_9 (by rfl) ?_
    refine o_ialdN (t0 := 0) hC rfl dX8_isColumn_10 (by repeat (first | with_reducible assumption | (rw [rl_u_s]; done) | (rw [rl_u_s]; rfl) | rw [rl_u_n (by first | with_reducible assumption | omega)])) (by omega) (by decide) ?_
    refine o_icmp_ge (tgt := 18) hC dX8_isColumn_11 (by decide) (fun c_11 => ?_) (fun c_11 => ?_)
    · refine o_iconst (v := nI 0) hC dX8_isColumn_18 (by decide +kernel) ?_
      refine o_zret hC hB dX8_isColumn_19 (by first | rfl | decide +kernel) (Nat.le_of_ble_eq_true rfl) (Nat.le_of_ble_eq_true rfl) ?_
      first
      | exact ⟨_, rfl, rfl, rfl, Or.inl ⟨rfl, Or.inl c_1⟩⟩
      | exact ⟨_, rfl, rfl, rfl, Or.inl ⟨rfl, Or.inr c_11⟩⟩
      | exact ⟨_, rfl, rfl, rfl, Or.inr ⟨rfl, fun e => e.elim c_1 c_11⟩⟩
    · refine o_iconst (v := nI 1) hC dX8_isColumn_14 (by decide +kernel) ?_
      refine o_goto (tgt := 19) hC dX8_isColumn_15 (by decide) ?_
      refine o_zret hC hB dX8_isColumn_19 (by first | rfl | decide +kernel) (Nat.le_of_ble_eq_true rfl) (Nat.le_of_ble_eq_true rfl) ?_
      first
      | exact ⟨_, rfl, rfl, rfl, Or.inl ⟨rfl, Or.inl c_1⟩⟩
      | exact ⟨_, rfl, rfl, rfl, Or.inl ⟨rfl, Or.inr c_11⟩⟩
      | exact ⟨_, rfl, rfl, rfl, Or.inr ⟨rfl, fun e => e.elim c_1 c_11⟩⟩

set_option maxHeartbeats 4000000 in
set_option maxRecDepth 100000 in
theorem cm_X8_node (l : Launch) (D : va_G) (ids : Nat → ClassId) (H0 : Heap) (h : rl_H) (n : Nat) (m : Nat) (T : md_T) (fu : Int32) (k : Nat) (S : md_A) (z : sh_S) (op fi se x y u vv w : Int32) (hu : md_un ids h m T fu k S z) (hv : z.2.2.2.1 < 16 → md_nv (S.1, S.2.1, S.2.2.1, upd S.2.2.2.1 z.2.2.2.1 op, upd S.2.2.2.2.1 z.2.2.2.1 fi, upd S.2.2.2.2.2.1 z.2.2.2.1 se, upd S.2.2.2.2.2.2.1 z.2.2.2.1 x, upd S.2.2.2.2.2.2.2.1 z.2.2.2.1 y, upd S.2.2.2.2.2.2.2.2.1 z.2.2.2.1 u, upd S.2.2.2.2.2.2.2.2.2.1 z.2.2.2.1 vv, upd S.2.2.2.2.2.2.2.2.2.2 z.2.2.2.1 w) z.2.2.2.1) : rl_Met l (rl_e D ids H0) rl_BW rl_Ns yX8_node cX8_node 9 (some .int) ({ frames := 0, cells := 0, slots := 0, locals := 0 }) [.ref m, .int op, .int fi, .int se, .int x, .int y, .int u, .int vv, .int w] h n (fun v h' n' => ∃ r : Int32, v = some (.int r) ∧ n' = n ∧ mdx ids h' m T (sh_node z w).2 (fun S' => (S' = S ∧ (sh_node z w).2 = z) ∨ ∃ w9 : Int32, S' = (S.1, S.2.1, S.2.2.1, upd S.2.2.2.1 z.2.2.2.1 op, upd S.2.2.2.2.1 z.2.2.2.1 fi, upd S.2.2.2.2.2.1 z.2.2.2.1 se, upd S.2.2.2.2.2.2.1 z.2.2.2.1 x, upd S.2.2.2.2.2.2.2.1 z.2.2.2.1 y, upd S.2.2.2.2.2.2.2.2.1 z.2.2.2.1 u, upd S.2.2.2.2.2.2.2.2.2.1 z.2.2.2.1 vv, upd S.2.2.2.2.2.2.2.2.2.2 z.2.2.2.1 w9) ∧ (sh_node z w).2.2.2.2.1 = z.2.2.2.1 + 1) (∀ q : Nat, m + 12 ≤ q → q < m + 23 → h' q = h q) ∧ r = (sh_node z w).1 ∧ rl_fr h h' m (m + 23)) := by
  obtain ⟨hq, hs, ⟨hsc, hsc4⟩, hwf, ⟨hrr, hr36⟩, ⟨hnc, hn16⟩, hnw, hpr, hnv, hwv, wrc, hrc6, hrc⟩ := id hu
  have g0 := hq.1
  obtain ⟨-, gk, ⟨⟨cl, g12⟩, ⟨tu, g13, b13⟩, ⟨im, g14⟩, ⟨te, g15, b15⟩, ⟨ne, g16⟩, ⟨la, g17⟩, ⟨hn, g18⟩, ⟨hl, g19⟩, ⟨tp, g20⟩, ⟨gr, g21, b21⟩, ⟨it, g22⟩⟩, gf⟩ := id hq
  obtain ⟨a1, a2, a3, a4, a5, a6, a7, a8, a9, a10, a11⟩ := id hs
  refine rl_Met.of (by decide +kernel) (Nat.le_of_ble_eq_true rfl) ?_
  intro X hC hB
  show rl_G X (rl_e D ids H0) 0 [some (.ref m), some (.int op), some (.int fi), some (.int se), some (.int x), some (.int y), some (.int u), some (.int vv), some (.int w)] [] h n 0 0
  refine o_aload_n hC dX8_node_0 (by rfl) ?_
  refine o_getf (v := .int (nI z.2.2.2.1)) hC (fX8_119 hC rfl) dX8_node_1 (by repeat (first | with_reducible assumption | (rw [rl_u_s]; done) | (rw [rl_u_s]; rfl) | rw [rl_u_n (by first | with_reducible assumption | omega)])) (by rw [← hnc]; rfl) ?_
  refine o_bipush (v := nI 16) hC dX8_node_4 (by decide +kernel) ?_
  refine o_icmp_ne (tgt := 12) hC dX8_node_6 (by decide) (fun c_6 => ?_) (fun c_6 => ?_)
  · have n16b : z.2.2.2.1 ≠ 16 := nI_eq_of c_6
    refine o_aload_n hC dX8_node_12 (by rfl) ?_
    refine o_getf hC (fX8_19 hC rfl) dX8_node_13 (by repeat (first | with_reducible assumption | (rw [rl_u_s]; done) | (rw [rl_u_s]; rfl) | rw [rl_u_n (by first | with_reducible assumption | omega)])) (by first | rfl | with_reducible assumption) ?_
    refine o_aload_n hC dX8_node_16 (by rfl) ?_
    refine o_getf (v := .int (nI z.2.2.2.1)) hC (fX8_119 hC rfl) dX8_node_17 (by repeat (first | with_reducible assumption | (rw [rl_u_s]; done) | (rw [rl_u_s]; rfl) | rw [rl_u_n (by first | with_reducible assumption | omega)])) (by rw [← hnc]; rfl) ?_
    refine o_iload_n hC dX8_node_20 (by rfl) ?_
    refine o_iastN (t0 := 0) hC rfl dX8_node_21 (by repeat (first | with_reducible assumption | (rw [rl_u_s]; done) | (rw [rl_u_s]; rfl) | rw [rl_u_n (by first | with_reducible assumption | omega)])) (by omega) (by decide) ?_
    refine o_aload_n hC dX8_node_22 (by rfl) ?_
    refine o_getf hC (fX8_22 hC rfl) dX8_node_23 (by repeat (first | with_reducible assumption | (rw [rl_u_s]; done) | (rw [rl_u_s]; rfl) | rw [rl_u_n (by first | with_reducible assumption | omega)])) (by first | rfl | with_reducible assumption) ?_
    refine o_aload_n hC dX8_node_26 (by rfl) ?_
    refine o_getf (v := .int (nI z.2.2.2.1)) hC (fX8_119 hC rfl) dX8_node_27 (by repeat (first | with_reducible assumption | (rw [rl_u_s]; done) | (rw [rl_u_s]; rfl) | rw [rl_u_n (by first | with_reducible assumption | omega)])) (by rw [← hnc]; rfl) ?_
    refine o_iload_n hC dX8_node_30 (by rfl) ?_
    refine o_iastN (t0 := 0) hC rfl dX8_node_31 (by repeat (first | with_reducible assumption | (rw [rl_u_s]; done) | (rw [rl_u_s]; rfl) | rw [rl_u_n (by first | with_reducible assumption | omega)])) (by omega) (by decide) ?_
    refine o_aload_n hC dX8_node_32 (by rfl) ?_
    refine o_getf hC (fX8_25 hC rfl) dX8_node_33 (by repeat (first | with_reducible assumption | (rw [rl_u_s]; done) | (rw [rl_u_s]; rfl) | rw [rl_u_n (by first | with_reducible assumption | omega)])) (by first | rfl | with_reducible assumption) ?_
    refine o_aload_n hC dX8_node_36 (by rfl) ?_
    refine o_getf (v := .int (nI z.2.2.2.1)) hC (fX8_119 hC rfl) dX8_node_37 (by repeat (first | with_reducible assumption | (rw [rl_u_s]; done) | (rw [rl_u_s]; rfl) | rw [rl_u_n (by first | with_reducible assumption | omega)])) (by rw [← hnc]; rfl) ?_
    refine o_iload_n hC dX8_node_40 (by rfl) ?_
    refine o_iastN (t0 := 0) hC rfl dX8_node_41 (by repeat (first | with_reducible assumption | (rw [rl_u_s]; done) | (rw [rl_u_s]; rfl) | rw [rl_u_n (by first | with_reducible assumption | omega)])) (by omega) (by decide) ?_
    refine o_aload_n hC dX8_node_42 (by rfl) ?_
    refine o_getf hC (fX8_28 hC rfl) dX8_node_43 (by repeat (first | with_reducible assumption | (rw [rl_u_s]; done) | (rw [rl_u_s]; rfl) | rw [rl_u_n (by first | with_reducible assumption | omega)])) (by first | rfl | with_reducible assumption) ?_
    refine o_aload_n hC dX8_node_46 (by rfl) ?_
    refine o_getf (v := .int (nI z.2.2.2.1)) hC (fX8_119 hC rfl) dX8_node_47 (by repeat (first | with_reducible assumption | (rw [rl_u_s]; done) | (rw [rl_u_s]; rfl) | rw [rl_u_n (by first | with_reducible assumption | omega)])) (by rw [← hnc]; rfl) ?_
    refine o_iload hC dX8_node_50 (by rfl) ?_
    refine o_iastN (t0 := 0) hC rfl dX8_node_52 (by repeat (first | with_reducible assumption | (rw [rl_u_s]; done) | (rw [rl_u_s]; rfl) | rw [rl_u_n (by first | with_reducible assumption | omega)])) (by omega) (by decide) ?_
    refine o_aload_n hC dX8_node_53 (by rfl) ?_
    refine o_getf hC (fX8_31 hC rfl) dX8_node_54 (by repeat (first | with_reducible assumption | (rw [rl_u_s]; done) | (rw [rl_u_s]; rfl) | rw [rl_u_n (by first | with_reducible assumption | omega)])) (by first | rfl | with_reducible assumption) ?_
    refine o_aload_n hC dX8_node_57 (by rfl) ?_
    refine o_getf (v := .int (nI z.2.2.2.1)) hC (fX8_119 hC rfl) dX8_node_58 (by repeat (first | with_reducible assumption | (rw [rl_u_s]; done) | (rw [rl_u_s]; rfl) | rw [rl_u_n (by first | with_reducible assumption | omega)])) (by rw [← hnc]; rfl) ?_
    refine o_iload hC dX8_node_61 (by rfl) ?_
    refine o_iastN (t0 := 0) hC rfl dX8_node_63 (by repeat (first | with_reducible assumption | (rw [rl_u_s]; done) | (rw [rl_u_s]; rfl) | rw [rl_u_n (by first | with_reducible assumption | omega)])) (by omega) (by decide) ?_
    refine o_aload_n hC dX8_node_64 (by rfl) ?_
    refine o_getf hC (fX8_34 hC rfl) dX8_node_65 (by repeat (first | with_reducible assumption | (rw [rl_u_s]; done) | (rw [rl_u_s]; rfl) | rw [rl_u_n (by first | with_reducible assumption | omega)])) (by first | rfl | with_reducible assumption) ?_
    refine o_aload_n hC dX8_node_68 (by rfl) ?_
    refine o_getf (v := .int (nI z.2.2.2.1)) hC (fX8_119 hC rfl) dX8_node_69 (by repeat (first | with_reducible assumption | (rw [rl_u_s]; done) | (rw [rl_u_s]; rfl) | rw [rl_u_n (by first | with_reducible assumption | omega)])) (by rw [← hnc]; rfl) ?_
    refine o_iload hC dX8_node_72 (by rfl) ?_
    refine o_iastN (t0 := 0) hC rfl dX8_node_74 (by repeat (first | with_reducible assumption | (rw [rl_u_s]; done) | (rw [rl_u_s]; rfl) | rw [rl_u_n (by first | with_reducible assumption | omega)])) (by omega) (by decide) ?_
    refine o_aload_n hC dX8_node_75 (by rfl) ?_
    refine o_getf hC (fX8_37 hC rfl) dX8_node_76 (by repeat (first | with_reducible assumption | (rw [rl_u_s]; done) | (rw [rl_u_s]; rfl) | rw [rl_u_n (by first | with_reducible assumption | omega)])) (by first | rfl | with_reducible assumption) ?_
    refine o_aload_n hC dX8_node_79 (by rfl) ?_
    refine o_getf (v := .int (nI z.2.2.2.1)) hC (fX8_119 hC rfl) dX8_node_80 (by repeat (first | with_reducible assumption | (rw [rl_u_s]; done) | (rw [rl_u_s]; rfl) | rw [rl_u_n (by first | with_reducible assumption | omega)])) (by rw [← hnc]; rfl) ?_
    refine o_iload hC dX8_node_83 (by rfl) ?_
    refine o_iastN (t0 := 0) hC rfl dX8_node_85 (by repeat (first | with_reducible assumption | (rw [rl_u_s]; done) | (rw [rl_u_s]; rfl) | rw [rl_u_n (by first | with_reducible assumption | omega)])) (by omega) (by decide) ?_
    refine o_aload_n hC dX8_node_86 (by rfl) ?_
    refine o_getf hC (fX8_40 hC rfl) dX8_node_87 (by repeat (first | with_reducible assumption | (rw [rl_u_s]; done) | (rw [rl_u_s]; rfl) | rw [rl_u_n (by first | with_reducible assumption | omega)])) (by first | rfl | with_reducible assumption) ?_
    refine o_aload_n hC dX8_node_90 (by rfl) ?_
    refine o_getf (v := .int (nI z.2.2.2.1)) hC (fX8_119 hC rfl) dX8_node_91 (by repeat (first | with_reducible assumption | (rw [rl_u_s]; done) | (rw [rl_u_s]; rfl) | rw [rl_u_n (by first | with_reducible assumption | omega)])) (by rw [← hnc]; rfl) ?_
    refine o_iload hC dX8_node_94 (by rfl) ?_
    refine o_iastN (t0 := 0) hC rfl dX8_node_96 (by repeat (first | with_reducible assumption | (rw [rl_u_s]; done) | (rw [rl_u_s]; rfl) | rw [rl_u_n (by first | with_reducible assumption | omega)])) (by omega) (by decide) ?_
    refine o_aload_n hC dX8_node_97 (by rfl) ?_
    refine o_dup hC dX8_node_98 rfl ?_
    refine o_getf (v := .int (nI z.2.2.2.1)) hC (fX8_119 hC rfl) dX8_node_99 (by repeat (first | with_reducible assumption | (rw [rl_u_s]; done) | (rw [rl_u_s]; rfl) | rw [rl_u_n (by first | with_reducible assumption | omega)])) (by rw [← hnc]; rfl) ?_
    refine o_iconst (v := nI 1) hC dX8_node_102 (by decide +kernel) ?_
    refine o_iadd hC dX8_node_103 ?_
    try rw [nI_add]
    refine o_putf hC (fX8_119 hC rfl) (fwX8 rfl rfl rfl (Or.inl rfl)) dX8_node_104 (by repeat (first | with_reducible assumption | (rw [rl_u_s]; done) | (rw [rl_u_s]; rfl) | rw [rl_u_n (by first | with_reducible assumption | omega)])) (Nat.le_of_ble_eq_true rfl) ?_
    try simp only [List.set_cons_zero, List.set_cons_succ]
    refine o_aload_n hC dX8_node_107 (by rfl) ?_
    refine o_getf hC (fX8_119 hC rfl) dX8_node_108 (by repeat (first | with_reducible assumption | (rw [rl_u_s]; done) | (rw [rl_u_s]; rfl) | rw [rl_u_n (by first | with_reducible assumption | omega)])) (by first | rfl | with_reducible assumption) ?_
    refine o_iconst (v := nI 1) hC dX8_node_111 (by decide +kernel) ?_
    refine o_isub hC dX8_node_112 ?_
    rw [rl_pred z.2.2.2.1]
    refine o_iret hC hB dX8_node_113 (Nat.le_of_ble_eq_true rfl) (Nat.le_of_ble_eq_true rfl) ?_
    have n16 : z.2.2.2.1 ≠ 16 := nI_eq_of c_6
    have e : sh_node z w = (nI z.2.2.2.1, (z.1, z.2.1, z.2.2.1, z.2.2.2.1 + 1, upd z.2.2.2.2.1 z.2.2.2.1 w, z.2.2.2.2.2)) := if_neg (by omega)
    have nv2 : ∀ a : Nat, a < z.2.2.2.1 + 1 → md_nv (S.1, S.2.1, S.2.2.1, upd S.2.2.2.1 z.2.2.2.1 op, upd S.2.2.2.2.1 z.2.2.2.1 fi, upd S.2.2.2.2.2.1 z.2.2.2.1 se, upd S.2.2.2.2.2.2.1 z.2.2.2.1 x, upd S.2.2.2.2.2.2.2.1 z.2.2.2.1 y, upd S.2.2.2.2.2.2.2.2.1 z.2.2.2.1 u, upd S.2.2.2.2.2.2.2.2.2.1 z.2.2.2.1 vv, upd S.2.2.2.2.2.2.2.2.2.2 z.2.2.2.1 w) a := fun a ha => by
      by_cases ea : a = z.2.2.2.1
      · rw [ea]
        exact hv (by omega)
      · exact (hnv a (by omega)).up (by omega)
    exact ⟨_, rfl, rfl, (by rw [e]; exact ⟨(T.1, T.2.1, T.2.2.1, T.2.2.2.1, nI (z.2.2.2.1 + 1), T.2.2.2.2.2), fu, k, (S.1, S.2.1, S.2.2.1, upd S.2.2.2.1 z.2.2.2.1 op, upd S.2.2.2.2.1 z.2.2.2.1 fi, upd S.2.2.2.2.2.1 z.2.2.2.1 se, upd S.2.2.2.2.2.2.1 z.2.2.2.1 x, upd S.2.2.2.2.2.2.2.1 z.2.2.2.1 y, upd S.2.2.2.2.2.2.2.2.1 z.2.2.2.1 u, upd S.2.2.2.2.2.2.2.2.2.1 z.2.2.2.1 vv, upd S.2.2.2.2.2.2.2.2.2.2 z.2.2.2.1 w), ⟨⟨by repeat (first | with_reducible assumption | (rw [rl_u_s]; done) | (rw [rl_u_s]; rfl) | rw [rl_u_n (by first | with_reducible assumption | omega)]), gk, ⟨⟨cl, by repeat (first | with_reducible assumption | (rw [rl_u_s]; done) | (rw [rl_u_s]; rfl) | rw [rl_u_n (by first | with_reducible assumption | omega)])⟩, ⟨tu, by repeat (first | with_reducible assumption | (rw [rl_u_s]; done) | (rw [rl_u_s]; rfl) | rw [rl_u_n (by first | with_reducible assumption | omega)]), b13⟩, ⟨im, by repeat (first | with_reducible assumption | (rw [rl_u_s]; done) | (rw [rl_u_s]; rfl) | rw [rl_u_n (by first | with_reducible assumption | omega)])⟩, ⟨te, by repeat (first | with_reducible assumption | (rw [rl_u_s]; done) | (rw [rl_u_s]; rfl) | rw [rl_u_n (by first | with_reducible assumption | omega)]), b15⟩, ⟨ne, by repeat (first | with_reducible assumption | (rw [rl_u_s]; done) | (rw [rl_u_s]; rfl) | rw [rl_u_n (by first | with_reducible assumption | omega)])⟩, ⟨la, by repeat (first | with_reducible assumption | (rw [rl_u_s]; done) | (rw [rl_u_s]; rfl) | rw [rl_u_n (by first | with_reducible assumption | omega)])⟩, ⟨hn, by repeat (first | with_reducible assumption | (rw [rl_u_s]; done) | (rw [rl_u_s]; rfl) | rw [rl_u_n (by first | with_reducible assumption | omega)])⟩, ⟨hl, by repeat (first | with_reducible assumption | (rw [rl_u_s]; done) | (rw [rl_u_s]; rfl) | rw [rl_u_n (by first | with_reducible assumption | omega)])⟩, ⟨tp, by repeat (first | with_reducible assumption | (rw [rl_u_s]; done) | (rw [rl_u_s]; rfl) | rw [rl_u_n (by first | with_reducible assumption | omega)])⟩, ⟨gr, by repeat (first | with_reducible assumption | (rw [rl_u_s]; done) | (rw [rl_u_s]; rfl) | rw [rl_u_n (by first | with_reducible assumption | omega)]), b21⟩, ⟨it, by repeat (first | with_reducible assumption | (rw [rl_u_s]; done) | (rw [rl_u_s]; rfl) | rw [rl_u_n (by first | with_reducible assumption | omega)])⟩⟩, fun _ _ _ => rfl⟩, ⟨by repeat (first | with_reducible assumption | (rw [rl_u_s]; done) | (rw [rl_u_s]; rfl) | rw [rl_u_n (by first | with_reducible assumption | omega)]), by repeat (first | with_reducible assumption | (rw [rl_u_s]; done) | (rw [rl_u_s]; rfl) | rw [rl_u_n (by first | with_reducible assumption | omega)]), by repeat (first | with_reducible assumption | (rw [rl_u_s]; done) | (rw [rl_u_s]; rfl) | rw [rl_u_n (by first | with_reducible assumption | omega)]), by repeat (first | with_reducible assumption | (rw [rl_u_s]; done) | (rw [rl_u_s]; rfl) | rw [rl_u_n (by first | with_reducible assumption | omega)]), by repeat (first | with_reducible assumption | (rw [rl_u_s]; done) | (rw [rl_u_s]; rfl) | rw [rl_u_n (by first | with_reducible assumption | omega)]), by repeat (first | with_reducible assumption | (rw [rl_u_s]; done) | (rw [rl_u_s]; rfl) | rw [rl_u_n (by first | with_reducible assumption | omega)]), by repeat (first | with_reducible assumption | (rw [rl_u_s]; done) | (rw [rl_u_s]; rfl) | rw [rl_u_n (by first | with_reducible assumption | omega)]), by repeat (first | with_reducible assumption | (rw [rl_u_s]; done) | (rw [rl_u_s]; rfl) | rw [rl_u_n (by first | with_reducible assumption | omega)]), by repeat (first | with_reducible assumption | (rw [rl_u_s]; done) | (rw [rl_u_s]; rfl) | rw [rl_u_n (by first | with_reducible assumption | omega)]), by repeat (first | with_reducible assumption | (rw [rl_u_s]; done) | (rw [rl_u_s]; rfl) | rw [rl_u_n (by first | with_reducible assumption | omega)]), by repeat (first | with_reducible assumption | (rw [rl_u_s]; done) | (rw [rl_u_s]; rfl) | rw [rl_u_n (by first | with_reducible assumption | omega)])⟩, ⟨hsc, hsc4⟩, hwf, ⟨hrr, hr36⟩, ⟨rfl, (by show z.2.2.2.1 + 1 ≤ 16; omega)⟩, (by show upd S.2.2.2.2.2.2.2.2.2.2 z.2.2.2.1 w = upd z.2.2.2.2.1 z.2.2.2.1 w; rw [hnw]), hpr, nv2, hwv, ⟨wrc, hrc6, hrc⟩⟩, rfl, Or.inr ⟨w, rfl, rfl⟩, fun q a b => by repeat (first | rfl | rw [rl_u_n (by omega)])⟩), (by rw [e]), fun q hq => by repeat (first | rfl | rw [rl_u_n (by omega)])⟩
  · refine o_bipush (v := (-4 : Int32)) hC dX8_node_9 (by decide +kernel) ?_
    refine o_iret hC hB dX8_node_11 (Nat.le_of_ble_eq_true rfl) (Nat.le_of_ble_eq_true rfl) ?_
    (have e : sh_node z w = (-4, z) := sh_node_n (by have := nI_inj2 (by omega) (by decide) c_6; omega); exact ⟨_, rfl, rfl, (by rw [e]; exact ⟨_, _, _, _, hu, rfl, Or.inl ⟨rfl, rfl⟩, fun _ _ _ => rfl⟩), (by rw [e]), rl_fr.rf⟩)
end
section
/-! THE MODEL: its makers; drop -/
theorem dpb_s : ∀ r : Nat, r < 36 → (((nI r).toInt64 &&& 63).toBitVec.smod 64).toNat = r := by decide +kernel
theorem dpb_1 : ∀ r : Nat, r < 36 → ((1 : Int64) <<< ((nI r).toInt64 &&& 63)).toBitVec = BitVec.twoPow 64 r := by decide +kernel
theorem dpb_get (x : Int64) (r : Nat) (hr : r < 36) : ((x >>> ((nI r).toInt64 &&& 63)) &&& 1 = 0) ↔ x.toBitVec.getLsbD r = false := by
  have e : ((x >>> ((nI r).toInt64 &&& 63)) &&& 1).toBitVec = (x.toBitVec.sshiftRight r) &&& 1#64 := by
    rw [Int64.toBitVec_and, Int64.toBitVec_shiftRight, BitVec.sshiftRight_eq', dpb_s r hr]
    rfl
  have g : (x.toBitVec.sshiftRight r).getLsbD 0 = x.toBitVec.getLsbD r := by
    rw [BitVec.getLsbD_sshiftRight]
    have : r < 64 := by omega
    simp [this]
  constructor
  · intro h
    have h2 := congrArg (fun b => BitVec.getLsbD b 0) (e.symm.trans (congrArg Int64.toBitVec h))
    simp only [BitVec.getLsbD_and, g] at h2
    simpa using h2
  · intro h
    apply Int64.toBitVec_inj.mp
    rw [e]
    apply BitVec.eq_of_getLsbD_eq
    intro i hi
    rw [BitVec.getLsbD_and]
    cases i with
    | zero => rw [g, h]; rfl
    | succ i =>
      have : (1#64).getLsbD (i + 1) = false := by
        rw [BitVec.getLsbD_one]
        simp
      rw [this]
      simp
theorem dpb_or (x : Int64) (r : Nat) (hr : r < 36) : (x ||| (1 : Int64) <<< ((nI r).toInt64 &&& 63) = x) ↔ x.toBitVec.getLsbD r = true := by
  rw [← Int64.toBitVec_inj, Int64.toBitVec_or, dpb_1 r hr]
  constructor
  · intro h
    have h2 := congrArg (fun b => BitVec.getLsbD b r) h
    simp only [BitVec.getLsbD_or, BitVec.getLsbD_twoPow] at h2
    have : r < 64 := by omega
    simpa [this] using h2.symm
  · intro h
    apply BitVec.eq_of_getLsbD_eq
    intro i hi
    rw [BitVec.getLsbD_or, BitVec.getLsbD_twoPow]
    by_cases q : i = r
    · subst q
      rw [h]
      rfl
    · simp [show ¬ r = i from fun e => q e.symm]
theorem dpb_an (x : Int64) (r : Nat) (hr : r < 36) : (x &&& ((1 : Int64) <<< ((nI r).toInt64 &&& 63) ^^^ (-1)) = x) ↔ x.toBitVec.getLsbD r = false := by
  have m1 : (-1 : Int64).toBitVec = BitVec.allOnes 64 := by decide +kernel
  rw [← Int64.toBitVec_inj, Int64.toBitVec_and, Int64.toBitVec_xor, dpb_1 r hr, m1]
  constructor
  · intro h
    have h2 := congrArg (fun b => BitVec.getLsbD b r) h
    have : r < 64 := by omega
    simp only [BitVec.getLsbD_and, BitVec.getLsbD_xor, BitVec.getLsbD_twoPow, BitVec.getLsbD_allOnes] at h2
    simpa [this] using h2.symm
  · intro h
    apply BitVec.eq_of_getLsbD_eq
    intro i hi
    rw [BitVec.getLsbD_and, BitVec.getLsbD_xor, BitVec.getLsbD_twoPow, BitVec.getLsbD_allOnes]
    by_cases q : i = r
    · subst q
      rw [h]
      rfl
    · simp [hi, show ¬ r = i from fun e => q e.symm]

theorem md_lg (x : Int64) (r : Nat) (hr : r < 36) : (lg_cmp ((x >>> ((nI r).toInt64 &&& 63)) &&& 1) 0 = 0) ↔ x.toBitVec.getLsbD r = false := by
  rw [lg_cmp_eq]
  exact dpb_get x r hr
theorem md_drA {x : Int64} {r : Nat} (hr : r < 36) (h : lg_cmp ((x >>> ((nI r).toInt64 &&& 63)) &&& 1) 0 = 0) : (if x ||| (1 : Int64) <<< ((nI r).toInt64 &&& 63) = x then nI 0 else nI 1) = nI 1 := by
  have h2 := (md_lg x r hr).mp h
  exact if_neg (fun e => by rw [(dpb_or x r hr).mp e] at h2; cases h2)
theorem md_drB {x : Int64} {r : Nat} (hr : r < 36) (h : ¬ lg_cmp ((x >>> ((nI r).toInt64 &&& 63)) &&& 1) 0 = 0) : (if x ||| (1 : Int64) <<< ((nI r).toInt64 &&& 63) = x then nI 0 else nI 1) = nI 0 := by
  refine if_pos ((dpb_or x r hr).mpr ?_)
  cases e : x.toBitVec.getLsbD r with
  | true => rfl
  | false => exact absurd ((md_lg x r hr).mpr e) h
theorem md_drC {x : Int64} {r : Nat} (hr : r < 36) (h : lg_cmp ((x >>> ((nI r).toInt64 &&& 63)) &&& 1) 0 = 0) : (if x &&& ((1 : Int64) <<< ((nI r).toInt64 &&& 63) ^^^ (-1)) = x then nI 0 else nI 1) = nI 0 := if_pos ((dpb_an x r hr).mpr ((md_lg x r hr).mp h))
theorem md_drD {x : Int64} {r : Nat} (hr : r < 36) (h : ¬ lg_cmp ((x >>> ((nI r).toInt64 &&& 63)) &&& 1) 0 = 0) : (if x &&& ((1 : Int64) <<< ((nI r).toInt64 &&& 63) ^^^ (-1)) = x then nI 0 else nI 1) = nI 1 := if_neg (fun e => h ((md_lg x r hr).mpr ((dpb_an x r hr).mp e)))

set_option maxHeartbeats 4000000 in
set_option maxRecDepth 100000 in
theorem cm_X8_drop (l : Launch) (D : va_G) (ids : Nat → ClassId) (H0 : Heap) (h : rl_H) (n : Nat) (m : Nat) (T : md_T) (fu : Int32) (k : Nat) (S : md_A) (z : sh_S) (q on : Int32) (hu : md_un ids h m T fu k S z) (hon : on = nI 0 ∨ on = nI 1) : rl_Met l (rl_e D ids H0) rl_BW rl_Ns yX8_drop cX8_drop 4 (some .int) ({ frames := 0, cells := 0, slots := 0, locals := 0 }) [.ref m, .int q, .int on] h n (fun v h' n' => ∃ r : Int32, v = some (.int r) ∧ n' = n ∧ mdx ids h' m T (sh_drop z q on).2 (fun S' => S' = S) (∀ q : Nat, m + 12 ≤ q → q < m + 23 → h' q = h q) ∧ r = (sh_drop z q on).1 ∧ rl_fr h h' m (m + 23)) := by
  obtain ⟨hq, hs, ⟨hsc, hsc4⟩, hwf, ⟨hrr, hr36⟩, ⟨hnc, hn16⟩, hnw, hpr, hnv, hwv, wrc, hrc6, hrc⟩ := id hu
  have hq0 := hq.ob (nI 0, T.2) fu k hq.2.1
  have g0 := hq.1
  obtain ⟨-, gk, ⟨⟨cl, g12⟩, ⟨tu, g13, b13⟩, ⟨im, g14⟩, ⟨te, g15, b15⟩, ⟨ne, g16⟩, ⟨la, g17⟩, ⟨hn, g18⟩, ⟨hl, g19⟩, ⟨tp, g20⟩, ⟨gr, g21, b21⟩, ⟨it, g22⟩⟩, gf⟩ := id hq
  obtain ⟨a1, a2, a3, a4, a5, a6, a7, a8, a9, a10, a11⟩ := id hs
  refine rl_Met.of (by decide +kernel) (Nat.le_of_ble_eq_true rfl) ?_
  intro X hC hB
  show rl_G X (rl_e D ids H0) 0 [some (.ref m), some (.int q), some (.int on), none] [] h n 0 0
  refine o_aload_n hC dX8_drop_0 (by rfl) ?_
  refine o_iconst (v := nI 0) hC dX8_drop_1 (by decide +kernel) ?_
  refine o_putf hC (fX8_78 hC rfl) (fwX8 rfl rfl rfl (Or.inl rfl)) dX8_drop_2 (by repeat (first | with_reducible assumption | (rw [rl_u_s]; done) | (rw [rl_u_s]; rfl) | rw [rl_u_n (by first | with_reducible assumption | omega)])) (Nat.le_of_ble_eq_true rfl) ?_
  try simp only [List.set_cons_zero, List.set_cons_succ]
  refine o_iload_n hC dX8_drop_5 (by rfl) ?_
  refine o_if_lt (tgt := 17) hC dX8_drop_6 (by decide) (fun c_6 => ?_) (fun c_6 => ?_)
  · refine o_iconst (v := (-1 : Int32)) hC dX8_drop_17 (by decide +kernel) ?_
    refine o_iret hC hB dX8_drop_18 (Nat.le_of_ble_eq_true rfl) (Nat.le_of_ble_eq_true rfl) ?_
    first
    | (have e : sh_drop z q on = (-1, z) := if_pos (Or.inl c_6); exact ⟨_, rfl, rfl, (by rw [e]; exact ⟨_, _, _, S, hu.dp hq0 rfl rfl rfl rfl ⟨wrc, hrc6, hrc⟩, rfl, rfl, fun q a b => rl_u_n (by omega)⟩), (by rw [e]), hq0.fr⟩)
    | (have e : sh_drop z q on = (-1, z) := if_pos (Or.inr (Int32.not_lt.mp c_14)); exact ⟨_, rfl, rfl, (by rw [e]; exact ⟨_, _, _, S, hu.dp hq0 rfl rfl rfl rfl ⟨wrc, hrc6, hrc⟩, rfl, rfl, fun q a b => rl_u_n (by omega)⟩), (by rw [e]), hq0.fr⟩)
  · refine o_iload_n hC dX8_drop_9 (by rfl) ?_
    refine o_aload_n hC dX8_drop_10 (by rfl) ?_
    refine o_getf (v := .int (nI z.2.2.1)) hC (fX8_112 hC rfl) dX8_drop_11 (by repeat (first | with_reducible assumption | (rw [rl_u_s]; done) | (rw [rl_u_s]; rfl) | rw [rl_u_n (by first | with_reducible assumption | omega)])) (by rw [← hrr]; rfl) ?_
    refine o_icmp_lt (tgt := 19) hC dX8_drop_14 (by decide) (fun c_14 => ?_) (fun c_14 => ?_)
    · obtain ⟨r, hr, rfl⟩ := nI_of_lt (k := z.2.2.1) (by omega) c_6 (fun e => absurd c_14 (Int32.not_lt.mpr e))
      have r36 : r < 36 := by omega
      refine o_aload_n hC dX8_drop_19 (by rfl) ?_
      refine o_getf (v := .long z.2.2.2.2.2) hC (fX8_115 hC rfl) dX8_drop_20 (by repeat (first | with_reducible assumption | (rw [rl_u_s]; done) | (rw [rl_u_s]; rfl) | rw [rl_u_n (by first | with_reducible assumption | omega)])) (by rw [← hpr]; rfl) ?_
      refine o_iload_n hC dX8_drop_23 (by rfl) ?_
      refine o_lshr hC dX8_drop_24 ?_
      refine o_lconst (v := 1) hC dX8_drop_25 (by decide +kernel) ?_
      refine o_land hC dX8_drop_26 ?_
      refine o_lconst (v := 0) hC dX8_drop_27 (by decide +kernel) ?_
      refine o_lcmp hC dX8_drop_28 ?_
      refine o_if_ne (tgt := 36) hC dX8_drop_29 (by decide) (fun c_29 => ?_) (fun c_29 => ?_)
      · refine o_iconst (v := nI 0) hC dX8_drop_36 (by decide +kernel) ?_
        refine o_istore_n hC dX8_drop_37 (Nat.le_of_ble_eq_true rfl) ?_
        refine o_aload_n hC dX8_drop_38 (by rfl) ?_
        refine o_iload_n hC dX8_drop_39 (by rfl) ?_
        refine o_if_eq (tgt := 58) hC dX8_drop_40 (by decide) (fun c_40 => ?_) (fun c_40 => ?_)
        · refine o_aload_n hC dX8_drop_58 (by rfl) ?_
          refine o_getf (v := .long z.2.2.2.2.2) hC (fX8_115 hC rfl) dX8_drop_59 (by repeat (first | with_reducible assumption | (rw [rl_u_s]; done) | (rw [rl_u_s]; rfl) | rw [rl_u_n (by first | with_reducible assumption | omega)])) (by rw [← hpr]; rfl) ?_
          refine o_lconst (v := 1) hC dX8_drop_62 (by decide +kernel) ?_
          refine o_iload_n hC dX8_drop_63 (by rfl) ?_
          refine o_lshl hC dX8_drop_64 ?_
          refine o_lor hC dX8_drop_65 ?_
          refine o_putf hC (fX8_115 hC rfl) (fwX8 rfl rfl rfl (Or.inl rfl)) dX8_drop_66 (by repeat (first | with_reducible assumption | (rw [rl_u_s]; done) | (rw [rl_u_s]; rfl) | rw [rl_u_n (by first | with_reducible assumption | omega)])) (Nat.le_of_ble_eq_true rfl) ?_
          try simp only [List.set_cons_zero, List.set_cons_succ]
          refine o_iload_n hC dX8_drop_69 (by rfl) ?_
          refine o_iload_n hC dX8_drop_70 (by rfl) ?_
          refine o_icmp_ne (tgt := 78) hC dX8_drop_71 (by decide) (fun c_71 => ?_) (fun c_71 => ?_)
          · refine o_iconst (v := nI 1) hC dX8_drop_78 (by decide +kernel) ?_
            refine o_iret hC hB dX8_drop_79 (Nat.le_of_ble_eq_true rfl) (Nat.le_of_ble_eq_true rfl) ?_
            first
            | (have e1 : dp_pr z.2.2.2.2.2 (nI r) on = z.2.2.2.2.2 ||| (1 : Int64) <<< ((nI r).toInt64 &&& 63) := if_pos c_40; have e : sh_drop z (nI r) on = (if dp_pr z.2.2.2.2.2 (nI r) on = z.2.2.2.2.2 then nI 0 else nI 1, (z.1, z.2.1, z.2.2.1, z.2.2.2.1, z.2.2.2.2.1, dp_pr z.2.2.2.2.2 (nI r) on)) := (if_neg (fun e => e.elim c_6 (fun e => absurd c_14 (Int32.not_lt.mpr e)))); have e2 : (if dp_pr z.2.2.2.2.2 (nI r) on = z.2.2.2.2.2 then nI 0 else nI 1) = nI 1 := (by rw [e1]; exact md_drA r36 c_29); exact ⟨_, rfl, rfl, (by rw [e]; exact ⟨(nI 0, T.2.1, T.2.2.1, z.2.2.2.2.2 ||| (1 : Int64) <<< ((nI r).toInt64 &&& 63), T.2.2.2.2), fu, k, S, ⟨⟨by repeat (first | with_reducible assumption | (rw [rl_u_s]; done) | (rw [rl_u_s]; rfl) | rw [rl_u_n (by first | with_reducible assumption | omega)]), gk, ⟨⟨cl, by repeat (first | with_reducible assumption | (rw [rl_u_s]; done) | (rw [rl_u_s]; rfl) | rw [rl_u_n (by first | with_reducible assumption | omega)])⟩, ⟨tu, by repeat (first | with_reducible assumption | (rw [rl_u_s]; done) | (rw [rl_u_s]; rfl) | rw [rl_u_n (by first | with_reducible assumption | omega)]), b13⟩, ⟨im, by repeat (first | with_reducible assumption | (rw [rl_u_s]; done) | (rw [rl_u_s]; rfl) | rw [rl_u_n (by first | with_reducible assumption | omega)])⟩, ⟨te, by repeat (first | with_reducible assumption | (rw [rl_u_s]; done) | (rw [rl_u_s]; rfl) | rw [rl_u_n (by first | with_reducible assumption | omega)]), b15⟩, ⟨ne, by repeat (first | with_reducible assumption | (rw [rl_u_s]; done) | (rw [rl_u_s]; rfl) | rw [rl_u_n (by first | with_reducible assumption | omega)])⟩, ⟨la, by repeat (first | with_reducible assumption | (rw [rl_u_s]; done) | (rw [rl_u_s]; rfl) | rw [rl_u_n (by first | with_reducible assumption | omega)])⟩, ⟨hn, by repeat (first | with_reducible assumption | (rw [rl_u_s]; done) | (rw [rl_u_s]; rfl) | rw [rl_u_n (by first | with_reducible assumption | omega)])⟩, ⟨hl, by repeat (first | with_reducible assumption | (rw [rl_u_s]; done) | (rw [rl_u_s]; rfl) | rw [rl_u_n (by first | with_reducible assumption | omega)])⟩, ⟨tp, by repeat (first | with_reducible assumption | (rw [rl_u_s]; done) | (rw [rl_u_s]; rfl) | rw [rl_u_n (by first | with_reducible assumption | omega)])⟩, ⟨gr, by repeat (first | with_reducible assumption | (rw [rl_u_s]; done) | (rw [rl_u_s]; rfl) | rw [rl_u_n (by first | with_reducible assumption | omega)]), b21⟩, ⟨it, by repeat (first | with_reducible assumption | (rw [rl_u_s]; done) | (rw [rl_u_s]; rfl) | rw [rl_u_n (by first | with_reducible assumption | omega)])⟩⟩, fun _ _ _ => rfl⟩, ⟨by repeat (first | with_reducible assumption | (rw [rl_u_s]; done) | (rw [rl_u_s]; rfl) | rw [rl_u_n (by first | with_reducible assumption | omega)]), by repeat (first | with_reducible assumption | (rw [rl_u_s]; done) | (rw [rl_u_s]; rfl) | rw [rl_u_n (by first | with_reducible assumption | omega)]), by repeat (first | with_reducible assumption | (rw [rl_u_s]; done) | (rw [rl_u_s]; rfl) | rw [rl_u_n (by first | with_reducible assumption | omega)]), by repeat (first | with_reducible assumption | (rw [rl_u_s]; done) | (rw [rl_u_s]; rfl) | rw [rl_u_n (by first | with_reducible assumption | omega)]), by repeat (first | with_reducible assumption | (rw [rl_u_s]; done) | (rw [rl_u_s]; rfl) | rw [rl_u_n (by first | with_reducible assumption | omega)]), by repeat (first | with_reducible assumption | (rw [rl_u_s]; done) | (rw [rl_u_s]; rfl) | rw [rl_u_n (by first | with_reducible assumption | omega)]), by repeat (first | with_reducible assumption | (rw [rl_u_s]; done) | (rw [rl_u_s]; rfl) | rw [rl_u_n (by first | with_reducible assumption | omega)]), by repeat (first | with_reducible assumption | (rw [rl_u_s]; done) | (rw [rl_u_s]; rfl) | rw [rl_u_n (by first | with_reducible assumption | omega)]), by repeat (first | with_reducible assumption | (rw [rl_u_s]; done) | (rw [rl_u_s]; rfl) | rw [rl_u_n (by first | with_reducible assumption | omega)]), by repeat (first | with_reducible assumption | (rw [rl_u_s]; done) | (rw [rl_u_s]; rfl) | rw [rl_u_n (by first | with_reducible assumption | omega)]), by repeat (first | with_reducible assumption | (rw [rl_u_s]; done) | (rw [rl_u_s]; rfl) | rw [rl_u_n (by first | with_reducible assumption | omega)])⟩, ⟨hsc, hsc4⟩, hwf, ⟨hrr, hr36⟩, ⟨hnc, hn16⟩, hnw, e1.symm, hnv, hwv, ⟨wrc, hrc6, hrc⟩⟩, rfl, rfl, fun q a b => by repeat (first | rfl | rw [rl_u_n (by omega)])⟩), (by rw [e]; exact e2.symm), fun q hq => by repeat (first | rfl | rw [rl_u_n (by omega)])⟩)
            | (have e1 : dp_pr z.2.2.2.2.2 (nI r) on = z.2.2.2.2.2 ||| (1 : Int64) <<< ((nI r).toInt64 &&& 63) := if_pos c_40; have e : sh_drop z (nI r) on = (if dp_pr z.2.2.2.2.2 (nI r) on = z.2.2.2.2.2 then nI 0 else nI 1, (z.1, z.2.1, z.2.2.1, z.2.2.2.1, z.2.2.2.2.1, dp_pr z.2.2.2.2.2 (nI r) on)) := (if_neg (fun e => e.elim c_6 (fun e => absurd c_14 (Int32.not_lt.mpr e)))); have e2 : (if dp_pr z.2.2.2.2.2 (nI r) on = z.2.2.2.2.2 then nI 0 else nI 1) = nI 0 := (by rw [e1]; exact md_drB r36 c_29); exact ⟨_, rfl, rfl, (by rw [e]; exact ⟨(nI 0, T.2.1, T.2.2.1, z.2.2.2.2.2 ||| (1 : Int64) <<< ((nI r).toInt64 &&& 63), T.2.2.2.2), fu, k, S, ⟨⟨by repeat (first | with_reducible assumption | (rw [rl_u_s]; done) | (rw [rl_u_s]; rfl) | rw [rl_u_n (by first | with_reducible assumption | omega)]), gk, ⟨⟨cl, by repeat (first | with_reducible assumption | (rw [rl_u_s]; done) | (rw [rl_u_s]; rfl) | rw [rl_u_n (by first | with_reducible assumption | omega)])⟩, ⟨tu, by repeat (first | with_reducible assumption | (rw [rl_u_s]; done) | (rw [rl_u_s]; rfl) | rw [rl_u_n (by first | with_reducible assumption | omega)]), b13⟩, ⟨im, by repeat (first | with_reducible assumption | (rw [rl_u_s]; done) | (rw [rl_u_s]; rfl) | rw [rl_u_n (by first | with_reducible assumption | omega)])⟩, ⟨te, by repeat (first | with_reducible assumption | (rw [rl_u_s]; done) | (rw [rl_u_s]; rfl) | rw [rl_u_n (by first | with_reducible assumption | omega)]), b15⟩, ⟨ne, by repeat (first | with_reducible assumption | (rw [rl_u_s]; done) | (rw [rl_u_s]; rfl) | rw [rl_u_n (by first | with_reducible assumption | omega)])⟩, ⟨la, by repeat (first | with_reducible assumption | (rw [rl_u_s]; done) | (rw [rl_u_s]; rfl) | rw [rl_u_n (by first | with_reducible assumption | omega)])⟩, ⟨hn, by repeat (first | with_reducible assumption | (rw [rl_u_s]; done) | (rw [rl_u_s]; rfl) | rw [rl_u_n (by first | with_reducible assumption | omega)])⟩, ⟨hl, by repeat (first | with_reducible assumption | (rw [rl_u_s]; done) | (rw [rl_u_s]; rfl) | rw [rl_u_n (by first | with_reducible assumption | omega)])⟩, ⟨tp, by repeat (first | with_reducible assumption | (rw [rl_u_s]; done) | (rw [rl_u_s]; rfl) | rw [rl_u_n (by first | with_reducible assumption | omega)])⟩, ⟨gr, by repeat (first | with_reducible assumption | (rw [rl_u_s]; done) | (rw [rl_u_s]; rfl) | rw [rl_u_n (by first | with_reducible assumption | omega)]), b21⟩, ⟨it, by repeat (first | with_reducible assumption | (rw [rl_u_s]; done) | (rw [rl_u_s]; rfl) | rw [rl_u_n (by first | with_reducible assumption | omega)])⟩⟩, fun _ _ _ => rfl⟩, ⟨by repeat (first | with_reducible assumption | (rw [rl_u_s]; done) | (rw [rl_u_s]; rfl) | rw [rl_u_n (by first | with_reducible assumption | omega)]), by repeat (first | with_reducible assumption | (rw [rl_u_s]; done) | (rw [rl_u_s]; rfl) | rw [rl_u_n (by first | with_reducible assumption | omega)]), by repeat (first | with_reducible assumption | (rw [rl_u_s]; done) | (rw [rl_u_s]; rfl) | rw [rl_u_n (by first | with_reducible assumption | omega)]), by repeat (first | with_reducible assumption | (rw [rl_u_s]; done) | (rw [rl_u_s]; rfl) | rw [rl_u_n (by first | with_reducible assumption | omega)]), by repeat (first | with_reducible assumption | (rw [rl_u_s]; done) | (rw [rl_u_s]; rfl) | rw [rl_u_n (by first | with_reducible assumption | omega)]), by repeat (first | with_reducible assumption | (rw [rl_u_s]; done) | (rw [rl_u_s]; rfl) | rw [rl_u_n (by first | with_reducible assumption | omega)]), by repeat (first | with_reducible assumption | (rw [rl_u_s]; done) | (rw [rl_u_s]; rfl) | rw [rl_u_n (by first | with_reducible assumption | omega)]), by repeat (first | with_reducible assumption | (rw [rl_u_s]; done) | (rw [rl_u_s]; rfl) | rw [rl_u_n (by first | with_reducible assumption | omega)]), by repeat (first | with_reducible assumption | (rw [rl_u_s]; done) | (rw [rl_u_s]; rfl) | rw [rl_u_n (by first | with_reducible assumption | omega)]), by repeat (first | with_reducible assumption | (rw [rl_u_s]; done) | (rw [rl_u_s]; rfl) | rw [rl_u_n (by first | with_reducible assumption | omega)]), by repeat (first | with_reducible assumption | (rw [rl_u_s]; done) | (rw [rl_u_s]; rfl) | rw [rl_u_n (by first | with_reducible assumption | omega)])⟩, ⟨hsc, hsc4⟩, hwf, ⟨hrr, hr36⟩, ⟨hnc, hn16⟩, hnw, e1.symm, hnv, hwv, ⟨wrc, hrc6, hrc⟩⟩, rfl, rfl, fun q a b => by repeat (first | rfl | rw [rl_u_n (by omega)])⟩), (by rw [e]; exact e2.symm), fun q hq => by repeat (first | rfl | rw [rl_u_n (by omega)])⟩)
            | exact absurd (c_71.trans c_40) (by decide +kernel)
            | exact absurd c_40.symm c_71
          · refine o_iconst (v := nI 0) hC dX8_drop_74 (by decide +kernel) ?_
            refine o_goto (tgt := 79) hC dX8_drop_75 (by decide) ?_
            refine o_iret hC hB dX8_drop_79 (Nat.le_of_ble_eq_true rfl) (Nat.le_of_ble_eq_true rfl) ?_
            first
            | (have e1 : dp_pr z.2.2.2.2.2 (nI r) on = z.2.2.2.2.2 ||| (1 : Int64) <<< ((nI r).toInt64 &&& 63) := if_pos c_40; have e : sh_drop z (nI r) on = (if dp_pr z.2.2.2.2.2 (nI r) on = z.2.2.2.2.2 then nI 0 else nI 1, (z.1, z.2.1, z.2.2.1, z.2.2.2.1, z.2.2.2.2.1, dp_pr z.2.2.2.2.2 (nI r) on)) := (if_neg (fun e => e.elim c_6 (fun e => absurd c_14 (Int32.not_lt.mpr e)))); have e2 : (if dp_pr z.2.2.2.2.2 (nI r) on = z.2.2.2.2.2 then nI 0 else nI 1) = nI 1 := (by rw [e1]; exact md_drA r36 c_29); exact ⟨_, rfl, rfl, (by rw [e]; exact ⟨(nI 0, T.2.1, T.2.2.1, z.2.2.2.2.2 ||| (1 : Int64) <<< ((nI r).toInt64 &&& 63), T.2.2.2.2), fu, k, S, ⟨⟨by repeat (first | with_reducible assumption | (rw [rl_u_s]; done) | (rw [rl_u_s]; rfl) | rw [rl_u_n (by first | with_reducible assumption | omega)]), gk, ⟨⟨cl, by repeat (first | with_reducible assumption | (rw [rl_u_s]; done) | (rw [rl_u_s]; rfl) | rw [rl_u_n (by first | with_reducible assumption | omega)])⟩, ⟨tu, by repeat (first | with_reducible assumption | (rw [rl_u_s]; done) | (rw [rl_u_s]; rfl) | rw [rl_u_n (by first | with_reducible assumption | omega)]), b13⟩, ⟨im, by repeat (first | with_reducible assumption | (rw [rl_u_s]; done) | (rw [rl_u_s]; rfl) | rw [rl_u_n (by first | with_reducible assumption | omega)])⟩, ⟨te, by repeat (first | with_reducible assumption | (rw [rl_u_s]; done) | (rw [rl_u_s]; rfl) | rw [rl_u_n (by first | with_reducible assumption | omega)]), b15⟩, ⟨ne, by repeat (first | with_reducible assumption | (rw [rl_u_s]; done) | (rw [rl_u_s]; rfl) | rw [rl_u_n (by first | with_reducible assumption | omega)])⟩, ⟨la, by repeat (first | with_reducible assumption | (rw [rl_u_s]; done) | (rw [rl_u_s]; rfl) | rw [rl_u_n (by first | with_reducible assumption | omega)])⟩, ⟨hn, by repeat (first | with_reducible assumption | (rw [rl_u_s]; done) | (rw [rl_u_s]; rfl) | rw [rl_u_n (by first | with_reducible assumption | omega)])⟩, ⟨hl, by repeat (first | with_reducible assumption | (rw [rl_u_s]; done) | (rw [rl_u_s]; rfl) | rw [rl_u_n (by first | with_reducible assumption | omega)])⟩, ⟨tp, by repeat (first | with_reducible assumption | (rw [rl_u_s]; done) | (rw [rl_u_s]; rfl) | rw [rl_u_n (by first | with_reducible assumption | omega)])⟩, ⟨gr, by repeat (first | with_reducible assumption | (rw [rl_u_s]; done) | (rw [rl_u_s]; rfl) | rw [rl_u_n (by first | with_reducible assumption | omega)]), b21⟩, ⟨it, by repeat (first | with_reducible assumption | (rw [rl_u_s]; done) | (rw [rl_u_s]; rfl) | rw [rl_u_n (by first | with_reducible assumption | omega)])⟩⟩, fun _ _ _ => rfl⟩, ⟨by repeat (first | with_reducible assumption | (rw [rl_u_s]; done) | (rw [rl_u_s]; rfl) | rw [rl_u_n (by first | with_reducible assumption | omega)]), by repeat (first | with_reducible assumption | (rw [rl_u_s]; done) | (rw [rl_u_s]; rfl) | rw [rl_u_n (by first | with_reducible assumption | omega)]), by repeat (first | with_reducible assumption | (rw [rl_u_s]; done) | (rw [rl_u_s]; rfl) | rw [rl_u_n (by first | with_reducible assumption | omega)]), by repeat (first | with_reducible assumption | (rw [rl_u_s]; done) | (rw [rl_u_s]; rfl) | rw [rl_u_n (by first | with_reducible assumption | omega)]), by repeat (first | with_reducible assumption | (rw [rl_u_s]; done) | (rw [rl_u_s]; rfl) | rw [rl_u_n (by first | with_reducible assumption | omega)]), by repeat (first | with_reducible assumption | (rw [rl_u_s]; done) | (rw [rl_u_s]; rfl) | rw [rl_u_n (by first | with_reducible assumption | omega)]), by repeat (first | with_reducible assumption | (rw [rl_u_s]; done) | (rw [rl_u_s]; rfl) | rw [rl_u_n (by first | with_reducible assumption | omega)]), by repeat (first | with_reducible assumption | (rw [rl_u_s]; done) | (rw [rl_u_s]; rfl) | rw [rl_u_n (by first | with_reducible assumption | omega)]), by repeat (first | with_reducible assumption | (rw [rl_u_s]; done) | (rw [rl_u_s]; rfl) | rw [rl_u_n (by first | with_reducible assumption | omega)]), by repeat (first | with_reducible assumption | (rw [rl_u_s]; done) | (rw [rl_u_s]; rfl) | rw [rl_u_n (by first | with_reducible assumption | omega)]), by repeat (first | with_reducible assumption | (rw [rl_u_s]; done) | (rw [rl_u_s]; rfl) | rw [rl_u_n (by first | with_reducible assumption | omega)])⟩, ⟨hsc, hsc4⟩, hwf, ⟨hrr, hr36⟩, ⟨hnc, hn16⟩, hnw, e1.symm, hnv, hwv, ⟨wrc, hrc6, hrc⟩⟩, rfl, rfl, fun q a b => by repeat (first | rfl | rw [rl_u_n (by omega)])⟩), (by rw [e]; exact e2.symm), fun q hq => by repeat (first | rfl | rw [rl_u_n (by omega)])⟩)
            | (have e1 : dp_pr z.2.2.2.2.2 (nI r) on = z.2.2.2.2.2 ||| (1 : Int64) <<< ((nI r).toInt64 &&& 63) := if_pos c_40; have e : sh_drop z (nI r) on = (if dp_pr z.2.2.2.2.2 (nI r) on = z.2.2.2.2.2 then nI 0 else nI 1, (z.1, z.2.1, z.2.2.1, z.2.2.2.1, z.2.2.2.2.1, dp_pr z.2.2.2.2.2 (nI r) on)) := (if_neg (fun e => e.elim c_6 (fun e => absurd c_14 (Int32.not_lt.mpr e)))); have e2 : (if dp_pr z.2.2.2.2.2 (nI r) on = z.2.2.2.2.2 then nI 0 else nI 1) = nI 0 := (by rw [e1]; exact md_drB r36 c_29); exact ⟨_, rfl, rfl, (by rw [e]; exact ⟨(nI 0, T.2.1, T.2.2.1, z.2.2.2.2.2 ||| (1 : Int64) <<< ((nI r).toInt64 &&& 63), T.2.2.2.2), fu, k, S, ⟨⟨by repeat (first | with_reducible assumption | (rw [rl_u_s]; done) | (rw [rl_u_s]; rfl) | rw [rl_u_n (by first | with_reducible assumption | omega)]), gk, ⟨⟨cl, by repeat (first | with_reducible assumption | (rw [rl_u_s]; done) | (rw [rl_u_s]; rfl) | rw [rl_u_n (by first | with_reducible assumption | omega)])⟩, ⟨tu, by repeat (first | with_reducible assumption | (rw [rl_u_s]; done) | (rw [rl_u_s]; rfl) | rw [rl_u_n (by first | with_reducible assumption | omega)]), b13⟩, ⟨im, by repeat (first | with_reducible assumption | (rw [rl_u_s]; done) | (rw [rl_u_s]; rfl) | rw [rl_u_n (by first | with_reducible assumption | omega)])⟩, ⟨te, by repeat (first | with_reducible assumption | (rw [rl_u_s]; done) | (rw [rl_u_s]; rfl) | rw [rl_u_n (by first | with_reducible assumption | omega)]), b15⟩, ⟨ne, by repeat (first | with_reducible assumption | (rw [rl_u_s]; done) | (rw [rl_u_s]; rfl) | rw [rl_u_n (by first | with_reducible assumption | omega)])⟩, ⟨la, by repeat (first | with_reducible assumption | (rw [rl_u_s]; done) | (rw [rl_u_s]; rfl) | rw [rl_u_n (by first | with_reducible assumption | omega)])⟩, ⟨hn, by repeat (first | with_reducible assumption | (rw [rl_u_s]; done) | (rw [rl_u_s]; rfl) | rw [rl_u_n (by first | with_reducible assumption | omega)])⟩, ⟨hl, by repeat (first | with_reducible assumption | (rw [rl_u_s]; done) | (rw [rl_u_s]; rfl) | rw [rl_u_n (by first | with_reducible assumption | omega)])⟩, ⟨tp, by repeat (first | with_reducible assumption | (rw [rl_u_s]; done) | (rw [rl_u_s]; rfl) | rw [rl_u_n (by first | with_reducible assumption | omega)])⟩, ⟨gr, by repeat (first | with_reducible assumption | (rw [rl_u_s]; done) | (rw [rl_u_s]; rfl) | rw [rl_u_n (by first | with_reducible assumption | omega)]), b21⟩, ⟨it, by repeat (first | with_reducible assumption | (rw [rl_u_s]; done) | (rw [rl_u_s]; rfl) | rw [rl_u_n (by first | with_reducible assumption | omega)])⟩⟩, fun _ _ _ => rfl⟩, ⟨by repeat (first | with_reducible assumption | (rw [rl_u_s]; done) | (rw [rl_u_s]; rfl) | rw [rl_u_n (by first | with_reducible assumption | omega)]), by repeat (first | with_reducible assumption | (rw [rl_u_s]; done) | (rw [rl_u_s]; rfl) | rw [rl_u_n (by first | with_reducible assumption | omega)]), by repeat (first | with_reducible assumption | (rw [rl_u_s]; done) | (rw [rl_u_s]; rfl) | rw [rl_u_n (by first | with_reducible assumption | omega)]), by repeat (first | with_reducible assumption | (rw [rl_u_s]; done) | (rw [rl_u_s]; rfl) | rw [rl_u_n (by first | with_reducible assumption | omega)]), by repeat (first | with_reducible assumption | (rw [rl_u_s]; done) | (rw [rl_u_s]; rfl) | rw [rl_u_n (by first | with_reducible assumption | omega)]), by repeat (first | with_reducible assumption | (rw [rl_u_s]; done) | (rw [rl_u_s]; rfl) | rw [rl_u_n (by first | with_reducible assumption | omega)]), by repeat (first | with_reducible assumption | (rw [rl_u_s]; done) | (rw [rl_u_s]; rfl) | rw [rl_u_n (by first | with_reducible assumption | omega)]), by repeat (first | with_reducible assumption | (rw [rl_u_s]; done) | (rw [rl_u_s]; rfl) | rw [rl_u_n (by first | with_reducible assumption | omega)]), by repeat (first | with_reducible assumption | (rw [rl_u_s]; done) | (rw [rl_u_s]; rfl) | rw [rl_u_n (by first | with_reducible assumption | omega)]), by repeat (first | with_reducible assumption | (rw [rl_u_s]; done) | (rw [rl_u_s]; rfl) | rw [rl_u_n (by first | with_reducible assumption | omega)]), by repeat (first | with_reducible assumption | (rw [rl_u_s]; done) | (rw [rl_u_s]; rfl) | rw [rl_u_n (by first | with_reducible assumption | omega)])⟩, ⟨hsc, hsc4⟩, hwf, ⟨hrr, hr36⟩, ⟨hnc, hn16⟩, hnw, e1.symm, hnv, hwv, ⟨wrc, hrc6, hrc⟩⟩, rfl, rfl, fun q a b => by repeat (first | rfl | rw [rl_u_n (by omega)])⟩), (by rw [e]; exact e2.symm), fun q hq => by repeat (first | rfl | rw [rl_u_n (by omega)])⟩)
            | exact absurd (c_71.trans c_40) (by decide +kernel)
            | exact absurd c_40.symm c_71
        · obtain rfl := hon.resolve_left c_40
          refine o_aload_n hC dX8_drop_43 (by rfl) ?_
          refine o_getf (v := .long z.2.2.2.2.2) hC (fX8_115 hC rfl) dX8_drop_44 (by repeat (first | with_reducible assumption | (rw [rl_u_s]; done) | (rw [rl_u_s]; rfl) | rw [rl_u_n (by first | with_reducible assumption | omega)])) (by rw [← hpr]; rfl) ?_
          refine o_lconst (v := 1) hC dX8_drop_47 (by decide +kernel) ?_
          refine o_iload_n hC dX8_drop_48 (by rfl) ?_
          refine o_lshl hC dX8_drop_49 ?_
          refine o_ldc2 hC nX8_85 dX8_drop_50 ?_
          refine o_lxor hC dX8_drop_53 ?_
          refine o_land hC dX8_drop_54 ?_
          refine o_goto (tgt := 66) hC dX8_drop_55 (by decide) ?_
          refine o_putf hC (fX8_115 hC rfl) (fwX8 rfl rfl rfl (Or.inl rfl)) dX8_drop_66 (by repeat (first | with_reducible assumption | (rw [rl_u_s]; done) | (rw [rl_u_s]; rfl) | rw [rl_u_n (by first | with_reducible assumption | omega)])) (Nat.le_of_ble_eq_true rfl) ?_
          try simp only [List.set_cons_zero, List.set_cons_succ]
          refine o_iload_n hC dX8_drop_69 (by rfl) ?_
          refine o_iload_n hC dX8_drop_70 (by rfl) ?_
          refine o_icmp_ne (tgt := 78) hC dX8_drop_71 (by decide) (fun c_71 => ?_) (fun c_71 => ?_)
          · refine o_iconst (v := nI 1) hC dX8_drop_78 (by decide +kernel) ?_
            refine o_iret hC hB dX8_drop_79 (Nat.le_of_ble_eq_true rfl) (Nat.le_of_ble_eq_true rfl) ?_
            first
            | (have e1 : dp_pr z.2.2.2.2.2 (nI r) (nI 1) = z.2.2.2.2.2 &&& ((1 : Int64) <<< ((nI r).toInt64 &&& 63) ^^^ (-1)) := if_neg (by decide +kernel); have e : sh_drop z (nI r) (nI 1) = (if dp_pr z.2.2.2.2.2 (nI r) (nI 1) = z.2.2.2.2.2 then nI 0 else nI 1, (z.1, z.2.1, z.2.2.1, z.2.2.2.1, z.2.2.2.2.1, dp_pr z.2.2.2.2.2 (nI r) (nI 1))) := (if_neg (fun e => e.elim c_6 (fun e => absurd c_14 (Int32.not_lt.mpr e)))); have e2 : (if dp_pr z.2.2.2.2.2 (nI r) (nI 1) = z.2.2.2.2.2 then nI 0 else nI 1) = nI 0 := (by rw [e1]; exact md_drC r36 c_29); exact ⟨_, rfl, rfl, (by rw [e]; exact ⟨(nI 0, T.2.1, T.2.2.1, z.2.2.2.2.2 &&& ((1 : Int64) <<< ((nI r).toInt64 &&& 63) ^^^ (-1)), T.2.2.2.2), fu, k, S, ⟨⟨by repeat (first | with_reducible assumption | (rw [rl_u_s]; done) | (rw [rl_u_s]; rfl) | rw [rl_u_n (by first | with_reducible assumption | omega)]), gk, ⟨⟨cl, by repeat (first | with_reducible assumption | (rw [rl_u_s]; done) | (rw [rl_u_s]; rfl) | rw [rl_u_n (by first | with_reducible assumption | omega)])⟩, ⟨tu, by repeat (first | with_reducible assumption | (rw [rl_u_s]; done) | (rw [rl_u_s]; rfl) | rw [rl_u_n (by first | with_reducible assumption | omega)]), b13⟩, ⟨im, by repeat (first | with_reducible assumption | (rw [rl_u_s]; done) | (rw [rl_u_s]; rfl) | rw [rl_u_n (by first | with_reducible assumption | omega)])⟩, ⟨te, by repeat (first | with_reducible assumption | (rw [rl_u_s]; done) | (rw [rl_u_s]; rfl) | rw [rl_u_n (by first | with_reducible assumption | omega)]), b15⟩, ⟨ne, by repeat (first | with_reducible assumption | (rw [rl_u_s]; done) | (rw [rl_u_s]; rfl) | rw [rl_u_n (by first | with_reducible assumption | omega)])⟩, ⟨la, by repeat (first | with_reducible assumption | (rw [rl_u_s]; done) | (rw [rl_u_s]; rfl) | rw [rl_u_n (by first | with_reducible assumption | omega)])⟩, ⟨hn, by repeat (first | with_reducible assumption | (rw [rl_u_s]; done) | (rw [rl_u_s]; rfl) | rw [rl_u_n (by first | with_reducible assumption | omega)])⟩, ⟨hl, by repeat (first | with_reducible assumption | (rw [rl_u_s]; done) | (rw [rl_u_s]; rfl) | rw [rl_u_n (by first | with_reducible assumption | omega)])⟩, ⟨tp, by repeat (first | with_reducible assumption | (rw [rl_u_s]; done) | (rw [rl_u_s]; rfl) | rw [rl_u_n (by first | with_reducible assumption | omega)])⟩, ⟨gr, by repeat (first | with_reducible assumption | (rw [rl_u_s]; done) | (rw [rl_u_s]; rfl) | rw [rl_u_n (by first | with_reducible assumption | omega)]), b21⟩, ⟨it, by repeat (first | with_reducible assumption | (rw [rl_u_s]; done) | (rw [rl_u_s]; rfl) | rw [rl_u_n (by first | with_reducible assumption | omega)])⟩⟩, fun _ _ _ => rfl⟩, ⟨by repeat (first | with_reducible assumption | (rw [rl_u_s]; done) | (rw [rl_u_s]; rfl) | rw [rl_u_n (by first | with_reducible assumption | omega)]), by repeat (first | with_reducible assumption | (rw [rl_u_s]; done) | (rw [rl_u_s]; rfl) | rw [rl_u_n (by first | with_reducible assumption | omega)]), by repeat (first | with_reducible assumption | (rw [rl_u_s]; done) | (rw [rl_u_s]; rfl) | rw [rl_u_n (by first | with_reducible assumption | omega)]), by repeat (first | with_reducible assumption | (rw [rl_u_s]; done) | (rw [rl_u_s]; rfl) | rw [rl_u_n (by first | with_reducible assumption | omega)]), by repeat (first | with_reducible assumption | (rw [rl_u_s]; done) | (rw [rl_u_s]; rfl) | rw [rl_u_n (by first | with_reducible assumption | omega)]), by repeat (first | with_reducible assumption | (rw [rl_u_s]; done) | (rw [rl_u_s]; rfl) | rw [rl_u_n (by first | with_reducible assumption | omega)]), by repeat (first | with_reducible assumption | (rw [rl_u_s]; done) | (rw [rl_u_s]; rfl) | rw [rl_u_n (by first | with_reducible assumption | omega)]), by repeat (first | with_reducible assumption | (rw [rl_u_s]; done) | (rw [rl_u_s]; rfl) | rw [rl_u_n (by first | with_reducible assumption | omega)]), by repeat (first | with_reducible assumption | (rw [rl_u_s]; done) | (rw [rl_u_s]; rfl) | rw [rl_u_n (by first | with_reducible assumption | omega)]), by repeat (first | with_reducible assumption | (rw [rl_u_s]; done) | (rw [rl_u_s]; rfl) | rw [rl_u_n (by first | with_reducible assumption | omega)]), by repeat (first | with_reducible assumption | (rw [rl_u_s]; done) | (rw [rl_u_s]; rfl) | rw [rl_u_n (by first | with_reducible assumption | omega)])⟩, ⟨hsc, hsc4⟩, hwf, ⟨hrr, hr36⟩, ⟨hnc, hn16⟩, hnw, e1.symm, hnv, hwv, ⟨wrc, hrc6, hrc⟩⟩, rfl, rfl, fun q a b => by repeat (first | rfl | rw [rl_u_n (by omega)])⟩), (by rw [e]; exact e2.symm), fun q hq => by repeat (first | rfl | rw [rl_u_n (by omega)])⟩)
            | (have e1 : dp_pr z.2.2.2.2.2 (nI r) (nI 1) = z.2.2.2.2.2 &&& ((1 : Int64) <<< ((nI r).toInt64 &&& 63) ^^^ (-1)) := if_neg (by decide +kernel); have e : sh_drop z (nI r) (nI 1) = (if dp_pr z.2.2.2.2.2 (nI r) (nI 1) = z.2.2.2.2.2 then nI 0 else nI 1, (z.1, z.2.1, z.2.2.1, z.2.2.2.1, z.2.2.2.2.1, dp_pr z.2.2.2.2.2 (nI r) (nI 1))) := (if_neg (fun e => e.elim c_6 (fun e => absurd c_14 (Int32.not_lt.mpr e)))); have e2 : (if dp_pr z.2.2.2.2.2 (nI r) (nI 1) = z.2.2.2.2.2 then nI 0 else nI 1) = nI 1 := (by rw [e1]; exact md_drD r36 c_29); exact ⟨_, rfl, rfl, (by rw [e]; exact ⟨(nI 0, T.2.1, T.2.2.1, z.2.2.2.2.2 &&& ((1 : Int64) <<< ((nI r).toInt64 &&& 63) ^^^ (-1)), T.2.2.2.2), fu, k, S, ⟨⟨by repeat (first | with_reducible assumption | (rw [rl_u_s]; done) | (rw [rl_u_s]; rfl) | rw [rl_u_n (by first | with_reducible assumption | omega)]), gk, ⟨⟨cl, by repeat (first | with_reducible assumption | (rw [rl_u_s]; done) | (rw [rl_u_s]; rfl) | rw [rl_u_n (by first | with_reducible assumption | omega)])⟩, ⟨tu, by repeat (first | with_reducible assumption | (rw [rl_u_s]; done) | (rw [rl_u_s]; rfl) | rw [rl_u_n (by first | with_reducible assumption | omega)]), b13⟩, ⟨im, by repeat (first | with_reducible assumption | (rw [rl_u_s]; done) | (rw [rl_u_s]; rfl) | rw [rl_u_n (by first | with_reducible assumption | omega)])⟩, ⟨te, by repeat (first | with_reducible assumption | (rw [rl_u_s]; done) | (rw [rl_u_s]; rfl) | rw [rl_u_n (by first | with_reducible assumption | omega)]), b15⟩, ⟨ne, by repeat (first | with_reducible assumption | (rw [rl_u_s]; done) | (rw [rl_u_s]; rfl) | rw [rl_u_n (by first | with_reducible assumption | omega)])⟩, ⟨la, by repeat (first | with_reducible assumption | (rw [rl_u_s]; done) | (rw [rl_u_s]; rfl) | rw [rl_u_n (by first | with_reducible assumption | omega)])⟩, ⟨hn, by repeat (first | with_reducible assumption | (rw [rl_u_s]; done) | (rw [rl_u_s]; rfl) | rw [rl_u_n (by first | with_reducible assumption | omega)])⟩, ⟨hl, by repeat (first | with_reducible assumption | (rw [rl_u_s]; done) | (rw [rl_u_s]; rfl) | rw [rl_u_n (by first | with_reducible assumption | omega)])⟩, ⟨tp, by repeat (first | with_reducible assumption | (rw [rl_u_s]; done) | (rw [rl_u_s]; rfl) | rw [rl_u_n (by first | with_reducible assumption | omega)])⟩, ⟨gr, by repeat (first | with_reducible assumption | (rw [rl_u_s]; done) | (rw [rl_u_s]; rfl) | rw [rl_u_n (by first | with_reducible assumption | omega)]), b21⟩, ⟨it, by repeat (first | with_reducible assumption | (rw [rl_u_s]; done) | (rw [rl_u_s]; rfl) | rw [rl_u_n (by first | with_reducible assumption | omega)])⟩⟩, fun _ _ _ => rfl⟩, ⟨by repeat (first | with_reducible assumption | (rw [rl_u_s]; done) | (rw [rl_u_s]; rfl) | rw [rl_u_n (by first | with_reducible assumption | omega)]), by repeat (first | with_reducible assumption | (rw [rl_u_s]; done) | (rw [rl_u_s]; rfl) | rw [rl_u_n (by first | with_reducible assumption | omega)]), by repeat (first | with_reducible assumption | (rw [rl_u_s]; done) | (rw [rl_u_s]; rfl) | rw [rl_u_n (by first | with_reducible assumption | omega)]), by repeat (first | with_reducible assumption | (rw [rl_u_s]; done) | (rw [rl_u_s]; rfl) | rw [rl_u_n (by first | with_reducible assumption | omega)]), by repeat (first | with_reducible assumption | (rw [rl_u_s]; done) | (rw [rl_u_s]; rfl) | rw [rl_u_n (by first | with_reducible assumption | omega)]), by repeat (first | with_reducible assumption | (rw [rl_u_s]; done) | (rw [rl_u_s]; rfl) | rw [rl_u_n (by first | with_reducible assumption | omega)]), by repeat (first | with_reducible assumption | (rw [rl_u_s]; done) | (rw [rl_u_s]; rfl) | rw [rl_u_n (by first | with_reducible assumption | omega)]), by repeat (first | with_reducible assumption | (rw [rl_u_s]; done) | (rw [rl_u_s]; rfl) | rw [rl_u_n (by first | with_reducible assumption | omega)]), by repeat (first | with_reducible assumption | (rw [rl_u_s]; done) | (rw [rl_u_s]; rfl) | rw [rl_u_n (by first | with_reducible assumption | omega)]), by repeat (first | with_reducible assumption | (rw [rl_u_s]; done) | (rw [rl_u_s]; rfl) | rw [rl_u_n (by first | with_reducible assumption | omega)]), by repeat (first | with_reducible assumption | (rw [rl_u_s]; done) | (rw [rl_u_s]; rfl) | rw [rl_u_n (by first | with_reducible assumption | omega)])⟩, ⟨hsc, hsc4⟩, hwf, ⟨hrr, hr36⟩, ⟨hnc, hn16⟩, hnw, e1.symm, hnv, hwv, ⟨wrc, hrc6, hrc⟩⟩, rfl, rfl, fun q a b => by repeat (first | rfl | rw [rl_u_n (by omega)])⟩), (by rw [e]; exact e2.symm), fun q hq => by repeat (first | rfl | rw [rl_u_n (by omega)])⟩)
            | exact absurd rfl c_71
            | exact absurd c_71 (by decide +kernel)
          · refine o_iconst (v := nI 0) hC dX8_drop_74 (by decide +kernel) ?_
            refine o_goto (tgt := 79) hC dX8_drop_75 (by decide) ?_
            refine o_iret hC hB dX8_drop_79 (Nat.le_of_ble_eq_true rfl) (Nat.le_of_ble_eq_true rfl) ?_
            first
            | (have e1 : dp_pr z.2.2.2.2.2 (nI r) (nI 1) = z.2.2.2.2.2 &&& ((1 : Int64) <<< ((nI r).toInt64 &&& 63) ^^^ (-1)) := if_neg (by decide +kernel); have e : sh_drop z (nI r) (nI 1) = (if dp_pr z.2.2.2.2.2 (nI r) (nI 1) = z.2.2.2.2.2 then nI 0 else nI 1, (z.1, z.2.1, z.2.2.1, z.2.2.2.1, z.2.2.2.2.1, dp_pr z.2.2.2.2.2 (nI r) (nI 1))) := (if_neg (fun e => e.elim c_6 (fun e => absurd c_14 (Int32.not_lt.mpr e)))); have e2 : (if dp_pr z.2.2.2.2.2 (nI r) (nI 1) = z.2.2.2.2.2 then nI 0 else nI 1) = nI 0 := (by rw [e1]; exact md_drC r36 c_29); exact ⟨_, rfl, rfl, (by rw [e]; exact ⟨(nI 0, T.2.1, T.2.2.1, z.2.2.2.2.2 &&& ((1 : Int64) <<< ((nI r).toInt64 &&& 63) ^^^ (-1)), T.2.2.2.2), fu, k, S, ⟨⟨by repeat (first | with_reducible assumption | (rw [rl_u_s]; done) | (rw [rl_u_s]; rfl) | rw [rl_u_n (by first | with_reducible assumption | omega)]), gk, ⟨⟨cl, by repeat (first | with_reducible assumption | (rw [rl_u_s]; done) | (rw [rl_u_s]; rfl) | rw [rl_u_n (by first | with_reducible assumption | omega)])⟩, ⟨tu, by repeat (first | with_reducible assumption | (rw [rl_u_s]; done) | (rw [rl_u_s]; rfl) | rw [rl_u_n (by first | with_reducible assumption | omega)]), b13⟩, ⟨im, by repeat (first | with_reducible assumption | (rw [rl_u_s]; done) | (rw [rl_u_s]; rfl) | rw [rl_u_n (by first | with_reducible assumption | omega)])⟩, ⟨te, by repeat (first | with_reducible assumption | (rw [rl_u_s]; done) | (rw [rl_u_s]; rfl) | rw [rl_u_n (by first | with_reducible assumption | omega)]), b15⟩, ⟨ne, by repeat (first | with_reducible assumption | (rw [rl_u_s]; done) | (rw [rl_u_s]; rfl) | rw [rl_u_n (by first | with_reducible assumption | omega)])⟩, ⟨la, by repeat (first | with_reducible assumption | (rw [rl_u_s]; done) | (rw [rl_u_s]; rfl) | rw [rl_u_n (by first | with_reducible assumption | omega)])⟩, ⟨hn, by repeat (first | with_reducible assumption | (rw [rl_u_s]; done) | (rw [rl_u_s]; rfl) | rw [rl_u_n (by first | with_reducible assumption | omega)])⟩, ⟨hl, by repeat (first | with_reducible assumption | (rw [rl_u_s]; done) | (rw [rl_u_s]; rfl) | rw [rl_u_n (by first | with_reducible assumption | omega)])⟩, ⟨tp, by repeat (first | with_reducible assumption | (rw [rl_u_s]; done) | (rw [rl_u_s]; rfl) | rw [rl_u_n (by first | with_reducible assumption | omega)])⟩, ⟨gr, by repeat (first | with_reducible assumption | (rw [rl_u_s]; done) | (rw [rl_u_s]; rfl) | rw [rl_u_n (by first | with_reducible assumption | omega)]), b21⟩, ⟨it, by repeat (first | with_reducible assumption | (rw [rl_u_s]; done) | (rw [rl_u_s]; rfl) | rw [rl_u_n (by first | with_reducible assumption | omega)])⟩⟩, fun _ _ _ => rfl⟩, ⟨by repeat (first | with_reducible assumption | (rw [rl_u_s]; done) | (rw [rl_u_s]; rfl) | rw [rl_u_n (by first | with_reducible assumption | omega)]), by repeat (first | with_reducible assumption | (rw [rl_u_s]; done) | (rw [rl_u_s]; rfl) | rw [rl_u_n (by first | with_reducible assumption | omega)]), by repeat (first | with_reducible assumption | (rw [rl_u_s]; done) | (rw [rl_u_s]; rfl) | rw [rl_u_n (by first | with_reducible assumption | omega)]), by repeat (first | with_reducible assumption | (rw [rl_u_s]; done) | (rw [rl_u_s]; rfl) | rw [rl_u_n (by first | with_reducible assumption | omega)]), by repeat (first | with_reducible assumption | (rw [rl_u_s]; done) | (rw [rl_u_s]; rfl) | rw [rl_u_n (by first | with_reducible assumption | omega)]), by repeat (first | with_reducible assumption | (rw [rl_u_s]; done) | (rw [rl_u_s]; rfl) | rw [rl_u_n (by first | with_reducible assumption | omega)]), by repeat (first | with_reducible assumption | (rw [rl_u_s]; done) | (rw [rl_u_s]; rfl) | rw [rl_u_n (by first | with_reducible assumption | omega)]), by repeat (first | with_reducible assumption | (rw [rl_u_s]; done) | (rw [rl_u_s]; rfl) | rw [rl_u_n (by first | with_reducible assumption | omega)]), by repeat (first | with_reducible assumption | (rw [rl_u_s]; done) | (rw [rl_u_s]; rfl) | rw [rl_u_n (by first | with_reducible assumption | omega)]), by repeat (first | with_reducible assumption | (rw [rl_u_s]; done) | (rw [rl_u_s]; rfl) | rw [rl_u_n (by first | with_reducible assumption | omega)]), by repeat (first | with_reducible assumption | (rw [rl_u_s]; done) | (rw [rl_u_s]; rfl) | rw [rl_u_n (by first | with_reducible assumption | omega)])⟩, ⟨hsc, hsc4⟩, hwf, ⟨hrr, hr36⟩, ⟨hnc, hn16⟩, hnw, e1.symm, hnv, hwv, ⟨wrc, hrc6, hrc⟩⟩, rfl, rfl, fun q a b => by repeat (first | rfl | rw [rl_u_n (by omega)])⟩), (by rw [e]; exact e2.symm), fun q hq => by repeat (first | rfl | rw [rl_u_n (by omega)])⟩)
            | (have e1 : dp_pr z.2.2.2.2.2 (nI r) (nI 1) = z.2.2.2.2.2 &&& ((1 : Int64) <<< ((nI r).toInt64 &&& 63) ^^^ (-1)) := if_neg (by decide +kernel); have e : sh_drop z (nI r) (nI 1) = (if dp_pr z.2.2.2.2.2 (nI r) (nI 1) = z.2.2.2.2.2 then nI 0 else nI 1, (z.1, z.2.1, z.2.2.1, z.2.2.2.1, z.2.2.2.2.1, dp_pr z.2.2.2.2.2 (nI r) (nI 1))) := (if_neg (fun e => e.elim c_6 (fun e => absurd c_14 (Int32.not_lt.mpr e)))); have e2 : (if dp_pr z.2.2.2.2.2 (nI r) (nI 1) = z.2.2.2.2.2 then nI 0 else nI 1) = nI 1 := (by rw [e1]; exact md_drD r36 c_29); exact ⟨_, rfl, rfl, (by rw [e]; exact ⟨(nI 0, T.2.1, T.2.2.1, z.2.2.2.2.2 &&& ((1 : Int64) <<< ((nI r).toInt64 &&& 63) ^^^ (-1)), T.2.2.2.2), fu, k, S, ⟨⟨by repeat (first | with_reducible assumption | (rw [rl_u_s]; done) | (rw [rl_u_s]; rfl) | rw [rl_u_n (by first | with_reducible assumption | omega)]), gk, ⟨⟨cl, by repeat (first | with_reducible assumption | (rw [rl_u_s]; done) | (rw [rl_u_s]; rfl) | rw [rl_u_n (by first | with_reducible assumption | omega)])⟩, ⟨tu, by repeat (first | with_reducible assumption | (rw [rl_u_s]; done) | (rw [rl_u_s]; rfl) | rw [rl_u_n (by first | with_reducible assumption | omega)]), b13⟩, ⟨im, by repeat (first | with_reducible assumption | (rw [rl_u_s]; done) | (rw [rl_u_s]; rfl) | rw [rl_u_n (by first | with_reducible assumption | omega)])⟩, ⟨te, by repeat (first | with_reducible assumption | (rw [rl_u_s]; done) | (rw [rl_u_s]; rfl) | rw [rl_u_n (by first | with_reducible assumption | omega)]), b15⟩, ⟨ne, by repeat (first | with_reducible assumption | (rw [rl_u_s]; done) | (rw [rl_u_s]; rfl) | rw [rl_u_n (by first | with_reducible assumption | omega)])⟩, ⟨la, by repeat (first | with_reducible assumption | (rw [rl_u_s]; done) | (rw [rl_u_s]; rfl) | rw [rl_u_n (by first | with_reducible assumption | omega)])⟩, ⟨hn, by repeat (first | with_reducible assumption | (rw [rl_u_s]; done) | (rw [rl_u_s]; rfl) | rw [rl_u_n (by first | with_reducible assumption | omega)])⟩, ⟨hl, by repeat (first | with_reducible assumption | (rw [rl_u_s]; done) | (rw [rl_u_s]; rfl) | rw [rl_u_n (by first | with_reducible assumption | omega)])⟩, ⟨tp, by repeat (first | with_reducible assumption | (rw [rl_u_s]; done) | (rw [rl_u_s]; rfl) | rw [rl_u_n (by first | with_reducible assumption | omega)])⟩, ⟨gr, by repeat (first | with_reducible assumption | (rw [rl_u_s]; done) | (rw [rl_u_s]; rfl) | rw [rl_u_n (by first | with_reducible assumption | omega)]), b21⟩, ⟨it, by repeat (first | with_reducible assumption | (rw [rl_u_s]; done) | (rw [rl_u_s]; rfl) | rw [rl_u_n (by first | with_reducible assumption | omega)])⟩⟩, fun _ _ _ => rfl⟩, ⟨by repeat (first | with_reducible assumption | (rw [rl_u_s]; done) | (rw [rl_u_s]; rfl) | rw [rl_u_n (by first | with_reducible assumption | omega)]), by repeat (first | with_reducible assumption | (rw [rl_u_s]; done) | (rw [rl_u_s]; rfl) | rw [rl_u_n (by first | with_reducible assumption | omega)]), by repeat (first | with_reducible assumption | (rw [rl_u_s]; done) | (rw [rl_u_s]; rfl) | rw [rl_u_n (by first | with_reducible assumption | omega)]), by repeat (first | with_reducible assumption | (rw [rl_u_s]; done) | (rw [rl_u_s]; rfl) | rw [rl_u_n (by first | with_reducible assumption | omega)]), by repeat (first | with_reducible assumption | (rw [rl_u_s]; done) | (rw [rl_u_s]; rfl) | rw [rl_u_n (by first | with_reducible assumption | omega)]), by repeat (first | with_reducible assumption | (rw [rl_u_s]; done) | (rw [rl_u_s]; rfl) | rw [rl_u_n (by first | with_reducible assumption | omega)]), by repeat (first | with_reducible assumption | (rw [rl_u_s]; done) | (rw [rl_u_s]; rfl) | rw [rl_u_n (by first | with_reducible assumption | omega)]), by repeat (first | with_reducible assumption | (rw [rl_u_s]; done) | (rw [rl_u_s]; rfl) | rw [rl_u_n (by first | with_reducible assumption | omega)]), by repeat (first | with_reducible assumption | (rw [rl_u_s]; done) | (rw [rl_u_s]; rfl) | rw [rl_u_n (by first | with_reducible assumption | omega)]), by repeat (first | with_reducible assumption | (rw [rl_u_s]; done) | (rw [rl_u_s]; rfl) | rw [rl_u_n (by first | with_reducible assumption | omega)]), by repeat (first | with_reducible assumption | (rw [rl_u_s]; done) | (rw [rl_u_s]; rfl) | rw [rl_u_n (by first | with_reducible assumption | omega)])⟩, ⟨hsc, hsc4⟩, hwf, ⟨hrr, hr36⟩, ⟨hnc, hn16⟩, hnw, e1.symm, hnv, hwv, ⟨wrc, hrc6, hrc⟩⟩, rfl, rfl, fun q a b => by repeat (first | rfl | rw [rl_u_n (by omega)])⟩), (by rw [e]; exact e2.symm), fun q hq => by repeat (first | rfl | rw [rl_u_n (by omega)])⟩)
            | exact absurd rfl c_71
            | exact absurd c_71 (by decide +kernel)
      · refine o_iconst (v := nI 1) hC dX8_drop_32 (by decide +kernel) ?_
        refine o_goto (tgt := 37) hC dX8_drop_33 (by decide) ?_
        refine o_istore_n hC dX8_drop_37 (Nat.le_of_ble_eq_true rfl) ?_
        refine o_aload_n hC dX8_drop_38 (by rfl) ?_
        refine o_iload_n hC dX8_drop_39 (by rfl) ?_
        refine o_if_eq (tgt := 58) hC dX8_drop_40 (by decide) (fun c_40 => ?_) (fun c_40 => ?_)
        · refine o_aload_n hC dX8_drop_58 (by rfl) ?_
          refine o_getf (v := .long z.2.2.2.2.2) hC (fX8_115 hC rfl) dX8_drop_59 (by repeat (first | with_reducible assumption | (rw [rl_u_s]; done) | (rw [rl_u_s]; rfl) | rw [rl_u_n (by first | with_reducible assumption | omega)])) (by rw [← hpr]; rfl) ?_
          refine o_lconst (v := 1) hC dX8_drop_62 (by decide +kernel) ?_
          refine o_iload_n hC dX8_drop_63 (by rfl) ?_
          refine o_lshl hC dX8_drop_64 ?_
          refine o_lor hC dX8_drop_65 ?_
          refine o_putf hC (fX8_115 hC rfl) (fwX8 rfl rfl rfl (Or.inl rfl)) dX8_drop_66 (by repeat (first | with_reducible assumption | (rw [rl_u_s]; done) | (rw [rl_u_s]; rfl) | rw [rl_u_n (by first | with_reducible assumption | omega)])) (Nat.le_of_ble_eq_true rfl) ?_
          try simp only [List.set_cons_zero, List.set_cons_succ]
          refine o_iload_n hC dX8_drop_69 (by rfl) ?_
          refine o_iload_n hC dX8_drop_70 (by rfl) ?_
          refine o_icmp_ne (tgt := 78) hC dX8_drop_71 (by decide) (fun c_71 => ?_) (fun c_71 => ?_)
          · refine o_iconst (v := nI 1) hC dX8_drop_78 (by decide +kernel) ?_
            refine o_iret hC hB dX8_drop_79 (Nat.le_of_ble_eq_true rfl) (Nat.le_of_ble_eq_true rfl) ?_
            first
            | (have e1 : dp_pr z.2.2.2.2.2 (nI r) on = z.2.2.2.2.2 ||| (1 : Int64) <<< ((nI r).toInt64 &&& 63) := if_pos c_40; have e : sh_drop z (nI r) on = (if dp_pr z.2.2.2.2.2 (nI r) on = z.2.2.2.2.2 then nI 0 else nI 1, (z.1, z.2.1, z.2.2.1, z.2.2.2.1, z.2.2.2.2.1, dp_pr z.2.2.2.2.2 (nI r) on)) := (if_neg (fun e => e.elim c_6 (fun e => absurd c_14 (Int32.not_lt.mpr e)))); have e2 : (if dp_pr z.2.2.2.2.2 (nI r) on = z.2.2.2.2.2 then nI 0 else nI 1) = nI 1 := (by rw [e1]; exact md_drA r36 c_29); exact ⟨_, rfl, rfl, (by rw [e]; exact ⟨(nI 0, T.2.1, T.2.2.1, z.2.2.2.2.2 ||| (1 : Int64) <<< ((nI r).toInt64 &&& 63), T.2.2.2.2), fu, k, S, ⟨⟨by repeat (first | with_reducible assumption | (rw [rl_u_s]; done) | (rw [rl_u_s]; rfl) | rw [rl_u_n (by first | with_reducible assumption | omega)]), gk, ⟨⟨cl, by repeat (first | with_reducible assumption | (rw [rl_u_s]; done) | (rw [rl_u_s]; rfl) | rw [rl_u_n (by first | with_reducible assumption | omega)])⟩, ⟨tu, by repeat (first | with_reducible assumption | (rw [rl_u_s]; done) | (rw [rl_u_s]; rfl) | rw [rl_u_n (by first | with_reducible assumption | omega)]), b13⟩, ⟨im, by repeat (first | with_reducible assumption | (rw [rl_u_s]; done) | (rw [rl_u_s]; rfl) | rw [rl_u_n (by first | with_reducible assumption | omega)])⟩, ⟨te, by repeat (first | with_reducible assumption | (rw [rl_u_s]; done) | (rw [rl_u_s]; rfl) | rw [rl_u_n (by first | with_reducible assumption | omega)]), b15⟩, ⟨ne, by repeat (first | with_reducible assumption | (rw [rl_u_s]; done) | (rw [rl_u_s]; rfl) | rw [rl_u_n (by first | with_reducible assumption | omega)])⟩, ⟨la, by repeat (first | with_reducible assumption | (rw [rl_u_s]; done) | (rw [rl_u_s]; rfl) | rw [rl_u_n (by first | with_reducible assumption | omega)])⟩, ⟨hn, by repeat (first | with_reducible assumption | (rw [rl_u_s]; done) | (rw [rl_u_s]; rfl) | rw [rl_u_n (by first | with_reducible assumption | omega)])⟩, ⟨hl, by repeat (first | with_reducible assumption | (rw [rl_u_s]; done) | (rw [rl_u_s]; rfl) | rw [rl_u_n (by first | with_reducible assumption | omega)])⟩, ⟨tp, by repeat (first | with_reducible assumption | (rw [rl_u_s]; done) | (rw [rl_u_s]; rfl) | rw [rl_u_n (by first | with_reducible assumption | omega)])⟩, ⟨gr, by repeat (first | with_reducible assumption | (rw [rl_u_s]; done) | (rw [rl_u_s]; rfl) | rw [rl_u_n (by first | with_reducible assumption | omega)]), b21⟩, ⟨it, by repeat (first | with_reducible assumption | (rw [rl_u_s]; done) | (rw [rl_u_s]; rfl) | rw [rl_u_n (by first | with_reducible assumption | omega)])⟩⟩, fun _ _ _ => rfl⟩, ⟨by repeat (first | with_reducible assumption | (rw [rl_u_s]; done) | (rw [rl_u_s]; rfl) | rw [rl_u_n (by first | with_reducible assumption | omega)]), by repeat (first | with_reducible assumption | (rw [rl_u_s]; done) | (rw [rl_u_s]; rfl) | rw [rl_u_n (by first | with_reducible assumption | omega)]), by repeat (first | with_reducible assumption | (rw [rl_u_s]; done) | (rw [rl_u_s]; rfl) | rw [rl_u_n (by first | with_reducible assumption | omega)]), by repeat (first | with_reducible assumption | (rw [rl_u_s]; done) | (rw [rl_u_s]; rfl) | rw [rl_u_n (by first | with_reducible assumption | omega)]), by repeat (first | with_reducible assumption | (rw [rl_u_s]; done) | (rw [rl_u_s]; rfl) | rw [rl_u_n (by first | with_reducible assumption | omega)]), by repeat (first | with_reducible assumption | (rw [rl_u_s]; done) | (rw [rl_u_s]; rfl) | rw [rl_u_n (by first | with_reducible assumption | omega)]), by repeat (first | with_reducible assumption | (rw [rl_u_s]; done) | (rw [rl_u_s]; rfl) | rw [rl_u_n (by first | with_reducible assumption | omega)]), by repeat (first | with_reducible assumption | (rw [rl_u_s]; done) | (rw [rl_u_s]; rfl) | rw [rl_u_n (by first | with_reducible assumption | omega)]), by repeat (first | with_reducible assumption | (rw [rl_u_s]; done) | (rw [rl_u_s]; rfl) | rw [rl_u_n (by first | with_reducible assumption | omega)]), by repeat (first | with_reducible assumption | (rw [rl_u_s]; done) | (rw [rl_u_s]; rfl) | rw [rl_u_n (by first | with_reducible assumption | omega)]), by repeat (first | with_reducible assumption | (rw [rl_u_s]; done) | (rw [rl_u_s]; rfl) | rw [rl_u_n (by first | with_reducible assumption | omega)])⟩, ⟨hsc, hsc4⟩, hwf, ⟨hrr, hr36⟩, ⟨hnc, hn16⟩, hnw, e1.symm, hnv, hwv, ⟨wrc, hrc6, hrc⟩⟩, rfl, rfl, fun q a b => by repeat (first | rfl | rw [rl_u_n (by omega)])⟩), (by rw [e]; exact e2.symm), fun q hq => by repeat (first | rfl | rw [rl_u_n (by omega)])⟩)
            | (have e1 : dp_pr z.2.2.2.2.2 (nI r) on = z.2.2.2.2.2 ||| (1 : Int64) <<< ((nI r).toInt64 &&& 63) := if_pos c_40; have e : sh_drop z (nI r) on = (if dp_pr z.2.2.2.2.2 (nI r) on = z.2.2.2.2.2 then nI 0 else nI 1, (z.1, z.2.1, z.2.2.1, z.2.2.2.1, z.2.2.2.2.1, dp_pr z.2.2.2.2.2 (nI r) on)) := (if_neg (fun e => e.elim c_6 (fun e => absurd c_14 (Int32.not_lt.mpr e)))); have e2 : (if dp_pr z.2.2.2.2.2 (nI r) on = z.2.2.2.2.2 then nI 0 else nI 1) = nI 0 := (by rw [e1]; exact md_drB r36 c_29); exact ⟨_, rfl, rfl, (by rw [e]; exact ⟨(nI 0, T.2.1, T.2.2.1, z.2.2.2.2.2 ||| (1 : Int64) <<< ((nI r).toInt64 &&& 63), T.2.2.2.2), fu, k, S, ⟨⟨by repeat (first | with_reducible assumption | (rw [rl_u_s]; done) | (rw [rl_u_s]; rfl) | rw [rl_u_n (by first | with_reducible assumption | omega)]), gk, ⟨⟨cl, by repeat (first | with_reducible assumption | (rw [rl_u_s]; done) | (rw [rl_u_s]; rfl) | rw [rl_u_n (by first | with_reducible assumption | omega)])⟩, ⟨tu, by repeat (first | with_reducible assumption | (rw [rl_u_s]; done) | (rw [rl_u_s]; rfl) | rw [rl_u_n (by first | with_reducible assumption | omega)]), b13⟩, ⟨im, by repeat (first | with_reducible assumption | (rw [rl_u_s]; done) | (rw [rl_u_s]; rfl) | rw [rl_u_n (by first | with_reducible assumption | omega)])⟩, ⟨te, by repeat (first | with_reducible assumption | (rw [rl_u_s]; done) | (rw [rl_u_s]; rfl) | rw [rl_u_n (by first | with_reducible assumption | omega)]), b15⟩, ⟨ne, by repeat (first | with_reducible assumption | (rw [rl_u_s]; done) | (rw [rl_u_s]; rfl) | rw [rl_u_n (by first | with_reducible assumption | omega)])⟩, ⟨la, by repeat (first | with_reducible assumption | (rw [rl_u_s]; done) | (rw [rl_u_s]; rfl) | rw [rl_u_n (by first | with_reducible assumption | omega)])⟩, ⟨hn, by repeat (first | with_reducible assumption | (rw [rl_u_s]; done) | (rw [rl_u_s]; rfl) | rw [rl_u_n (by first | with_reducible assumption | omega)])⟩, ⟨hl, by repeat (first | with_reducible assumption | (rw [rl_u_s]; done) | (rw [rl_u_s]; rfl) | rw [rl_u_n (by first | with_reducible assumption | omega)])⟩, ⟨tp, by repeat (first | with_reducible assumption | (rw [rl_u_s]; done) | (rw [rl_u_s]; rfl) | rw [rl_u_n (by first | with_reducible assumption | omega)])⟩, ⟨gr, by repeat (first | with_reducible assumption | (rw [rl_u_s]; done) | (rw [rl_u_s]; rfl) | rw [rl_u_n (by first | with_reducible assumption | omega)]), b21⟩, ⟨it, by repeat (first | with_reducible assumption | (rw [rl_u_s]; done) | (rw [rl_u_s]; rfl) | rw [rl_u_n (by first | with_reducible assumption | omega)])⟩⟩, fun _ _ _ => rfl⟩, ⟨by repeat (first | with_reducible assumption | (rw [rl_u_s]; done) | (rw [rl_u_s]; rfl) | rw [rl_u_n (by first | with_reducible assumption | omega)]), by repeat (first | with_reducible assumption | (rw [rl_u_s]; done) | (rw [rl_u_s]; rfl) | rw [rl_u_n (by first | with_reducible assumption | omega)]), by repeat (first | with_reducible assumption | (rw [rl_u_s]; done) | (rw [rl_u_s]; rfl) | rw [rl_u_n (by first | with_reducible assumption | omega)]), by repeat (first | with_reducible assumption | (rw [rl_u_s]; done) | (rw [rl_u_s]; rfl) | rw [rl_u_n (by first | with_reducible assumption | omega)]), by repeat (first | with_reducible assumption | (rw [rl_u_s]; done) | (rw [rl_u_s]; rfl) | rw [rl_u_n (by first | with_reducible assumption | omega)]), by repeat (first | with_reducible assumption | (rw [rl_u_s]; done) | (rw [rl_u_s]; rfl) | rw [rl_u_n (by first | with_reducible assumption | omega)]), by repeat (first | with_reducible assumption | (rw [rl_u_s]; done) | (rw [rl_u_s]; rfl) | rw [rl_u_n (by first | with_reducible assumption | omega)]), by repeat (first | with_reducible assumption | (rw [rl_u_s]; done) | (rw [rl_u_s]; rfl) | rw [rl_u_n (by first | with_reducible assumption | omega)]), by repeat (first | with_reducible assumption | (rw [rl_u_s]; done) | (rw [rl_u_s]; rfl) | rw [rl_u_n (by first | with_reducible assumption | omega)]), by repeat (first | with_reducible assumption | (rw [rl_u_s]; done) | (rw [rl_u_s]; rfl) | rw [rl_u_n (by first | with_reducible assumption | omega)]), by repeat (first | with_reducible assumption | (rw [rl_u_s]; done) | (rw [rl_u_s]; rfl) | rw [rl_u_n (by first | with_reducible assumption | omega)])⟩, ⟨hsc, hsc4⟩, hwf, ⟨hrr, hr36⟩, ⟨hnc, hn16⟩, hnw, e1.symm, hnv, hwv, ⟨wrc, hrc6, hrc⟩⟩, rfl, rfl, fun q a b => by repeat (first | rfl | rw [rl_u_n (by omega)])⟩), (by rw [e]; exact e2.symm), fun q hq => by repeat (first | rfl | rw [rl_u_n (by omega)])⟩)
            | exact absurd (c_71.trans c_40) (by decide +kernel)
            | exact absurd c_40.symm c_71
          · refine o_iconst (v := nI 0) hC dX8_drop_74 (by decide +kernel) ?_
            refine o_goto (tgt := 79) hC dX8_drop_75 (by decide) ?_
            refine o_iret hC hB dX8_drop_79 (Nat.le_of_ble_eq_true rfl) (Nat.le_of_ble_eq_true rfl) ?_
            first
            | (have e1 : dp_pr z.2.2.2.2.2 (nI r) on = z.2.2.2.2.2 ||| (1 : Int64) <<< ((nI r).toInt64 &&& 63) := if_pos c_40; have e : sh_drop z (nI r) on = (if dp_pr z.2.2.2.2.2 (nI r) on = z.2.2.2.2.2 then nI 0 else nI 1, (z.1, z.2.1, z.2.2.1, z.2.2.2.1, z.2.2.2.2.1, dp_pr z.2.2.2.2.2 (nI r) on)) := (if_neg (fun e => e.elim c_6 (fun e => absurd c_14 (Int32.not_lt.mpr e)))); have e2 : (if dp_pr z.2.2.2.2.2 (nI r) on = z.2.2.2.2.2 then nI 0 else nI 1) = nI 1 := (by rw [e1]; exact md_drA r36 c_29); exact ⟨_, rfl, rfl, (by rw [e]; exact ⟨(nI 0, T.2.1, T.2.2.1, z.2.2.2.2.2 ||| (1 : Int64) <<< ((nI r).toInt64 &&& 63), T.2.2.2.2), fu, k, S, ⟨⟨by repeat (first | with_reducible assumption | (rw [rl_u_s]; done) | (rw [rl_u_s]; rfl) | rw [rl_u_n (by first | with_reducible assumption | omega)]), gk, ⟨⟨cl, by repeat (first | with_reducible assumption | (rw [rl_u_s]; done) | (rw [rl_u_s]; rfl) | rw [rl_u_n (by first | with_reducible assumption | omega)])⟩, ⟨tu, by repeat (first | with_reducible assumption | (rw [rl_u_s]; done) | (rw [rl_u_s]; rfl) | rw [rl_u_n (by first | with_reducible assumption | omega)]), b13⟩, ⟨im, by repeat (first | with_reducible assumption | (rw [rl_u_s]; done) | (rw [rl_u_s]; rfl) | rw [rl_u_n (by first | with_reducible assumption | omega)])⟩, ⟨te, by repeat (first | with_reducible assumption | (rw [rl_u_s]; done) | (rw [rl_u_s]; rfl) | rw [rl_u_n (by first | with_reducible assumption | omega)]), b15⟩, ⟨ne, by repeat (first | with_reducible assumption | (rw [rl_u_s]; done) | (rw [rl_u_s]; rfl) | rw [rl_u_n (by first | with_reducible assumption | omega)])⟩, ⟨la, by repeat (first | with_reducible assumption | (rw [rl_u_s]; done) | (rw [rl_u_s]; rfl) | rw [rl_u_n (by first | with_reducible assumption | omega)])⟩, ⟨hn, by repeat (first | with_reducible assumption | (rw [rl_u_s]; done) | (rw [rl_u_s]; rfl) | rw [rl_u_n (by first | with_reducible assumption | omega)])⟩, ⟨hl, by repeat (first | with_reducible assumption | (rw [rl_u_s]; done) | (rw [rl_u_s]; rfl) | rw [rl_u_n (by first | with_reducible assumption | omega)])⟩, ⟨tp, by repeat (first | with_reducible assumption | (rw [rl_u_s]; done) | (rw [rl_u_s]; rfl) | rw [rl_u_n (by first | with_reducible assumption | omega)])⟩, ⟨gr, by repeat (first | with_reducible assumption | (rw [rl_u_s]; done) | (rw [rl_u_s]; rfl) | rw [rl_u_n (by first | with_reducible assumption | omega)]), b21⟩, ⟨it, by repeat (first | with_reducible assumption | (rw [rl_u_s]; done) | (rw [rl_u_s]; rfl) | rw [rl_u_n (by first | with_reducible assumption | omega)])⟩⟩, fun _ _ _ => rfl⟩, ⟨by repeat (first | with_reducible assumption | (rw [rl_u_s]; done) | (rw [rl_u_s]; rfl) | rw [rl_u_n (by first | with_reducible assumption | omega)]), by repeat (first | with_reducible assumption | (rw [rl_u_s]; done) | (rw [rl_u_s]; rfl) | rw [rl_u_n (by first | with_reducible assumption | omega)]), by repeat (first | with_reducible assumption | (rw [rl_u_s]; done) | (rw [rl_u_s]; rfl) | rw [rl_u_n (by first | with_reducible assumption | omega)]), by repeat (first | with_reducible assumption | (rw [rl_u_s]; done) | (rw [rl_u_s]; rfl) | rw [rl_u_n (by first | with_reducible assumption | omega)]), by repeat (first | with_reducible assumption | (rw [rl_u_s]; done) | (rw [rl_u_s]; rfl) | rw [rl_u_n (by first | with_reducible assumption | omega)]), by repeat (first | with_reducible assumption | (rw [rl_u_s]; done) | (rw [rl_u_s]; rfl) | rw [rl_u_n (by first | with_reducible assumption | omega)]), by repeat (first | with_reducible assumption | (rw [rl_u_s]; done) | (rw [rl_u_s]; rfl) | rw [rl_u_n (by first | with_reducible assumption | omega)]), by repeat (first | with_reducible assumption | (rw [rl_u_s]; done) | (rw [rl_u_s]; rfl) | rw [rl_u_n (by first | with_reducible assumption | omega)]), by repeat (first | with_reducible assumption | (rw [rl_u_s]; done) | (rw [rl_u_s]; rfl) | rw [rl_u_n (by first | with_reducible assumption | omega)]), by repeat (first | with_reducible assumption | (rw [rl_u_s]; done) | (rw [rl_u_s]; rfl) | rw [rl_u_n (by first | with_reducible assumption | omega)]), by repeat (first | with_reducible assumption | (rw [rl_u_s]; done) | (rw [rl_u_s]; rfl) | rw [rl_u_n (by first | with_reducible assumption | omega)])⟩, ⟨hsc, hsc4⟩, hwf, ⟨hrr, hr36⟩, ⟨hnc, hn16⟩, hnw, e1.symm, hnv, hwv, ⟨wrc, hrc6, hrc⟩⟩, rfl, rfl, fun q a b => by repeat (first | rfl | rw [rl_u_n (by omega)])⟩), (by rw [e]; exact e2.symm), fun q hq => by repeat (first | rfl | rw [rl_u_n (by omega)])⟩)
            | (have e1 : dp_pr z.2.2.2.2.2 (nI r) on = z.2.2.2.2.2 ||| (1 : Int64) <<< ((nI r).toInt64 &&& 63) := if_pos c_40; have e : sh_drop z (nI r) on = (if dp_pr z.2.2.2.2.2 (nI r) on = z.2.2.2.2.2 then nI 0 else nI 1, (z.1, z.2.1, z.2.2.1, z.2.2.2.1, z.2.2.2.2.1, dp_pr z.2.2.2.2.2 (nI r) on)) := (if_neg (fun e => e.elim c_6 (fun e => absurd c_14 (Int32.not_lt.mpr e)))); have e2 : (if dp_pr z.2.2.2.2.2 (nI r) on = z.2.2.2.2.2 then nI 0 else nI 1) = nI 0 := (by rw [e1]; exact md_drB r36 c_29); exact ⟨_, rfl, rfl, (by rw [e]; exact ⟨(nI 0, T.2.1, T.2.2.1, z.2.2.2.2.2 ||| (1 : Int64) <<< ((nI r).toInt64 &&& 63), T.2.2.2.2), fu, k, S, ⟨⟨by repeat (first | with_reducible assumption | (rw [rl_u_s]; done) | (rw [rl_u_s]; rfl) | rw [rl_u_n (by first | with_reducible assumption | omega)]), gk, ⟨⟨cl, by repeat (first | with_reducible assumption | (rw [rl_u_s]; done) | (rw [rl_u_s]; rfl) | rw [rl_u_n (by first | with_reducible assumption | omega)])⟩, ⟨tu, by repeat (first | with_reducible assumption | (rw [rl_u_s]; done) | (rw [rl_u_s]; rfl) | rw [rl_u_n (by first | with_reducible assumption | omega)]), b13⟩, ⟨im, by repeat (first | with_reducible assumption | (rw [rl_u_s]; done) | (rw [rl_u_s]; rfl) | rw [rl_u_n (by first | with_reducible assumption | omega)])⟩, ⟨te, by repeat (first | with_reducible assumption | (rw [rl_u_s]; done) | (rw [rl_u_s]; rfl) | rw [rl_u_n (by first | with_reducible assumption | omega)]), b15⟩, ⟨ne, by repeat (first | with_reducible assumption | (rw [rl_u_s]; done) | (rw [rl_u_s]; rfl) | rw [rl_u_n (by first | with_reducible assumption | omega)])⟩, ⟨la, by repeat (first | with_reducible assumption | (rw [rl_u_s]; done) | (rw [rl_u_s]; rfl) | rw [rl_u_n (by first | with_reducible assumption | omega)])⟩, ⟨hn, by repeat (first | with_reducible assumption | (rw [rl_u_s]; done) | (rw [rl_u_s]; rfl) | rw [rl_u_n (by first | with_reducible assumption | omega)])⟩, ⟨hl, by repeat (first | with_reducible assumption | (rw [rl_u_s]; done) | (rw [rl_u_s]; rfl) | rw [rl_u_n (by first | with_reducible assumption | omega)])⟩, ⟨tp, by repeat (first | with_reducible assumption | (rw [rl_u_s]; done) | (rw [rl_u_s]; rfl) | rw [rl_u_n (by first | with_reducible assumption | omega)])⟩, ⟨gr, by repeat (first | with_reducible assumption | (rw [rl_u_s]; done) | (rw [rl_u_s]; rfl) | rw [rl_u_n (by first | with_reducible assumption | omega)]), b21⟩, ⟨it, by repeat (first | with_reducible assumption | (rw [rl_u_s]; done) | (rw [rl_u_s]; rfl) | rw [rl_u_n (by first | with_reducible assumption | omega)])⟩⟩, fun _ _ _ => rfl⟩, ⟨by repeat (first | with_reducible assumption | (rw [rl_u_s]; done) | (rw [rl_u_s]; rfl) | rw [rl_u_n (by first | with_reducible assumption | omega)]), by repeat (first | with_reducible assumption | (rw [rl_u_s]; done) | (rw [rl_u_s]; rfl) | rw [rl_u_n (by first | with_reducible assumption | omega)]), by repeat (first | with_reducible assumption | (rw [rl_u_s]; done) | (rw [rl_u_s]; rfl) | rw [rl_u_n (by first | with_reducible assumption | omega)]), by repeat (first | with_reducible assumption | (rw [rl_u_s]; done) | (rw [rl_u_s]; rfl) | rw [rl_u_n (by first | with_reducible assumption | omega)]), by repeat (first | with_reducible assumption | (rw [rl_u_s]; done) | (rw [rl_u_s]; rfl) | rw [rl_u_n (by first | with_reducible assumption | omega)]), by repeat (first | with_reducible assumption | (rw [rl_u_s]; done) | (rw [rl_u_s]; rfl) | rw [rl_u_n (by first | with_reducible assumption | omega)]), by repeat (first | with_reducible assumption | (rw [rl_u_s]; done) | (rw [rl_u_s]; rfl) | rw [rl_u_n (by first | with_reducible assumption | omega)]), by repeat (first | with_reducible assumption | (rw [rl_u_s]; done) | (rw [rl_u_s]; rfl) | rw [rl_u_n (by first | with_reducible assumption | omega)]), by repeat (first | with_reducible assumption | (rw [rl_u_s]; done) | (rw [rl_u_s]; rfl) | rw [rl_u_n (by first | with_reducible assumption | omega)]), by repeat (first | with_reducible assumption | (rw [rl_u_s]; done) | (rw [rl_u_s]; rfl) | rw [rl_u_n (by first | with_reducible assumption | omega)]), by repeat (first | with_reducible assumption | (rw [rl_u_s]; done) | (rw [rl_u_s]; rfl) | rw [rl_u_n (by first | with_reducible assumption | omega)])⟩, ⟨hsc, hsc4⟩, hwf, ⟨hrr, hr36⟩, ⟨hnc, hn16⟩, hnw, e1.symm, hnv, hwv, ⟨wrc, hrc6, hrc⟩⟩, rfl, rfl, fun q a b => by repeat (first | rfl | rw [rl_u_n (by omega)])⟩), (by rw [e]; exact e2.symm), fun q hq => by repeat (first | rfl | rw [rl_u_n (by omega)])⟩)
            | exact absurd (c_71.trans c_40) (by decide +kernel)
            | exact absurd c_40.symm c_71
        · obtain rfl := hon.resolve_left c_40
          refine o_aload_n hC dX8_drop_43 (by rfl) ?_
          refine o_getf (v := .long z.2.2.2.2.2) hC (fX8_115 hC rfl) dX8_drop_44 (by repeat (first | with_reducible assumption | (rw [rl_u_s]; done) | (rw [rl_u_s]; rfl) | rw [rl_u_n (by first | with_reducible assumption | omega)])) (by rw [← hpr]; rfl) ?_
          refine o_lconst (v := 1) hC dX8_drop_47 (by decide +kernel) ?_
          refine o_iload_n hC dX8_drop_48 (by rfl) ?_
          refine o_lshl hC dX8_drop_49 ?_
          refine o_ldc2 hC nX8_85 dX8_drop_50 ?_
          refine o_lxor hC dX8_drop_53 ?_
          refine o_land hC dX8_drop_54 ?_
          refine o_goto (tgt := 66) hC dX8_drop_55 (by decide) ?_
          refine o_putf hC (fX8_115 hC rfl) (fwX8 rfl rfl rfl (Or.inl rfl)) dX8_drop_66 (by repeat (first | with_reducible assumption | (rw [rl_u_s]; done) | (rw [rl_u_s]; rfl) | rw [rl_u_n (by first | with_reducible assumption | omega)])) (Nat.le_of_ble_eq_true rfl) ?_
          try simp only [List.set_cons_zero, List.set_cons_succ]
          refine o_iload_n hC dX8_drop_69 (by rfl) ?_
          refine o_iload_n hC dX8_drop_70 (by rfl) ?_
          refine o_icmp_ne (tgt := 78) hC dX8_drop_71 (by decide) (fun c_71 => ?_) (fun c_71 => ?_)
          · refine o_iconst (v := nI 1) hC dX8_drop_78 (by decide +kernel) ?_
            refine o_iret hC hB dX8_drop_79 (Nat.le_of_ble_eq_true rfl) (Nat.le_of_ble_eq_true rfl) ?_
            first
            | (have e1 : dp_pr z.2.2.2.2.2 (nI r) (nI 1) = z.2.2.2.2.2 &&& ((1 : Int64) <<< ((nI r).toInt64 &&& 63) ^^^ (-1)) := if_neg (by decide +kernel); have e : sh_drop z (nI r) (nI 1) = (if dp_pr z.2.2.2.2.2 (nI r) (nI 1) = z.2.2.2.2.2 then nI 0 else nI 1, (z.1, z.2.1, z.2.2.1, z.2.2.2.1, z.2.2.2.2.1, dp_pr z.2.2.2.2.2 (nI r) (nI 1))) := (if_neg (fun e => e.elim c_6 (fun e => absurd c_14 (Int32.not_lt.mpr e)))); have e2 : (if dp_pr z.2.2.2.2.2 (nI r) (nI 1) = z.2.2.2.2.2 then nI 0 else nI 1) = nI 0 := (by rw [e1]; exact md_drC r36 c_29); exact ⟨_, rfl, rfl, (by rw [e]; exact ⟨(nI 0, T.2.1, T.2.2.1, z.2.2.2.2.2 &&& ((1 : Int64) <<< ((nI r).toInt64 &&& 63) ^^^ (-1)), T.2.2.2.2), fu, k, S, ⟨⟨by repeat (first | with_reducible assumption | (rw [rl_u_s]; done) | (rw [rl_u_s]; rfl) | rw [rl_u_n (by first | with_reducible assumption | omega)]), gk, ⟨⟨cl, by repeat (first | with_reducible assumption | (rw [rl_u_s]; done) | (rw [rl_u_s]; rfl) | rw [rl_u_n (by first | with_reducible assumption | omega)])⟩, ⟨tu, by repeat (first | with_reducible assumption | (rw [rl_u_s]; done) | (rw [rl_u_s]; rfl) | rw [rl_u_n (by first | with_reducible assumption | omega)]), b13⟩, ⟨im, by repeat (first | with_reducible assumption | (rw [rl_u_s]; done) | (rw [rl_u_s]; rfl) | rw [rl_u_n (by first | with_reducible assumption | omega)])⟩, ⟨te, by repeat (first | with_reducible assumption | (rw [rl_u_s]; done) | (rw [rl_u_s]; rfl) | rw [rl_u_n (by first | with_reducible assumption | omega)]), b15⟩, ⟨ne, by repeat (first | with_reducible assumption | (rw [rl_u_s]; done) | (rw [rl_u_s]; rfl) | rw [rl_u_n (by first | with_reducible assumption | omega)])⟩, ⟨la, by repeat (first | with_reducible assumption | (rw [rl_u_s]; done) | (rw [rl_u_s]; rfl) | rw [rl_u_n (by first | with_reducible assumption | omega)])⟩, ⟨hn, by repeat (first | with_reducible assumption | (rw [rl_u_s]; done) | (rw [rl_u_s]; rfl) | rw [rl_u_n (by first | with_reducible assumption | omega)])⟩, ⟨hl, by repeat (first | with_reducible assumption | (rw [rl_u_s]; done) | (rw [rl_u_s]; rfl) | rw [rl_u_n (by first | with_reducible assumption | omega)])⟩, ⟨tp, by repeat (first | with_reducible assumption | (rw [rl_u_s]; done) | (rw [rl_u_s]; rfl) | rw [rl_u_n (by first | with_reducible assumption | omega)])⟩, ⟨gr, by repeat (first | with_reducible assumption | (rw [rl_u_s]; done) | (rw [rl_u_s]; rfl) | rw [rl_u_n (by first | with_reducible assumption | omega)]), b21⟩, ⟨it, by repeat (first | with_reducible assumption | (rw [rl_u_s]; done) | (rw [rl_u_s]; rfl) | rw [rl_u_n (by first | with_reducible assumption | omega)])⟩⟩, fun _ _ _ => rfl⟩, ⟨by repeat (first | with_reducible assumption | (rw [rl_u_s]; done) | (rw [rl_u_s]; rfl) | rw [rl_u_n (by first | with_reducible assumption | omega)]), by repeat (first | with_reducible assumption | (rw [rl_u_s]; done) | (rw [rl_u_s]; rfl) | rw [rl_u_n (by first | with_reducible assumption | omega)]), by repeat (first | with_reducible assumption | (rw [rl_u_s]; done) | (rw [rl_u_s]; rfl) | rw [rl_u_n (by first | with_reducible assumption | omega)]), by repeat (first | with_reducible assumption | (rw [rl_u_s]; done) | (rw [rl_u_s]; rfl) | rw [rl_u_n (by first | with_reducible assumption | omega)]), by repeat (first | with_reducible assumption | (rw [rl_u_s]; done) | (rw [rl_u_s]; rfl) | rw [rl_u_n (by first | with_reducible assumption | omega)]), by repeat (first | with_reducible assumption | (rw [rl_u_s]; done) | (rw [rl_u_s]; rfl) | rw [rl_u_n (by first | with_reducible assumption | omega)]), by repeat (first | with_reducible assumption | (rw [rl_u_s]; done) | (rw [rl_u_s]; rfl) | rw [rl_u_n (by first | with_reducible assumption | omega)]), by repeat (first | with_reducible assumption | (rw [rl_u_s]; done) | (rw [rl_u_s]; rfl) | rw [rl_u_n (by first | with_reducible assumption | omega)]), by repeat (first | with_reducible assumption | (rw [rl_u_s]; done) | (rw [rl_u_s]; rfl) | rw [rl_u_n (by first | with_reducible assumption | omega)]), by repeat (first | with_reducible assumption | (rw [rl_u_s]; done) | (rw [rl_u_s]; rfl) | rw [rl_u_n (by first | with_reducible assumption | omega)]), by repeat (first | with_reducible assumption | (rw [rl_u_s]; done) | (rw [rl_u_s]; rfl) | rw [rl_u_n (by first | with_reducible assumption | omega)])⟩, ⟨hsc, hsc4⟩, hwf, ⟨hrr, hr36⟩, ⟨hnc, hn16⟩, hnw, e1.symm, hnv, hwv, ⟨wrc, hrc6, hrc⟩⟩, rfl, rfl, fun q a b => by repeat (first | rfl | rw [rl_u_n (by omega)])⟩), (by rw [e]; exact e2.symm), fun q hq => by repeat (first | rfl | rw [rl_u_n (by omega)])⟩)
            | (have e1 : dp_pr z.2.2.2.2.2 (nI r) (nI 1) = z.2.2.2.2.2 &&& ((1 : Int64) <<< ((nI r).toInt64 &&& 63) ^^^ (-1)) := if_neg (by decide +kernel); have e : sh_drop z (nI r) (nI 1) = (if dp_pr z.2.2.2.2.2 (nI r) (nI 1) = z.2.2.2.2.2 then nI 0 else nI 1, (z.1, z.2.1, z.2.2.1, z.2.2.2.1, z.2.2.2.2.1, dp_pr z.2.2.2.2.2 (nI r) (nI 1))) := (if_neg (fun e => e.elim c_6 (fun e => absurd c_14 (Int32.not_lt.mpr e)))); have e2 : (if dp_pr z.2.2.2.2.2 (nI r) (nI 1) = z.2.2.2.2.2 then nI 0 else nI 1) = nI 1 := (by rw [e1]; exact md_drD r36 c_29); exact ⟨_, rfl, rfl, (by rw [e]; exact ⟨(nI 0, T.2.1, T.2.2.1, z.2.2.2.2.2 &&& ((1 : Int64) <<< ((nI r).toInt64 &&& 63) ^^^ (-1)), T.2.2.2.2), fu, k, S, ⟨⟨by repeat (first | with_reducible assumption | (rw [rl_u_s]; done) | (rw [rl_u_s]; rfl) | rw [rl_u_n (by first | with_reducible assumption | omega)]), gk, ⟨⟨cl, by repeat (first | with_reducible assumption | (rw [rl_u_s]; done) | (rw [rl_u_s]; rfl) | rw [rl_u_n (by first | with_reducible assumption | omega)])⟩, ⟨tu, by repeat (first | with_reducible assumption | (rw [rl_u_s]; done) | (rw [rl_u_s]; rfl) | rw [rl_u_n (by first | with_reducible assumption | omega)]), b13⟩, ⟨im, by repeat (first | with_reducible assumption | (rw [rl_u_s]; done) | (rw [rl_u_s]; rfl) | rw [rl_u_n (by first | with_reducible assumption | omega)])⟩, ⟨te, by repeat (first | with_reducible assumption | (rw [rl_u_s]; done) | (rw [rl_u_s]; rfl) | rw [rl_u_n (by first | with_reducible assumption | omega)]), b15⟩, ⟨ne, by repeat (first | with_reducible assumption | (rw [rl_u_s]; done) | (rw [rl_u_s]; rfl) | rw [rl_u_n (by first | with_reducible assumption | omega)])⟩, ⟨la, by repeat (first | with_reducible assumption | (rw [rl_u_s]; done) | (rw [rl_u_s]; rfl) | rw [rl_u_n (by first | with_reducible assumption | omega)])⟩, ⟨hn, by repeat (first | with_reducible assumption | (rw [rl_u_s]; done) | (rw [rl_u_s]; rfl) | rw [rl_u_n (by first | with_reducible assumption | omega)])⟩, ⟨hl, by repeat (first | with_reducible assumption | (rw [rl_u_s]; done) | (rw [rl_u_s]; rfl) | rw [rl_u_n (by first | with_reducible assumption | omega)])⟩, ⟨tp, by repeat (first | with_reducible assumption | (rw [rl_u_s]; done) | (rw [rl_u_s]; rfl) | rw [rl_u_n (by first | with_reducible assumption | omega)])⟩, ⟨gr, by repeat (first | with_reducible assumption | (rw [rl_u_s]; done) | (rw [rl_u_s]; rfl) | rw [rl_u_n (by first | with_reducible assumption | omega)]), b21⟩, ⟨it, by repeat (first | with_reducible assumption | (rw [rl_u_s]; done) | (rw [rl_u_s]; rfl) | rw [rl_u_n (by first | with_reducible assumption | omega)])⟩⟩, fun _ _ _ => rfl⟩, ⟨by repeat (first | with_reducible assumption | (rw [rl_u_s]; done) | (rw [rl_u_s]; rfl) | rw [rl_u_n (by first | with_reducible assumption | omega)]), by repeat (first | with_reducible assumption | (rw [rl_u_s]; done) | (rw [rl_u_s]; rfl) | rw [rl_u_n (by first | with_reducible assumption | omega)]), by repeat (first | with_reducible assumption | (rw [rl_u_s]; done) | (rw [rl_u_s]; rfl) | rw [rl_u_n (by first | with_reducible assumption | omega)]), by repeat (first | with_reducible assumption | (rw [rl_u_s]; done) | (rw [rl_u_s]; rfl) | rw [rl_u_n (by first | with_reducible assumption | omega)]), by repeat (first | with_reducible assumption | (rw [rl_u_s]; done) | (rw [rl_u_s]; rfl) | rw [rl_u_n (by first | with_reducible assumption | omega)]), by repeat (first | with_reducible assumption | (rw [rl_u_s]; done) | (rw [rl_u_s]; rfl) | rw [rl_u_n (by first | with_reducible assumption | omega)]), by repeat (first | with_reducible assumption | (rw [rl_u_s]; done) | (rw [rl_u_s]; rfl) | rw [rl_u_n (by first | with_reducible assumption | omega)]), by repeat (first | with_reducible assumption | (rw [rl_u_s]; done) | (rw [rl_u_s]; rfl) | rw [rl_u_n (by first | with_reducible assumption | omega)]), by repeat (first | with_reducible assumption | (rw [rl_u_s]; done) | (rw [rl_u_s]; rfl) | rw [rl_u_n (by first | with_reducible assumption | omega)]), by repeat (first | with_reducible assumption | (rw [rl_u_s]; done) | (rw [rl_u_s]; rfl) | rw [rl_u_n (by first | with_reducible assumption | omega)]), by repeat (first | with_reducible assumption | (rw [rl_u_s]; done) | (rw [rl_u_s]; rfl) | rw [rl_u_n (by first | with_reducible assumption | omega)])⟩, ⟨hsc, hsc4⟩, hwf, ⟨hrr, hr36⟩, ⟨hnc, hn16⟩, hnw, e1.symm, hnv, hwv, ⟨wrc, hrc6, hrc⟩⟩, rfl, rfl, fun q a b => by repeat (first | rfl | rw [rl_u_n (by omega)])⟩), (by rw [e]; exact e2.symm), fun q hq => by repeat (first | rfl | rw [rl_u_n (by omega)])⟩)
            | exact absurd rfl c_71
            | exact absurd c_71 (by decide +kernel)
          · refine o_iconst (v := nI 0) hC dX8_drop_74 (by decide +kernel) ?_
            refine o_goto (tgt := 79) hC dX8_drop_75 (by decide) ?_
            refine o_iret hC hB dX8_drop_79 (Nat.le_of_ble_eq_true rfl) (Nat.le_of_ble_eq_true rfl) ?_
            first
            | (have e1 : dp_pr z.2.2.2.2.2 (nI r) (nI 1) = z.2.2.2.2.2 &&& ((1 : Int64) <<< ((nI r).toInt64 &&& 63) ^^^ (-1)) := if_neg (by decide +kernel); have e : sh_drop z (nI r) (nI 1) = (if dp_pr z.2.2.2.2.2 (nI r) (nI 1) = z.2.2.2.2.2 then nI 0 else nI 1, (z.1, z.2.1, z.2.2.1, z.2.2.2.1, z.2.2.2.2.1, dp_pr z.2.2.2.2.2 (nI r) (nI 1))) := (if_neg (fun e => e.elim c_6 (fun e => absurd c_14 (Int32.not_lt.mpr e)))); have e2 : (if dp_pr z.2.2.2.2.2 (nI r) (nI 1) = z.2.2.2.2.2 then nI 0 else nI 1) = nI 0 := (by rw [e1]; exact md_drC r36 c_29); exact ⟨_, rfl, rfl, (by rw [e]; exact ⟨(nI 0, T.2.1, T.2.2.1, z.2.2.2.2.2 &&& ((1 : Int64) <<< ((nI r).toInt64 &&& 63) ^^^ (-1)), T.2.2.2.2), fu, k, S, ⟨⟨by repeat (first | with_reducible assumption | (rw [rl_u_s]; done) | (rw [rl_u_s]; rfl) | rw [rl_u_n (by first | with_reducible assumption | omega)]), gk, ⟨⟨cl, by repeat (first | with_reducible assumption | (rw [rl_u_s]; done) | (rw [rl_u_s]; rfl) | rw [rl_u_n (by first | with_reducible assumption | omega)])⟩, ⟨tu, by repeat (first | with_reducible assumption | (rw [rl_u_s]; done) | (rw [rl_u_s]; rfl) | rw [rl_u_n (by first | with_reducible assumption | omega)]), b13⟩, ⟨im, by repeat (first | with_reducible assumption | (rw [rl_u_s]; done) | (rw [rl_u_s]; rfl) | rw [rl_u_n (by first | with_reducible assumption | omega)])⟩, ⟨te, by repeat (first | with_reducible assumption | (rw [rl_u_s]; done) | (rw [rl_u_s]; rfl) | rw [rl_u_n (by first | with_reducible assumption | omega)]), b15⟩, ⟨ne, by repeat (first | with_reducible assumption | (rw [rl_u_s]; done) | (rw [rl_u_s]; rfl) | rw [rl_u_n (by first | with_reducible assumption | omega)])⟩, ⟨la, by repeat (first | with_reducible assumption | (rw [rl_u_s]; done) | (rw [rl_u_s]; rfl) | rw [rl_u_n (by first | with_reducible assumption | omega)])⟩, ⟨hn, by repeat (first | with_reducible assumption | (rw [rl_u_s]; done) | (rw [rl_u_s]; rfl) | rw [rl_u_n (by first | with_reducible assumption | omega)])⟩, ⟨hl, by repeat (first | with_reducible assumption | (rw [rl_u_s]; done) | (rw [rl_u_s]; rfl) | rw [rl_u_n (by first | with_reducible assumption | omega)])⟩, ⟨tp, by repeat (first | with_reducible assumption | (rw [rl_u_s]; done) | (rw [rl_u_s]; rfl) | rw [rl_u_n (by first | with_reducible assumption | omega)])⟩, ⟨gr, by repeat (first | with_reducible assumption | (rw [rl_u_s]; done) | (rw [rl_u_s]; rfl) | rw [rl_u_n (by first | with_reducible assumption | omega)]), b21⟩, ⟨it, by repeat (first | with_reducible assumption | (rw [rl_u_s]; done) | (rw [rl_u_s]; rfl) | rw [rl_u_n (by first | with_reducible assumption | omega)])⟩⟩, fun _ _ _ => rfl⟩, ⟨by repeat (first | with_reducible assumption | (rw [rl_u_s]; done) | (rw [rl_u_s]; rfl) | rw [rl_u_n (by first | with_reducible assumption | omega)]), by repeat (first | with_reducible assumption | (rw [rl_u_s]; done) | (rw [rl_u_s]; rfl) | rw [rl_u_n (by first | with_reducible assumption | omega)]), by repeat (first | with_reducible assumption | (rw [rl_u_s]; done) | (rw [rl_u_s]; rfl) | rw [rl_u_n (by first | with_reducible assumption | omega)]), by repeat (first | with_reducible assumption | (rw [rl_u_s]; done) | (rw [rl_u_s]; rfl) | rw [rl_u_n (by first | with_reducible assumption | omega)]), by repeat (first | with_reducible assumption | (rw [rl_u_s]; done) | (rw [rl_u_s]; rfl) | rw [rl_u_n (by first | with_reducible assumption | omega)]), by repeat (first | with_reducible assumption | (rw [rl_u_s]; done) | (rw [rl_u_s]; rfl) | rw [rl_u_n (by first | with_reducible assumption | omega)]), by repeat (first | with_reducible assumption | (rw [rl_u_s]; done) | (rw [rl_u_s]; rfl) | rw [rl_u_n (by first | with_reducible assumption | omega)]), by repeat (first | with_reducible assumption | (rw [rl_u_s]; done) | (rw [rl_u_s]; rfl) | rw [rl_u_n (by first | with_reducible assumption | omega)]), by repeat (first | with_reducible assumption | (rw [rl_u_s]; done) | (rw [rl_u_s]; rfl) | rw [rl_u_n (by first | with_reducible assumption | omega)]), by repeat (first | with_reducible assumption | (rw [rl_u_s]; done) | (rw [rl_u_s]; rfl) | rw [rl_u_n (by first | with_reducible assumption | omega)]), by repeat (first | with_reducible assumption | (rw [rl_u_s]; done) | (rw [rl_u_s]; rfl) | rw [rl_u_n (by first | with_reducible assumption | omega)])⟩, ⟨hsc, hsc4⟩, hwf, ⟨hrr, hr36⟩, ⟨hnc, hn16⟩, hnw, e1.symm, hnv, hwv, ⟨wrc, hrc6, hrc⟩⟩, rfl, rfl, fun q a b => by repeat (first | rfl | rw [rl_u_n (by omega)])⟩), (by rw [e]; exact e2.symm), fun q hq => by repeat (first | rfl | rw [rl_u_n (by omega)])⟩)
            | (have e1 : dp_pr z.2.2.2.2.2 (nI r) (nI 1) = z.2.2.2.2.2 &&& ((1 : Int64) <<< ((nI r).toInt64 &&& 63) ^^^ (-1)) := if_neg (by decide +kernel); have e : sh_drop z (nI r) (nI 1) = (if dp_pr z.2.2.2.2.2 (nI r) (nI 1) = z.2.2.2.2.2 then nI 0 else nI 1, (z.1, z.2.1, z.2.2.1, z.2.2.2.1, z.2.2.2.2.1, dp_pr z.2.2.2.2.2 (nI r) (nI 1))) := (if_neg (fun e => e.elim c_6 (fun e => absurd c_14 (Int32.not_lt.mpr e)))); have e2 : (if dp_pr z.2.2.2.2.2 (nI r) (nI 1) = z.2.2.2.2.2 then nI 0 else nI 1) = nI 1 := (by rw [e1]; exact md_drD r36 c_29); exact ⟨_, rfl, rfl, (by rw [e]; exact ⟨(nI 0, T.2.1, T.2.2.1, z.2.2.2.2.2 &&& ((1 : Int64) <<< ((nI r).toInt64 &&& 63) ^^^ (-1)), T.2.2.2.2), fu, k, S, ⟨⟨by repeat (first | with_reducible assumption | (rw [rl_u_s]; done) | (rw [rl_u_s]; rfl) | rw [rl_u_n (by first | with_reducible assumption | omega)]), gk, ⟨⟨cl, by repeat (first | with_reducible assumption | (rw [rl_u_s]; done) | (rw [rl_u_s]; rfl) | rw [rl_u_n (by first | with_reducible assumption | omega)])⟩, ⟨tu, by repeat (first | with_reducible assumption | (rw [rl_u_s]; done) | (rw [rl_u_s]; rfl) | rw [rl_u_n (by first | with_reducible assumption | omega)]), b13⟩, ⟨im, by repeat (first | with_reducible assumption | (rw [rl_u_s]; done) | (rw [rl_u_s]; rfl) | rw [rl_u_n (by first | with_reducible assumption | omega)])⟩, ⟨te, by repeat (first | with_reducible assumption | (rw [rl_u_s]; done) | (rw [rl_u_s]; rfl) | rw [rl_u_n (by first | with_reducible assumption | omega)]), b15⟩, ⟨ne, by repeat (first | with_reducible assumption | (rw [rl_u_s]; done) | (rw [rl_u_s]; rfl) | rw [rl_u_n (by first | with_reducible assumption | omega)])⟩, ⟨la, by repeat (first | with_reducible assumption | (rw [rl_u_s]; done) | (rw [rl_u_s]; rfl) | rw [rl_u_n (by first | with_reducible assumption | omega)])⟩, ⟨hn, by repeat (first | with_reducible assumption | (rw [rl_u_s]; done) | (rw [rl_u_s]; rfl) | rw [rl_u_n (by first | with_reducible assumption | omega)])⟩, ⟨hl, by repeat (first | with_reducible assumption | (rw [rl_u_s]; done) | (rw [rl_u_s]; rfl) | rw [rl_u_n (by first | with_reducible assumption | omega)])⟩, ⟨tp, by repeat (first | with_reducible assumption | (rw [rl_u_s]; done) | (rw [rl_u_s]; rfl) | rw [rl_u_n (by first | with_reducible assumption | omega)])⟩, ⟨gr, by repeat (first | with_reducible assumption | (rw [rl_u_s]; done) | (rw [rl_u_s]; rfl) | rw [rl_u_n (by first | with_reducible assumption | omega)]), b21⟩, ⟨it, by repeat (first | with_reducible assumption | (rw [rl_u_s]; done) | (rw [rl_u_s]; rfl) | rw [rl_u_n (by first | with_reducible assumption | omega)])⟩⟩, fun _ _ _ => rfl⟩, ⟨by repeat (first | with_reducible assumption | (rw [rl_u_s]; done) | (rw [rl_u_s]; rfl) | rw [rl_u_n (by first | with_reducible assumption | omega)]), by repeat (first | with_reducible assumption | (rw [rl_u_s]; done) | (rw [rl_u_s]; rfl) | rw [rl_u_n (by first | with_reducible assumption | omega)]), by repeat (first | with_reducible assumption | (rw [rl_u_s]; done) | (rw [rl_u_s]; rfl) | rw [rl_u_n (by first | with_reducible assumption | omega)]), by repeat (first | with_reducible assumption | (rw [rl_u_s]; done) | (rw [rl_u_s]; rfl) | rw [rl_u_n (by first | with_reducible assumption | omega)]), by repeat (first | with_reducible assumption | (rw [rl_u_s]; done) | (rw [rl_u_s]; rfl) | rw [rl_u_n (by first | with_reducible assumption | omega)]), by repeat (first | with_reducible assumption | (rw [rl_u_s]; done) | (rw [rl_u_s]; rfl) | rw [rl_u_n (by first | with_reducible assumption | omega)]), by repeat (first | with_reducible assumption | (rw [rl_u_s]; done) | (rw [rl_u_s]; rfl) | rw [rl_u_n (by first | with_reducible assumption | omega)]), by repeat (first | with_reducible assumption | (rw [rl_u_s]; done) | (rw [rl_u_s]; rfl) | rw [rl_u_n (by first | with_reducible assumption | omega)]), by repeat (first | with_reducible assumption | (rw [rl_u_s]; done) | (rw [rl_u_s]; rfl) | rw [rl_u_n (by first | with_reducible assumption | omega)]), by repeat (first | with_reducible assumption | (rw [rl_u_s]; done) | (rw [rl_u_s]; rfl) | rw [rl_u_n (by first | with_reducible assumption | omega)]), by repeat (first | with_reducible assumption | (rw [rl_u_s]; done) | (rw [rl_u_s]; rfl) | rw [rl_u_n (by first | with_reducible assumption | omega)])⟩, ⟨hsc, hsc4⟩, hwf, ⟨hrr, hr36⟩, ⟨hnc, hn16⟩, hnw, e1.symm, hnv, hwv, ⟨wrc, hrc6, hrc⟩⟩, rfl, rfl, fun q a b => by repeat (first | rfl | rw [rl_u_n (by omega)])⟩), (by rw [e]; exact e2.symm), fun q hq => by repeat (first | rfl | rw [rl_u_n (by omega)])⟩)
            | exact absurd rfl c_71
            | exact absurd c_71 (by decide +kernel)
    · refine o_iconst (v := (-1 : Int32)) hC dX8_drop_17 (by decide +kernel) ?_
      refine o_iret hC hB dX8_drop_18 (Nat.le_of_ble_eq_true rfl) (Nat.le_of_ble_eq_true rfl) ?_
      first
      | (have e : sh_drop z q on = (-1, z) := if_pos (Or.inl c_6); exact ⟨_, rfl, rfl, (by rw [e]; exact ⟨_, _, _, S, hu.dp hq0 rfl rfl rfl rfl ⟨wrc, hrc6, hrc⟩, rfl, rfl, fun q a b => rl_u_n (by omega)⟩), (by rw [e]), hq0.fr⟩)
      | (have e : sh_drop z q on = (-1, z) := if_pos (Or.inr (Int32.not_lt.mp c_14)); exact ⟨_, rfl, rfl, (by rw [e]; exact ⟨_, _, _, S, hu.dp hq0 rfl rfl rfl rfl ⟨wrc, hrc6, hrc⟩, rfl, rfl, fun q a b => rl_u_n (by omega)⟩), (by rw [e]), hq0.fr⟩)

set_option maxHeartbeats 4000000 in
set_option maxRecDepth 100000 in
theorem cm_X8_scan (l : Launch) (D : va_G) (ids : Nat → ClassId) (H0 : Heap) (h : rl_H) (n : Nat) (m : Nat) (T : md_T) (fu : Int32) (k : Nat) (S : md_A) (z : sh_S) (q : Int32) (hu : md_un ids h m T fu k S z) : rl_Met l (rl_e D ids H0) rl_BW rl_Ns yX8_scan cX8_scan 2 (some .int) ({ frames := 1, cells := 0, slots := 0, locals := 28 }) [.ref m, .int q] h n (fun v h' n' => ∃ r : Int32, v = some (.int r) ∧ n' = n ∧ mdx ids h' m T (sh_scan z q).2 (fun S' => (S' = S ∧ (sh_scan z q).2 = z) ∨ ∃ w9 : Int32, S' = (S.1, S.2.1, S.2.2.1, upd S.2.2.2.1 z.2.2.2.1 (nI 0), upd S.2.2.2.2.1 z.2.2.2.1 q, upd S.2.2.2.2.2.1 z.2.2.2.1 (nI 0), upd S.2.2.2.2.2.2.1 z.2.2.2.1 (nI 0), upd S.2.2.2.2.2.2.2.1 z.2.2.2.1 (nI 0), upd S.2.2.2.2.2.2.2.2.1 z.2.2.2.1 (nI 0), upd S.2.2.2.2.2.2.2.2.2.1 z.2.2.2.1 (nI 0), upd S.2.2.2.2.2.2.2.2.2.2 z.2.2.2.1 w9) ∧ (sh_scan z q).2.2.2.2.1 = z.2.2.2.1 + 1) (∀ q : Nat, m + 12 ≤ q → q < m + 23 → h' q = h q) ∧ r = (sh_scan z q).1 ∧ rl_fr h h' m (m + 23)) := by
  obtain ⟨hq, hs, ⟨hsc, hsc4⟩, hwf, ⟨hrr, hr36⟩, ⟨hnc, hn16⟩, hnw, hpr, hnv, hwv, wrc, hrc6, hrc⟩ := id hu
  have hq0 := hq.ob (nI 0, T.2) fu k hq.2.1
  have g0 := hq.1
  obtain ⟨-, gk, ⟨⟨cl, g12⟩, ⟨tu, g13, b13⟩, ⟨im, g14⟩, ⟨te, g15, b15⟩, ⟨ne, g16⟩, ⟨la, g17⟩, ⟨hn, g18⟩, ⟨hl, g19⟩, ⟨tp, g20⟩, ⟨gr, g21, b21⟩, ⟨it, g22⟩⟩, gf⟩ := id hq
  obtain ⟨a1, a2, a3, a4, a5, a6, a7, a8, a9, a10, a11⟩ := id hs
  have hu0 : md_un ids _ m (nI 0, T.2) fu k S z := hu.dp hq0 rfl rfl rfl rfl ⟨wrc, hrc6, hrc⟩
  refine rl_Met.of (by decide +kernel) (Nat.le_of_ble_eq_true rfl) ?_
  intro X hC hB
  show rl_G X (rl_e D ids H0) 0 [some (.ref m), some (.int q)] [] h n 0 0
  refine o_aload_n hC dX8_scan_0 (by rfl) ?_
  refine o_iconst (v := nI 0) hC dX8_scan_1 (by decide +kernel) ?_
  refine o_putf hC (fX8_78 hC rfl) (fwX8 rfl rfl rfl (Or.inl rfl)) dX8_scan_2 (by repeat (first | with_reducible assumption | (rw [rl_u_s]; done) | (rw [rl_u_s]; rfl) | rw [rl_u_n (by first | with_reducible assumption | omega)])) (Nat.le_of_ble_eq_true rfl) ?_
  try simp only [List.set_cons_zero, List.set_cons_succ]
  refine o_iload_n hC dX8_scan_5 (by rfl) ?_
  refine o_if_lt (tgt := 17) hC dX8_scan_6 (by decide) (fun c_6 => ?_) (fun c_6 => ?_)
  · refine o_iconst (v := (-1 : Int32)) hC dX8_scan_17 (by decide +kernel) ?_
    refine o_iret hC hB dX8_scan_18 (Nat.le_of_ble_eq_true rfl) (Nat.le_of_ble_eq_true rfl) ?_
    first
    | (have e : sh_scan z q = (-1, z) := if_pos (Or.inl c_6); exact ⟨_, rfl, rfl, (by rw [e]; exact ⟨_, _, _, S, hu.dp hq0 rfl rfl rfl rfl ⟨wrc, hrc6, hrc⟩, rfl, Or.inl ⟨rfl, rfl⟩, fun q a b => rl_u_n (by omega)⟩), (by rw [e]), hq0.fr⟩)
    | (have e : sh_scan z q = (-1, z) := if_pos (Or.inr (Int32.not_lt.mp c_14)); exact ⟨_, rfl, rfl, (by rw [e]; exact ⟨_, _, _, S, hu.dp hq0 rfl rfl rfl rfl ⟨wrc, hrc6, hrc⟩, rfl, Or.inl ⟨rfl, rfl⟩, fun q a b => rl_u_n (by omega)⟩), (by rw [e]), hq0.fr⟩)
  · refine o_iload_n hC dX8_scan_9 (by rfl) ?_
    refine o_aload_n hC dX8_scan_10 (by rfl) ?_
    refine o_getf (v := .int (nI z.1)) hC (fX8_109 hC rfl) dX8_scan_11 (by repeat (first | with_reducible assumption | (rw [rl_u_s]; done) | (rw [rl_u_s]; rfl) | rw [rl_u_n (by first | with_reducible assumption | omega)])) (by rw [← hsc]; rfl) ?_
    refine o_icmp_lt (tgt := 19) hC dX8_scan_14 (by decide) (fun c_14 => ?_) (fun c_14 => ?_)
    · obtain ⟨j, hj, rfl⟩ := nI_of_lt (k := z.1) (by omega) c_6 (fun e => absurd c_14 (Int32.not_lt.mpr e))
      obtain ⟨w, w1, w2, w3⟩ := hwv j hj
      refine o_aload_n hC dX8_scan_19 (by rfl) ?_
      refine o_iconst (v := nI 0) hC dX8_scan_20 (by decide +kernel) ?_
      refine o_iload_n hC dX8_scan_21 (by rfl) ?_
      refine o_iconst (v := nI 0) hC dX8_scan_22 (by decide +kernel) ?_
      refine o_iconst (v := nI 0) hC dX8_scan_23 (by decide +kernel) ?_
      refine o_iconst (v := nI 0) hC dX8_scan_24 (by decide +kernel) ?_
      refine o_iconst (v := nI 0) hC dX8_scan_25 (by decide +kernel) ?_
      refine o_iconst (v := nI 0) hC dX8_scan_26 (by decide +kernel) ?_
      refine o_aload_n hC dX8_scan_27 (by rfl) ?_
      refine o_getf hC (fX8_7 hC rfl) dX8_scan_28 (by repeat (first | with_reducible assumption | (rw [rl_u_s]; done) | (rw [rl_u_s]; rfl) | rw [rl_u_n (by first | with_reducible assumption | omega)])) (by first | rfl | with_reducible assumption) ?_
      refine o_iload_n hC dX8_scan_31 (by rfl) ?_
      refine o_ialdN (t0 := 0) (k := j) hC rfl dX8_scan_32 (by repeat (first | with_reducible assumption | (rw [rl_u_s]; done) | (rw [rl_u_s]; rfl) | rw [rl_u_n (by first | with_reducible assumption | omega)])) (by omega) (by decide) ?_
      rw [w3]
      refine o_callV8 hC rl_BW_good rl_Ns_nw (by exact hB.2.2.2.2.2) YX8_node IX8_node VX8_node (mX8_122 hC) (by rw [hB.1]; exact cm_X8_node l D ids H0 _ _ m _ _ _ S z _ _ _ _ _ _ _ _ hu0 (fun h16 => md_nv.new (op := 0) (w := w) (by decide) w1 (by omega) (fun q => absurd q (by decide)) (fun q => absurd q (by decide)) (fun q => absurd q (by decide)) (fun q => absurd q (by decide)) (fun q => absurd q (by decide)))) (by exact hu0.1.1) rfl rfl (Nat.le_of_ble_eq_true rfl) (by rw [hB.2.1]; first | exact Nat.le_of_ble_eq_true rfl | (dsimp only; omega)) (by rw [hB.2.1]; first | exact Nat.le_of_ble_eq_true rfl | (dsimp only; omega)) (by rw [hB.2.1]; first | exact Nat.le_of_ble_eq_true rfl | (dsimp only; omega)) (by rw [hB.2.1]; first | exact Nat.le_of_ble_eq_true rfl | (dsimp only; omega)) dX8_scan_33 (fun v h_33 n_33 p_33 => ?_)
      obtain ⟨r33, rfl, rfl, o1, o2, o3⟩ := p_33
      try dsimp only [Option.toList, List.cons_append, List.nil_append]
      refine o_iret hC hB dX8_scan_36 (Nat.le_of_ble_eq_true rfl) (Nat.le_of_ble_eq_true rfl) ?_
      (have e : sh_scan z (nI j) = sh_node z (nI w) := (if_neg (fun e => e.elim c_6 (fun e => absurd c_14 (Int32.not_lt.mpr e)))).trans (congrArg (sh_node z) (by rw [rl_cl (N := 4) (by omega) (by decide), ← hwf]; exact w3)); exact ⟨_, rfl, rfl, (by rw [e]; exact o1.im rfl (fun _ => id) (fun d9 q a b => (d9 q a b).trans (rl_u_n (by omega)))), (by rw [e]; exact o2), (fun q hq => (o3 q hq).trans (hq0.fr q hq))⟩)
    · refine o_iconst (v := (-1 : Int32)) hC dX8_scan_17 (by decide +kernel) ?_
      refine o_iret hC hB dX8_scan_18 (Nat.le_of_ble_eq_true rfl) (Nat.le_of_ble_eq_true rfl) ?_
      first
      | (have e : sh_scan z q = (-1, z) := if_pos (Or.inl c_6); exact ⟨_, rfl, rfl, (by rw [e]; exact ⟨_, _, _, S, hu.dp hq0 rfl rfl rfl rfl ⟨wrc, hrc6, hrc⟩, rfl, Or.inl ⟨rfl, rfl⟩, fun q a b => rl_u_n (by omega)⟩), (by rw [e]), hq0.fr⟩)
      | (have e : sh_scan z q = (-1, z) := if_pos (Or.inr (Int32.not_lt.mp c_14)); exact ⟨_, rfl, rfl, (by rw [e]; exact ⟨_, _, _, S, hu.dp hq0 rfl rfl rfl rfl ⟨wrc, hrc6, hrc⟩, rfl, Or.inl ⟨rfl, rfl⟩, fun q a b => rl_u_n (by omega)⟩), (by rw [e]), hq0.fr⟩)

set_option maxHeartbeats 4000000 in
set_option maxRecDepth 100000 in
theorem cm_X8_pick (l : Launch) (D : va_G) (ids : Nat → ClassId) (H0 : Heap) (h : rl_H) (n : Nat) (m : Nat) (T : md_T) (fu : Int32) (k : Nat) (S : md_A) (z : sh_S) (q kk sg ot vv : Int32) (hu : md_un ids h m T fu k S z) : rl_Met l (rl_e D ids H0) rl_BW rl_Ns yX8_pick cX8_pick 6 (some .int) ({ frames := 1, cells := 0, slots := 0, locals := 28 }) [.ref m, .int q, .int kk, .int sg, .int ot, .int vv] h n (fun v h' n' => ∃ r : Int32, v = some (.int r) ∧ n' = n ∧ mdx ids h' m T (sh_pick z q kk sg ot).2 (fun S' => (S' = S ∧ (sh_pick z q kk sg ot).2 = z) ∨ ∃ w9 : Int32, S' = (S.1, S.2.1, S.2.2.1, upd S.2.2.2.1 z.2.2.2.1 (nI 1), upd S.2.2.2.2.1 z.2.2.2.1 q, upd S.2.2.2.2.2.1 z.2.2.2.1 (nI 0), upd S.2.2.2.2.2.2.1 z.2.2.2.1 kk, upd S.2.2.2.2.2.2.2.1 z.2.2.2.1 sg, upd S.2.2.2.2.2.2.2.2.1 z.2.2.2.1 ot, upd S.2.2.2.2.2.2.2.2.2.1 z.2.2.2.1 vv, upd S.2.2.2.2.2.2.2.2.2.2 z.2.2.2.1 w9) ∧ (sh_pick z q kk sg ot).2.2.2.2.1 = z.2.2.2.1 + 1) (∀ q : Nat, m + 12 ≤ q → q < m + 23 → h' q = h q) ∧ r = (sh_pick z q kk sg ot).1 ∧ rl_fr h h' m (m + 23)) := by
  obtain ⟨hq, hs, ⟨hsc, hsc4⟩, hwf, ⟨hrr, hr36⟩, ⟨hnc, hn16⟩, hnw, hpr, hnv, hwv, wrc, hrc6, hrc⟩ := id hu
  have hq0 := hq.ob (nI 0, T.2) fu k hq.2.1
  have g0 := hq.1
  obtain ⟨-, gk, ⟨⟨cl, g12⟩, ⟨tu, g13, b13⟩, ⟨im, g14⟩, ⟨te, g15, b15⟩, ⟨ne, g16⟩, ⟨la, g17⟩, ⟨hn, g18⟩, ⟨hl, g19⟩, ⟨tp, g20⟩, ⟨gr, g21, b21⟩, ⟨it, g22⟩⟩, gf⟩ := id hq
  obtain ⟨a1, a2, a3, a4, a5, a6, a7, a8, a9, a10, a11⟩ := id hs
  have hu0 : md_un ids _ m (nI 0, T.2) fu k S z := hu.dp hq0 rfl rfl rfl rfl ⟨wrc, hrc6, hrc⟩
  refine rl_Met.of (by decide +kernel) (Nat.le_of_ble_eq_true rfl) ?_
  intro X hC hB
  show rl_G X (rl_e D ids H0) 0 [some (.ref m), some (.int q), some (.int kk), some (.int sg), some (.int ot), some (.int vv)] [] h n 0 0
  refine o_aload_n hC dX8_pick_0 (by rfl) ?_
  refine o_iconst (v := nI 0) hC dX8_pick_1 (by decide +kernel) ?_
  refine o_putf hC (fX8_78 hC rfl) (fwX8 rfl rfl rfl (Or.inl rfl)) dX8_pick_2 (by repeat (first | with_reducible assumption | (rw [rl_u_s]; done) | (rw [rl_u_s]; rfl) | rw [rl_u_n (by first | with_reducible assumption | omega)])) (Nat.le_of_ble_eq_true rfl) ?_
  try simp only [List.set_cons_zero, List.set_cons_succ]
  refine o_aload_n hC dX8_pick_5 (by rfl) ?_
  refine o_iload_n hC dX8_pick_6 (by rfl) ?_
  refine o_callV1 hC rl_BW_good rl_Ns_nw (by exact hB.2.2.2.2.2) YX8_isNode IX8_isNode VX8_isNode (mX8_126 hC) (by rw [hB.1]; exact cm_X8_isNode l D ids H0 _ _ m _ _ _ S z _ hu0) (by exact hu0.1.1) rfl rfl (Nat.le_of_ble_eq_true rfl) (by rw [hB.2.1]; first | exact Nat.le_of_ble_eq_true rfl | (dsimp only; omega)) (by rw [hB.2.1]; first | exact Nat.le_of_ble_eq_true rfl | (dsimp only; omega)) (by rw [hB.2.1]; first | exact Nat.le_of_ble_eq_true rfl | (dsimp only; omega)) (by rw [hB.2.1]; first | exact Nat.le_of_ble_eq_true rfl | (dsimp only; omega)) dX8_pick_7 (fun v h_7 n_7 p_7 => ?_)
  obtain ⟨z7, rfl, rfl, rfl, hz7⟩ := p_7
  try dsimp only [Option.toList, List.cons_append, List.nil_append]
  refine o_if_eq (tgt := 38) hC dX8_pick_10 (by decide) (fun c_10 => ?_) (fun c_10 => ?_)
  · refine o_iconst (v := (-1 : Int32)) hC dX8_pick_38 (by decide +kernel) ?_
    refine o_iret hC hB dX8_pick_39 (Nat.le_of_ble_eq_true rfl) (Nat.le_of_ble_eq_true rfl) ?_
    first
    | (have e : sh_pick z q kk sg ot = (-1, z) := if_pos (Or.inl (Or.inl (hz7.elim (fun a => a.2) (fun a => absurd (c_10.symm.trans a.1) (by decide +kernel))))); exact ⟨_, rfl, rfl, (by rw [e]; exact ⟨_, _, _, S, hu.dp hq0 rfl rfl rfl rfl ⟨wrc, hrc6, hrc⟩, rfl, Or.inl ⟨rfl, rfl⟩, fun q a b => rl_u_n (by omega)⟩), (by rw [e]), hq0.fr⟩)
    | (have e : sh_pick z (nI j) kk sg ot = (-1, z) := if_pos (Or.inl (hz16.elim (fun a => a.2) (fun a => absurd (c_19.symm.trans a.1) (by decide +kernel)))); exact ⟨_, rfl, rfl, (by rw [e]; exact ⟨_, _, _, S, hu.dp hq0 rfl rfl rfl rfl ⟨wrc, hrc6, hrc⟩, rfl, Or.inl ⟨rfl, rfl⟩, fun q a b => rl_u_n (by omega)⟩), (by rw [e]), hq0.fr⟩)
    | (have e : sh_pick z (nI j) kk sg ot = (-1, z) := if_pos (Or.inr ⟨c_25, (hz32.elim (fun a => a.2) (fun a => absurd (c_35.symm.trans a.1) (by decide +kernel)))⟩); exact ⟨_, rfl, rfl, (by rw [e]; exact ⟨_, _, _, S, hu.dp hq0 rfl rfl rfl rfl ⟨wrc, hrc6, hrc⟩, rfl, Or.inl ⟨rfl, rfl⟩, fun q a b => rl_u_n (by omega)⟩), (by rw [e]), hq0.fr⟩)
  · have nn : ¬ sh_nn z q := (hz7.elim (fun a => absurd a.1 c_10) (fun a => a.2))
    obtain ⟨j, w, hj, hj16, rfl, w1, w2, w3, w4⟩ := hu.nd nn
    refine o_aload_n hC dX8_pick_13 (by rfl) ?_
    refine o_iload_n hC dX8_pick_14 (by rfl) ?_
    refine o_iload_n hC dX8_pick_15 (by rfl) ?_
    refine o_callV2 hC rl_BW_good rl_Ns_nw (by exact hB.2.2.2.2.2) YX8_isColumn IX8_isColumn VX8_isColumn (mX8_129 hC) (by rw [hB.1]; exact cm_X8_isColumn l D ids H0 _ _ m _ _ _ S z j _ hu0 hj16) (by exact hu0.1.1) rfl rfl (Nat.le_of_ble_eq_true rfl) (by rw [hB.2.1]; first | exact Nat.le_of_ble_eq_true rfl | (dsimp only; omega)) (by rw [hB.2.1]; first | exact Nat.le_of_ble_eq_true rfl | (dsimp only; omega)) (by rw [hB.2.1]; first | exact Nat.le_of_ble_eq_true rfl | (dsimp only; omega)) (by rw [hB.2.1]; first | exact Nat.le_of_ble_eq_true rfl | (dsimp only; omega)) dX8_pick_16 (fun v h_16 n_16 p_16 => ?_)
    obtain ⟨z16, rfl, rfl, rfl, hz16⟩ := p_16
    replace hz16 := md_nkz nn (w4.trans w3.symm) hz16
    try dsimp only [Option.toList, List.cons_append, List.nil_append]
    refine o_if_eq (tgt := 38) hC dX8_pick_19 (by decide) (fun c_19 => ?_) (fun c_19 => ?_)
    · refine o_iconst (v := (-1 : Int32)) hC dX8_pick_38 (by decide +kernel) ?_
      refine o_iret hC hB dX8_pick_39 (Nat.le_of_ble_eq_true rfl) (Nat.le_of_ble_eq_true rfl) ?_
      first
      | (have e : sh_pick z q kk sg ot = (-1, z) := if_pos (Or.inl (Or.inl (hz7.elim (fun a => a.2) (fun a => absurd (c_10.symm.trans a.1) (by decide +kernel))))); exact ⟨_, rfl, rfl, (by rw [e]; exact ⟨_, _, _, S, hu.dp hq0 rfl rfl rfl rfl ⟨wrc, hrc6, hrc⟩, rfl, Or.inl ⟨rfl, rfl⟩, fun q a b => rl_u_n (by omega)⟩), (by rw [e]), hq0.fr⟩)
      | (have e : sh_pick z (nI j) kk sg ot = (-1, z) := if_pos (Or.inl (hz16.elim (fun a => a.2) (fun a => absurd (c_19.symm.trans a.1) (by decide +kernel)))); exact ⟨_, rfl, rfl, (by rw [e]; exact ⟨_, _, _, S, hu.dp hq0 rfl rfl rfl rfl ⟨wrc, hrc6, hrc⟩, rfl, Or.inl ⟨rfl, rfl⟩, fun q a b => rl_u_n (by omega)⟩), (by rw [e]), hq0.fr⟩)
      | (have e : sh_pick z (nI j) kk sg ot = (-1, z) := if_pos (Or.inr ⟨c_25, (hz32.elim (fun a => a.2) (fun a => absurd (c_35.symm.trans a.1) (by decide +kernel)))⟩); exact ⟨_, rfl, rfl, (by rw [e]; exact ⟨_, _, _, S, hu.dp hq0 rfl rfl rfl rfl ⟨wrc, hrc6, hrc⟩, rfl, Or.inl ⟨rfl, rfl⟩, fun q a b => rl_u_n (by omega)⟩), (by rw [e]), hq0.fr⟩)
    · refine o_iload hC dX8_pick_22 (by rfl) ?_
      refine o_iconst (v := (-1 : Int32)) hC dX8_pick_24 (by decide +kernel) ?_
      refine o_icmp_eq (tgt := 40) hC dX8_pick_25 (by decide) (fun c_25 => ?_) (fun c_25 => ?_)
      · have nk : ¬ (sh_nk z (nI j) kk ∨ (ot ≠ -1 ∧ sh_nk z (nI j) ot)) := by
          first
          | exact fun w => w.elim (hz16.elim (fun a => absurd a.1 c_19) (fun a => a.2)) (fun w => w.1 c_25)
          | exact fun w => w.elim (hz16.elim (fun a => absurd a.1 c_19) (fun a => a.2)) (fun w => (hz32.elim (fun a => absurd a.1 c_35) (fun a => a.2)) w.2)
        refine o_iload_n hC dX8_pick_40 (by rfl) ?_
        refine o_if_lt (tgt := 49) hC dX8_pick_41 (by decide) (fun c_41 => ?_) (fun c_41 => ?_)
        · refine o_bipush (v := (-2 : Int32)) hC dX8_pick_49 (by decide +kernel) ?_
          refine o_iret hC hB dX8_pick_51 (Nat.le_of_ble_eq_true rfl) (Nat.le_of_ble_eq_true rfl) ?_
          first
          | (have e : sh_pick z (nI j) kk sg ot = (-2, z) := (if_neg nk).trans (if_pos (Or.inl c_41)); exact ⟨_, rfl, rfl, (by rw [e]; exact ⟨_, _, _, S, hu.dp hq0 rfl rfl rfl rfl ⟨wrc, hrc6, hrc⟩, rfl, Or.inl ⟨rfl, rfl⟩, fun q a b => rl_u_n (by omega)⟩), (by rw [e]), hq0.fr⟩)
          | (have e : sh_pick z (nI j) kk sg ot = (-2, z) := (if_neg nk).trans (if_pos (Or.inr c_46)); exact ⟨_, rfl, rfl, (by rw [e]; exact ⟨_, _, _, S, hu.dp hq0 rfl rfl rfl rfl ⟨wrc, hrc6, hrc⟩, rfl, Or.inl ⟨rfl, rfl⟩, fun q a b => rl_u_n (by omega)⟩), (by rw [e]), hq0.fr⟩)
        · refine o_iload_n hC dX8_pick_44 (by rfl) ?_
          refine o_iconst (v := nI 2) hC dX8_pick_45 (by decide +kernel) ?_
          refine o_icmp_le (tgt := 52) hC dX8_pick_46 (by decide) (fun c_46 => ?_) (fun c_46 => ?_)
          · obtain ⟨c9, hc9, rfl⟩ := md_co w4 w2 (fun w => nk (Or.inl w))
            have hot : ot = -1 ∨ ∃ c5 : Nat, c5 < 6 ∧ ot = nI c5 := by
              by_cases eo : ot = -1
              · exact Or.inl eo
              · exact Or.inr (md_co w4 w2 (fun w => nk (Or.inr ⟨eo, w⟩)))
            refine o_aload_n hC dX8_pick_52 (by rfl) ?_
            refine o_iconst (v := nI 1) hC dX8_pick_53 (by decide +kernel) ?_
            refine o_iload_n hC dX8_pick_54 (by rfl) ?_
            refine o_iconst (v := nI 0) hC dX8_pick_55 (by decide +kernel) ?_
            refine o_iload_n hC dX8_pick_56 (by rfl) ?_
            refine o_iload_n hC dX8_pick_57 (by rfl) ?_
            refine o_iload hC dX8_pick_58 (by rfl) ?_
            refine o_iload hC dX8_pick_60 (by rfl) ?_
            refine o_aload_n hC dX8_pick_62 (by rfl) ?_
            refine o_getf hC (fX8_40 hC rfl) dX8_pick_63 (by repeat (first | with_reducible assumption | (rw [rl_u_s]; done) | (rw [rl_u_s]; rfl) | rw [rl_u_n (by first | with_reducible assumption | omega)])) (by first | rfl | with_reducible assumption) ?_
            refine o_iload_n hC dX8_pick_66 (by rfl) ?_
            refine o_ialdN (t0 := 0) (k := j) hC rfl dX8_pick_67 (by repeat (first | with_reducible assumption | (rw [rl_u_s]; done) | (rw [rl_u_s]; rfl) | rw [rl_u_n (by first | with_reducible assumption | omega)])) (by omega) (by decide) ?_
            rw [w3]
            refine o_callV8 hC rl_BW_good rl_Ns_nw (by exact hB.2.2.2.2.2) YX8_node IX8_node VX8_node (mX8_122 hC) (by rw [hB.1]; exact cm_X8_node l D ids H0 _ _ m _ _ _ S z _ _ _ _ _ _ _ _ hu0 (fun h16 => md_nv.new (op := 1) (w := w) (by decide) w1 w2 (fun _ => ⟨j, w, hj, w2, rfl, w3, fun q => absurd q (by decide)⟩) (fun _ => ⟨c9, hc9, rfl⟩) (fun _ => hot) (fun q => absurd q (by decide)) (fun q => absurd q (by decide)))) (by exact hu0.1.1) rfl rfl (Nat.le_of_ble_eq_true rfl) (by rw [hB.2.1]; first | exact Nat.le_of_ble_eq_true rfl | (dsimp only; omega)) (by rw [hB.2.1]; first | exact Nat.le_of_ble_eq_true rfl | (dsimp only; omega)) (by rw [hB.2.1]; first | exact Nat.le_of_ble_eq_true rfl | (dsimp only; omega)) (by rw [hB.2.1]; first | exact Nat.le_of_ble_eq_true rfl | (dsimp only; omega)) dX8_pick_68 (fun v h_68 n_68 p_68 => ?_)
            obtain ⟨r68, rfl, rfl, o1, o2, o3⟩ := p_68
            try dsimp only [Option.toList, List.cons_append, List.nil_append]
            refine o_iret hC hB dX8_pick_71 (Nat.le_of_ble_eq_true rfl) (Nat.le_of_ble_eq_true rfl) ?_
            (have e : sh_pick z (nI j) (nI c9) sg ot = sh_node z (nI w) := ((if_neg nk).trans (if_neg (fun w => w.elim c_41 (fun w => w c_46)))).trans (congrArg (sh_node z) w4); exact ⟨_, rfl, rfl, (by rw [e]; exact o1.im rfl (fun _ => id) (fun d9 q a b => (d9 q a b).trans (rl_u_n (by omega)))), (by rw [e]; exact o2), (fun q hq => (o3 q hq).trans (hq0.fr q hq))⟩)
          · refine o_bipush (v := (-2 : Int32)) hC dX8_pick_49 (by decide +kernel) ?_
            refine o_iret hC hB dX8_pick_51 (Nat.le_of_ble_eq_true rfl) (Nat.le_of_ble_eq_true rfl) ?_
            first
            | (have e : sh_pick z (nI j) kk sg ot = (-2, z) := (if_neg nk).trans (if_pos (Or.inl c_41)); exact ⟨_, rfl, rfl, (by rw [e]; exact ⟨_, _, _, S, hu.dp hq0 rfl rfl rfl rfl ⟨wrc, hrc6, hrc⟩, rfl, Or.inl ⟨rfl, rfl⟩, fun q a b => rl_u_n (by omega)⟩), (by rw [e]), hq0.fr⟩)
            | (have e : sh_pick z (nI j) kk sg ot = (-2, z) := (if_neg nk).trans (if_pos (Or.inr c_46)); exact ⟨_, rfl, rfl, (by rw [e]; exact ⟨_, _, _, S, hu.dp hq0 rfl rfl rfl rfl ⟨wrc, hrc6, hrc⟩, rfl, Or.inl ⟨rfl, rfl⟩, fun q a b => rl_u_n (by omega)⟩), (by rw [e]), hq0.fr⟩)
      · refine o_aload_n hC dX8_pick_28 (by rfl) ?_
        refine o_iload_n hC dX8_pick_29 (by rfl) ?_
        refine o_iload hC dX8_pick_30 (by rfl) ?_
        refine o_callV2 hC rl_BW_good rl_Ns_nw (by exact hB.2.2.2.2.2) YX8_isColumn IX8_isColumn VX8_isColumn (mX8_129 hC) (by rw [hB.1]; exact cm_X8_isColumn l D ids H0 _ _ m _ _ _ S z j _ hu0 hj16) (by exact hu0.1.1) rfl rfl (Nat.le_of_ble_eq_true rfl) (by rw [hB.2.1]; first | exact Nat.le_of_ble_eq_true rfl | (dsimp only; omega)) (by rw [hB.2.1]; first | exact Nat.le_of_ble_eq_true rfl | (dsimp only; omega)) (by rw [hB.2.1]; first | exact Nat.le_of_ble_eq_true rfl | (dsimp only; omega)) (by rw [hB.2.1]; first | exact Nat.le_of_ble_eq_true rfl | (dsimp only; omega)) dX8_pick_32 (fun v h_32 n_32 p_32 => ?_)
        obtain ⟨z32, rfl, rfl, rfl, hz32⟩ := p_32
        replace hz32 := md_nkz nn (w4.trans w3.symm) hz32
        try dsimp only [Option.toList, List.cons_append, List.nil_append]
        refine o_if_ne (tgt := 40) hC dX8_pick_35 (by decide) (fun c_35 => ?_) (fun c_35 => ?_)
        · have nk : ¬ (sh_nk z (nI j) kk ∨ (ot ≠ -1 ∧ sh_nk z (nI j) ot)) := by
            first
            | exact fun w => w.elim (hz16.elim (fun a => absurd a.1 c_19) (fun a => a.2)) (fun w => w.1 c_25)
            | exact fun w => w.elim (hz16.elim (fun a => absurd a.1 c_19) (fun a => a.2)) (fun w => (hz32.elim (fun a => absurd a.1 c_35) (fun a => a.2)) w.2)
          refine o_iload_n hC dX8_pick_40 (by rfl) ?_
          refine o_if_lt (tgt := 49) hC dX8_pick_41 (by decide) (fun c_41 => ?_) (fun c_41 => ?_)
          · refine o_bipush (v := (-2 : Int32)) hC dX8_pick_49 (by decide +kernel) ?_
            refine o_iret hC hB dX8_pick_51 (Nat.le_of_ble_eq_true rfl) (Nat.le_of_ble_eq_true rfl) ?_
            first
            | (have e : sh_pick z (nI j) kk sg ot = (-2, z) := (if_neg nk).trans (if_pos (Or.inl c_41)); exact ⟨_, rfl, rfl, (by rw [e]; exact ⟨_, _, _, S, hu.dp hq0 rfl rfl rfl rfl ⟨wrc, hrc6, hrc⟩, rfl, Or.inl ⟨rfl, rfl⟩, fun q a b => rl_u_n (by omega)⟩), (by rw [e]), hq0.fr⟩)
            | (have e : sh_pick z (nI j) kk sg ot = (-2, z) := (if_neg nk).trans (if_pos (Or.inr c_46)); exact ⟨_, rfl, rfl, (by rw [e]; exact ⟨_, _, _, S, hu.dp hq0 rfl rfl rfl rfl ⟨wrc, hrc6, hrc⟩, rfl, Or.inl ⟨rfl, rfl⟩, fun q a b => rl_u_n (by omega)⟩), (by rw [e]), hq0.fr⟩)
          · refine o_iload_n hC dX8_pick_44 (by rfl) ?_
            refine o_iconst (v := nI 2) hC dX8_pick_45 (by decide +kernel) ?_
            refine o_icmp_le (tgt := 52) hC dX8_pick_46 (by decide) (fun c_46 => ?_) (fun c_46 => ?_)
            · obtain ⟨c9, hc9, rfl⟩ := md_co w4 w2 (fun w => nk (Or.inl w))
              have hot : ot = -1 ∨ ∃ c5 : Nat, c5 < 6 ∧ ot = nI c5 := by
                by_cases eo : ot = -1
                · exact Or.inl eo
                · exact Or.inr (md_co w4 w2 (fun w => nk (Or.inr ⟨eo, w⟩)))
              refine o_aload_n hC dX8_pick_52 (by rfl) ?_
              refine o_iconst (v := nI 1) hC dX8_pick_53 (by decide +kernel) ?_
              refine o_iload_n hC dX8_pick_54 (by rfl) ?_
              refine o_iconst (v := nI 0) hC dX8_pick_55 (by decide +kernel) ?_
              refine o_iload_n hC dX8_pick_56 (by rfl) ?_
              refine o_iload_n hC dX8_pick_57 (by rfl) ?_
              refine o_iload hC dX8_pick_58 (by rfl) ?_
              refine o_iload hC dX8_pick_60 (by rfl) ?_
              refine o_aload_n hC dX8_pick_62 (by rfl) ?_
              refine o_getf hC (fX8_40 hC rfl) dX8_pick_63 (by repeat (first | with_reducible assumption | (rw [rl_u_s]; done) | (rw [rl_u_s]; rfl) | rw [rl_u_n (by first | with_reducible assumption | omega)])) (by first | rfl | with_reducible assumption) ?_
              refine o_iload_n hC dX8_pick_66 (by rfl) ?_
              refine o_ialdN (t0 := 0) (k := j) hC rfl dX8_pick_67 (by repeat (first | with_reducible assumption | (rw [rl_u_s]; done) | (rw [rl_u_s]; rfl) | rw [rl_u_n (by first | with_reducible assumption | omega)])) (by omega) (by decide) ?_
              rw [w3]
              refine o_callV8 hC rl_BW_good rl_Ns_nw (by exact hB.2.2.2.2.2) YX8_node IX8_node VX8_node (mX8_122 hC) (by rw [hB.1]; exact cm_X8_node l D ids H0 _ _ m _ _ _ S z _ _ _ _ _ _ _ _ hu0 (fun h16 => md_nv.new (op := 1) (w := w) (by decide) w1 w2 (fun _ => ⟨j, w, hj, w2, rfl, w3, fun q => absurd q (by decide)⟩) (fun _ => ⟨c9, hc9, rfl⟩) (fun _ => hot) (fun q => absurd q (by decide)) (fun q => absurd q (by decide)))) (by exact hu0.1.1) rfl rfl (Nat.le_of_ble_eq_true rfl) (by rw [hB.2.1]; first | exact Nat.le_of_ble_eq_true rfl | (dsimp only; omega)) (by rw [hB.2.1]; first | exact Nat.le_of_ble_eq_true rfl | (dsimp only; omega)) (by rw [hB.2.1]; first | exact Nat.le_of_ble_eq_true rfl | (dsimp only; omega)) (by rw [hB.2.1]; first | exact Nat.le_of_ble_eq_true rfl | (dsimp only; omega)) dX8_pick_68 (fun v h_68 n_68 p_68 => ?_)
              obtain ⟨r68, rfl, rfl, o1, o2, o3⟩ := p_68
              try dsimp only [Option.toList, List.cons_append, List.nil_append]
              refine o_iret hC hB dX8_pick_71 (Nat.le_of_ble_eq_true rfl) (Nat.le_of_ble_eq_true rfl) ?_
              (have e : sh_pick z (nI j) (nI c9) sg ot = sh_node z (nI w) := ((if_neg nk).trans (if_neg (fun w => w.elim c_41 (fun w => w c_46)))).trans (congrArg (sh_node z) w4); exact ⟨_, rfl, rfl, (by rw [e]; exact o1.im rfl (fun _ => id) (fun d9 q a b => (d9 q a b).trans (rl_u_n (by omega)))), (by rw [e]; exact o2), (fun q hq => (o3 q hq).trans (hq0.fr q hq))⟩)
            · refine o_bipush (v := (-2 : Int32)) hC dX8_pick_49 (by decide +kernel) ?_
              refine o_iret hC hB dX8_pick_51 (Nat.le_of_ble_eq_true rfl) (Nat.le_of_ble_eq_true rfl) ?_
              first
              | (have e : sh_pick z (nI j) kk sg ot = (-2, z) := (if_neg nk).trans (if_pos (Or.inl c_41)); exact ⟨_, rfl, rfl, (by rw [e]; exact ⟨_, _, _, S, hu.dp hq0 rfl rfl rfl rfl ⟨wrc, hrc6, hrc⟩, rfl, Or.inl ⟨rfl, rfl⟩, fun q a b => rl_u_n (by omega)⟩), (by rw [e]), hq0.fr⟩)
              | (have e : sh_pick z (nI j) kk sg ot = (-2, z) := (if_neg nk).trans (if_pos (Or.inr c_46)); exact ⟨_, rfl, rfl, (by rw [e]; exact ⟨_, _, _, S, hu.dp hq0 rfl rfl rfl rfl ⟨wrc, hrc6, hrc⟩, rfl, Or.inl ⟨rfl, rfl⟩, fun q a b => rl_u_n (by omega)⟩), (by rw [e]), hq0.fr⟩)
        · refine o_iconst (v := (-1 : Int32)) hC dX8_pick_38 (by decide +kernel) ?_
          refine o_iret hC hB dX8_pick_39 (Nat.le_of_ble_eq_true rfl) (Nat.le_of_ble_eq_true rfl) ?_
          first
          | (have e : sh_pick z q kk sg ot = (-1, z) := if_pos (Or.inl (Or.inl (hz7.elim (fun a => a.2) (fun a => absurd (c_10.symm.trans a.1) (by decide +kernel))))); exact ⟨_, rfl, rfl, (by rw [e]; exact ⟨_, _, _, S, hu.dp hq0 rfl rfl rfl rfl ⟨wrc, hrc6, hrc⟩, rfl, Or.inl ⟨rfl, rfl⟩, fun q a b => rl_u_n (by omega)⟩), (by rw [e]), hq0.fr⟩)
          | (have e : sh_pick z (nI j) kk sg ot = (-1, z) := if_pos (Or.inl (hz16.elim (fun a => a.2) (fun a => absurd (c_19.symm.trans a.1) (by decide +kernel)))); exact ⟨_, rfl, rfl, (by rw [e]; exact ⟨_, _, _, S, hu.dp hq0 rfl rfl rfl rfl ⟨wrc, hrc6, hrc⟩, rfl, Or.inl ⟨rfl, rfl⟩, fun q a b => rl_u_n (by omega)⟩), (by rw [e]), hq0.fr⟩)
          | (have e : sh_pick z (nI j) kk sg ot = (-1, z) := if_pos (Or.inr ⟨c_25, (hz32.elim (fun a => a.2) (fun a => absurd (c_35.symm.trans a.1) (by decide +kernel)))⟩); exact ⟨_, rfl, rfl, (by rw [e]; exact ⟨_, _, _, S, hu.dp hq0 rfl rfl rfl rfl ⟨wrc, hrc6, hrc⟩, rfl, Or.inl ⟨rfl, rfl⟩, fun q a b => rl_u_n (by omega)⟩), (by rw [e]), hq0.fr⟩)

set_option maxHeartbeats 4000000 in
set_option maxRecDepth 100000 in
theorem cm_X8_join (l : Launch) (D : va_G) (ids : Nat → ClassId) (H0 : Heap) (h : rl_H) (n : Nat) (m : Nat) (T : md_T) (fu : Int32) (k : Nat) (S : md_A) (z : sh_S) (a b i jj : Int32) (hu : md_un ids h m T fu k S z) : rl_Met l (rl_e D ids H0) rl_BW rl_Ns yX8_join cX8_join 6 (some .int) ({ frames := 1, cells := 0, slots := 0, locals := 28 }) [.ref m, .int a, .int b, .int i, .int jj] h n (fun v h' n' => ∃ r : Int32, v = some (.int r) ∧ n' = n ∧ mdx ids h' m T (sh_join z a b i jj).2 (fun S' => (S' = S ∧ (sh_join z a b i jj).2 = z) ∨ ∃ w9 : Int32, S' = (S.1, S.2.1, S.2.2.1, upd S.2.2.2.1 z.2.2.2.1 (nI 3), upd S.2.2.2.2.1 z.2.2.2.1 a, upd S.2.2.2.2.2.1 z.2.2.2.1 b, upd S.2.2.2.2.2.2.1 z.2.2.2.1 i, upd S.2.2.2.2.2.2.2.1 z.2.2.2.1 jj, upd S.2.2.2.2.2.2.2.2.1 z.2.2.2.1 (nI 0), upd S.2.2.2.2.2.2.2.2.2.1 z.2.2.2.1 (nI 0), upd S.2.2.2.2.2.2.2.2.2.2 z.2.2.2.1 w9) ∧ (sh_join z a b i jj).2.2.2.2.1 = z.2.2.2.1 + 1) (∀ q : Nat, m + 12 ≤ q → q < m + 23 → h' q = h q) ∧ r = (sh_join z a b i jj).1 ∧ rl_fr h h' m (m + 23)) := by
  obtain ⟨hq, hs, ⟨hsc, hsc4⟩, hwf, ⟨hrr, hr36⟩, ⟨hnc, hn16⟩, hnw, hpr, hnv, hwv, wrc, hrc6, hrc⟩ := id hu
  have hq0 := hq.ob (nI 0, T.2) fu k hq.2.1
  have g0 := hq.1
  obtain ⟨-, gk, ⟨⟨cl, g12⟩, ⟨tu, g13, b13⟩, ⟨im, g14⟩, ⟨te, g15, b15⟩, ⟨ne, g16⟩, ⟨la, g17⟩, ⟨hn, g18⟩, ⟨hl, g19⟩, ⟨tp, g20⟩, ⟨gr, g21, b21⟩, ⟨it, g22⟩⟩, gf⟩ := id hq
  obtain ⟨a1, a2, a3, a4, a5, a6, a7, a8, a9, a10, a11⟩ := id hs
  have hu0 : md_un ids _ m (nI 0, T.2) fu k S z := hu.dp hq0 rfl rfl rfl rfl ⟨wrc, hrc6, hrc⟩
  refine rl_Met.of (by decide +kernel) (Nat.le_of_ble_eq_true rfl) ?_
  intro X hC hB
  show rl_G X (rl_e D ids H0) 0 [some (.ref m), some (.int a), some (.int b), some (.int i), some (.int jj), none] [] h n 0 0
  refine o_aload_n hC dX8_join_0 (by rfl) ?_
  refine o_iconst (v := nI 0) hC dX8_join_1 (by decide +kernel) ?_
  refine o_putf hC (fX8_78 hC rfl) (fwX8 rfl rfl rfl (Or.inl rfl)) dX8_join_2 (by repeat (first | with_reducible assumption | (rw [rl_u_s]; done) | (rw [rl_u_s]; rfl) | rw [rl_u_n (by first | with_reducible assumption | omega)])) (Nat.le_of_ble_eq_true rfl) ?_
  try simp only [List.set_cons_zero, List.set_cons_succ]
  refine o_aload_n hC dX8_join_5 (by rfl) ?_
  refine o_iload_n hC dX8_join_6 (by rfl) ?_
  refine o_callV1 hC rl_BW_good rl_Ns_nw (by exact hB.2.2.2.2.2) YX8_isNode IX8_isNode VX8_isNode (mX8_126 hC) (by rw [hB.1]; exact cm_X8_isNode l D ids H0 _ _ m _ _ _ S z _ hu0) (by exact hu0.1.1) rfl rfl (Nat.le_of_ble_eq_true rfl) (by rw [hB.2.1]; first | exact Nat.le_of_ble_eq_true rfl | (dsimp only; omega)) (by rw [hB.2.1]; first | exact Nat.le_of_ble_eq_true rfl | (dsimp only; omega)) (by rw [hB.2.1]; first | exact Nat.le_of_ble_eq_true rfl | (dsimp only; omega)) (by rw [hB.2.1]; first | exact Nat.le_of_ble_eq_true rfl | (dsimp only; omega)) dX8_join_7 (fun v h_7 n_7 p_7 => ?_)
  obtain ⟨z7, rfl, rfl, rfl, hz7⟩ := p_7
  try dsimp only [Option.toList, List.cons_append, List.nil_append]
  refine o_if_eq (tgt := 40) hC dX8_join_10 (by decide) (fun c_10 => ?_) (fun c_10 => ?_)
  · refine o_iconst (v := (-1 : Int32)) hC dX8_join_40 (by decide +kernel) ?_
    refine o_iret hC hB dX8_join_41 (Nat.le_of_ble_eq_true rfl) (Nat.le_of_ble_eq_true rfl) ?_
    first
    | (have e : sh_join z a b i jj = (-1, z) := if_pos (Or.inl (Or.inl (hz7.elim (fun a => a.2) (fun a => absurd (c_10.symm.trans a.1) (by decide +kernel))))); exact ⟨_, rfl, rfl, (by rw [e]; exact ⟨_, _, _, S, hu.dp hq0 rfl rfl rfl rfl ⟨wrc, hrc6, hrc⟩, rfl, Or.inl ⟨rfl, rfl⟩, fun q a b => rl_u_n (by omega)⟩), (by rw [e]), hq0.fr⟩)
    | (have e : sh_join z a b i jj = (-1, z) := if_pos (Or.inr (Or.inl (hz15.elim (fun a => a.2) (fun a => absurd (c_18.symm.trans a.1) (by decide +kernel))))); exact ⟨_, rfl, rfl, (by rw [e]; exact ⟨_, _, _, S, hu.dp hq0 rfl rfl rfl rfl ⟨wrc, hrc6, hrc⟩, rfl, Or.inl ⟨rfl, rfl⟩, fun q a b => rl_u_n (by omega)⟩), (by rw [e]), hq0.fr⟩)
    | (have e : sh_join z (nI ja) (nI jb) i jj = (-1, z) := if_pos (Or.inl (hz24.elim (fun a => a.2) (fun a => absurd (c_27.symm.trans a.1) (by decide +kernel)))); exact ⟨_, rfl, rfl, (by rw [e]; exact ⟨_, _, _, S, hu.dp hq0 rfl rfl rfl rfl ⟨wrc, hrc6, hrc⟩, rfl, Or.inl ⟨rfl, rfl⟩, fun q a b => rl_u_n (by omega)⟩), (by rw [e]), hq0.fr⟩)
    | (have e : sh_join z (nI ja) (nI jb) i jj = (-1, z) := if_pos (Or.inr (hz34.elim (fun a => a.2) (fun a => absurd (c_37.symm.trans a.1) (by decide +kernel)))); exact ⟨_, rfl, rfl, (by rw [e]; exact ⟨_, _, _, S, hu.dp hq0 rfl rfl rfl rfl ⟨wrc, hrc6, hrc⟩, rfl, Or.inl ⟨rfl, rfl⟩, fun q a b => rl_u_n (by omega)⟩), (by rw [e]), hq0.fr⟩)
  · refine o_aload_n hC dX8_join_13 (by rfl) ?_
    refine o_iload_n hC dX8_join_14 (by rfl) ?_
    refine o_callV1 hC rl_BW_good rl_Ns_nw (by exact hB.2.2.2.2.2) YX8_isNode IX8_isNode VX8_isNode (mX8_126 hC) (by rw [hB.1]; exact cm_X8_isNode l D ids H0 _ _ m _ _ _ S z _ hu0) (by exact hu0.1.1) rfl rfl (Nat.le_of_ble_eq_true rfl) (by rw [hB.2.1]; first | exact Nat.le_of_ble_eq_true rfl | (dsimp only; omega)) (by rw [hB.2.1]; first | exact Nat.le_of_ble_eq_true rfl | (dsimp only; omega)) (by rw [hB.2.1]; first | exact Nat.le_of_ble_eq_true rfl | (dsimp only; omega)) (by rw [hB.2.1]; first | exact Nat.le_of_ble_eq_true rfl | (dsimp only; omega)) dX8_join_15 (fun v h_15 n_15 p_15 => ?_)
    obtain ⟨z15, rfl, rfl, rfl, hz15⟩ := p_15
    try dsimp only [Option.toList, List.cons_append, List.nil_append]
    refine o_if_eq (tgt := 40) hC dX8_join_18 (by decide) (fun c_18 => ?_) (fun c_18 => ?_)
    · refine o_iconst (v := (-1 : Int32)) hC dX8_join_40 (by decide +kernel) ?_
      refine o_iret hC hB dX8_join_41 (Nat.le_of_ble_eq_true rfl) (Nat.le_of_ble_eq_true rfl) ?_
      first
      | (have e : sh_join z a b i jj = (-1, z) := if_pos (Or.inl (Or.inl (hz7.elim (fun a => a.2) (fun a => absurd (c_10.symm.trans a.1) (by decide +kernel))))); exact ⟨_, rfl, rfl, (by rw [e]; exact ⟨_, _, _, S, hu.dp hq0 rfl rfl rfl rfl ⟨wrc, hrc6, hrc⟩, rfl, Or.inl ⟨rfl, rfl⟩, fun q a b => rl_u_n (by omega)⟩), (by rw [e]), hq0.fr⟩)
      | (have e : sh_join z a b i jj = (-1, z) := if_pos (Or.inr (Or.inl (hz15.elim (fun a => a.2) (fun a => absurd (c_18.symm.trans a.1) (by decide +kernel))))); exact ⟨_, rfl, rfl, (by rw [e]; exact ⟨_, _, _, S, hu.dp hq0 rfl rfl rfl rfl ⟨wrc, hrc6, hrc⟩, rfl, Or.inl ⟨rfl, rfl⟩, fun q a b => rl_u_n (by omega)⟩), (by rw [e]), hq0.fr⟩)
      | (have e : sh_join z (nI ja) (nI jb) i jj = (-1, z) := if_pos (Or.inl (hz24.elim (fun a => a.2) (fun a => absurd (c_27.symm.trans a.1) (by decide +kernel)))); exact ⟨_, rfl, rfl, (by rw [e]; exact ⟨_, _, _, S, hu.dp hq0 rfl rfl rfl rfl ⟨wrc, hrc6, hrc⟩, rfl, Or.inl ⟨rfl, rfl⟩, fun q a b => rl_u_n (by omega)⟩), (by rw [e]), hq0.fr⟩)
      | (have e : sh_join z (nI ja) (nI jb) i jj = (-1, z) := if_pos (Or.inr (hz34.elim (fun a => a.2) (fun a => absurd (c_37.symm.trans a.1) (by decide +kernel)))); exact ⟨_, rfl, rfl, (by rw [e]; exact ⟨_, _, _, S, hu.dp hq0 rfl rfl rfl rfl ⟨wrc, hrc6, hrc⟩, rfl, Or.inl ⟨rfl, rfl⟩, fun q a b => rl_u_n (by omega)⟩), (by rw [e]), hq0.fr⟩)
    · have nna : ¬ sh_nn z a := (hz7.elim (fun a => absurd a.1 c_10) (fun a => a.2))
      obtain ⟨ja, wa, hja, hj16a, rfl, w1a, w2a, w3a, w4a⟩ := hu.nd nna
      have nnb : ¬ sh_nn z b := (hz15.elim (fun a => absurd a.1 c_18) (fun a => a.2))
      obtain ⟨jb, wb, hjb, hj16b, rfl, w1b, w2b, w3b, w4b⟩ := hu.nd nnb
      have ew : sh_w z (nI ja) + sh_w z (nI jb) = nI (wa + wb) := by rw [w4a, w4b, nI_add]
      refine o_aload_n hC dX8_join_21 (by rfl) ?_
      refine o_iload_n hC dX8_join_22 (by rfl) ?_
      refine o_iload_n hC dX8_join_23 (by rfl) ?_
      refine o_callV2 hC rl_BW_good rl_Ns_nw (by exact hB.2.2.2.2.2) YX8_isColumn IX8_isColumn VX8_isColumn (mX8_129 hC) (by rw [hB.1]; exact cm_X8_isColumn l D ids H0 _ _ m _ _ _ S z ja _ hu0 hj16a) (by exact hu0.1.1) rfl rfl (Nat.le_of_ble_eq_true rfl) (by rw [hB.2.1]; first | exact Nat.le_of_ble_eq_true rfl | (dsimp only; omega)) (by rw [hB.2.1]; first | exact Nat.le_of_ble_eq_true rfl | (dsimp only; omega)) (by rw [hB.2.1]; first | exact Nat.le_of_ble_eq_true rfl | (dsimp only; omega)) (by rw [hB.2.1]; first | exact Nat.le_of_ble_eq_true rfl | (dsimp only; omega)) dX8_join_24 (fun v h_24 n_24 p_24 => ?_)
      obtain ⟨z24, rfl, rfl, rfl, hz24⟩ := p_24
      replace hz24 := md_nkz nna (w4a.trans w3a.symm) hz24
      try dsimp only [Option.toList, List.cons_append, List.nil_append]
      refine o_if_eq (tgt := 40) hC dX8_join_27 (by decide) (fun c_27 => ?_) (fun c_27 => ?_)
      · refine o_iconst (v := (-1 : Int32)) hC dX8_join_40 (by decide +kernel) ?_
        refine o_iret hC hB dX8_join_41 (Nat.le_of_ble_eq_true rfl) (Nat.le_of_ble_eq_true rfl) ?_
        first
        | (have e : sh_join z a b i jj = (-1, z) := if_pos (Or.inl (Or.inl (hz7.elim (fun a => a.2) (fun a => absurd (c_10.symm.trans a.1) (by decide +kernel))))); exact ⟨_, rfl, rfl, (by rw [e]; exact ⟨_, _, _, S, hu.dp hq0 rfl rfl rfl rfl ⟨wrc, hrc6, hrc⟩, rfl, Or.inl ⟨rfl, rfl⟩, fun q a b => rl_u_n (by omega)⟩), (by rw [e]), hq0.fr⟩)
        | (have e : sh_join z a b i jj = (-1, z) := if_pos (Or.inr (Or.inl (hz15.elim (fun a => a.2) (fun a => absurd (c_18.symm.trans a.1) (by decide +kernel))))); exact ⟨_, rfl, rfl, (by rw [e]; exact ⟨_, _, _, S, hu.dp hq0 rfl rfl rfl rfl ⟨wrc, hrc6, hrc⟩, rfl, Or.inl ⟨rfl, rfl⟩, fun q a b => rl_u_n (by omega)⟩), (by rw [e]), hq0.fr⟩)
        | (have e : sh_join z (nI ja) (nI jb) i jj = (-1, z) := if_pos (Or.inl (hz24.elim (fun a => a.2) (fun a => absurd (c_27.symm.trans a.1) (by decide +kernel)))); exact ⟨_, rfl, rfl, (by rw [e]; exact ⟨_, _, _, S, hu.dp hq0 rfl rfl rfl rfl ⟨wrc, hrc6, hrc⟩, rfl, Or.inl ⟨rfl, rfl⟩, fun q a b => rl_u_n (by omega)⟩), (by rw [e]), hq0.fr⟩)
        | (have e : sh_join z (nI ja) (nI jb) i jj = (-1, z) := if_pos (Or.inr (hz34.elim (fun a => a.2) (fun a => absurd (c_37.symm.trans a.1) (by decide +kernel)))); exact ⟨_, rfl, rfl, (by rw [e]; exact ⟨_, _, _, S, hu.dp hq0 rfl rfl rfl rfl ⟨wrc, hrc6, hrc⟩, rfl, Or.inl ⟨rfl, rfl⟩, fun q a b => rl_u_n (by omega)⟩), (by rw [e]), hq0.fr⟩)
      · refine o_aload_n hC dX8_join_30 (by rfl) ?_
        refine o_iload_n hC dX8_join_31 (by rfl) ?_
        refine o_iload hC dX8_join_32 (by rfl) ?_
        refine o_callV2 hC rl_BW_good rl_Ns_nw (by exact hB.2.2.2.2.2) YX8_isColumn IX8_isColumn VX8_isColumn (mX8_129 hC) (by rw [hB.1]; exact cm_X8_isColumn l D ids H0 _ _ m _ _ _ S z jb _ hu0 hj16b) (by exact hu0.1.1) rfl rfl (Nat.le_of_ble_eq_true rfl) (by rw [hB.2.1]; first | exact Nat.le_of_ble_eq_true rfl | (dsimp only; omega)) (by rw [hB.2.1]; first | exact Nat.le_of_ble_eq_true rfl | (dsimp only; omega)) (by rw [hB.2.1]; first | exact Nat.le_of_ble_eq_true rfl | (dsimp only; omega)) (by rw [hB.2.1]; first | exact Nat.le_of_ble_eq_true rfl | (dsimp only; omega)) dX8_join_34 (fun v h_34 n_34 p_34 => ?_)
        obtain ⟨z34, rfl, rfl, rfl, hz34⟩ := p_34
        replace hz34 := md_nkz nnb (w4b.trans w3b.symm) hz34
        try dsimp only [Option.toList, List.cons_append, List.nil_append]
        refine o_if_ne (tgt := 42) hC dX8_join_37 (by decide) (fun c_37 => ?_) (fun c_37 => ?_)
        · have nk : ¬ (sh_nk z (nI ja) i ∨ sh_nk z (nI jb) jj) := fun w => w.elim (hz24.elim (fun a => absurd a.1 c_27) (fun a => a.2)) (hz34.elim (fun a => absurd a.1 c_37) (fun a => a.2))
          refine o_aload_n hC dX8_join_42 (by rfl) ?_
          refine o_getf hC (fX8_40 hC rfl) dX8_join_43 (by repeat (first | with_reducible assumption | (rw [rl_u_s]; done) | (rw [rl_u_s]; rfl) | rw [rl_u_n (by first | with_reducible assumption | omega)])) (by first | rfl | with_reducible assumption) ?_
          refine o_iload_n hC dX8_join_46 (by rfl) ?_
          refine o_ialdN (t0 := 0) (k := ja) hC rfl dX8_join_47 (by repeat (first | with_reducible assumption | (rw [rl_u_s]; done) | (rw [rl_u_s]; rfl) | rw [rl_u_n (by first | with_reducible assumption | omega)])) (by omega) (by decide) ?_
          rw [w3a]
          refine o_aload_n hC dX8_join_48 (by rfl) ?_
          refine o_getf hC (fX8_40 hC rfl) dX8_join_49 (by repeat (first | with_reducible assumption | (rw [rl_u_s]; done) | (rw [rl_u_s]; rfl) | rw [rl_u_n (by first | with_reducible assumption | omega)])) (by first | rfl | with_reducible assumption) ?_
          refine o_iload_n hC dX8_join_52 (by rfl) ?_
          refine o_ialdN (t0 := 0) (k := jb) hC rfl dX8_join_53 (by repeat (first | with_reducible assumption | (rw [rl_u_s]; done) | (rw [rl_u_s]; rfl) | rw [rl_u_n (by first | with_reducible assumption | omega)])) (by omega) (by decide) ?_
          rw [w3b]
          refine o_iadd hC dX8_join_54 ?_
          try rw [nI_add]
          refine o_istore hC dX8_join_55 (Nat.le_of_ble_eq_true rfl) ?_
          refine o_iload hC dX8_join_57 (by rfl) ?_
          refine o_bipush (v := nI 6) hC dX8_join_59 (by decide +kernel) ?_
          refine o_icmp_le (tgt := 69) hC dX8_join_61 (by decide) (fun c_61 => ?_) (fun c_61 => ?_)
          · obtain ⟨ci, hci, rfl⟩ := md_co w4a w2a (fun w => nk (Or.inl w))
            obtain ⟨cj, hcj, rfl⟩ := md_co w4b w2b (fun w => nk (Or.inr w))
            have hw6 : wa + wb ≤ 6 := (nI_leI (by omega) (by decide)).mp c_61
            refine o_aload_n hC dX8_join_69 (by rfl) ?_
            refine o_iconst (v := nI 3) hC dX8_join_70 (by decide +kernel) ?_
            refine o_iload_n hC dX8_join_71 (by rfl) ?_
            refine o_iload_n hC dX8_join_72 (by rfl) ?_
            refine o_iload_n hC dX8_join_73 (by rfl) ?_
            refine o_iload hC dX8_join_74 (by rfl) ?_
            refine o_iconst (v := nI 0) hC dX8_join_76 (by decide +kernel) ?_
            refine o_iconst (v := nI 0) hC dX8_join_77 (by decide +kernel) ?_
            refine o_iload hC dX8_join_78 (by rfl) ?_
            refine o_callV8 hC rl_BW_good rl_Ns_nw (by exact hB.2.2.2.2.2) YX8_node IX8_node VX8_node (mX8_122 hC) (by rw [hB.1]; exact cm_X8_node l D ids H0 _ _ m _ _ _ S z _ _ _ _ _ _ _ _ hu0 (fun h16 => md_nv.new (op := 3) (w := wa + wb) (by decide) (by omega) hw6 (fun _ => ⟨ja, wa, hja, w2a, rfl, w3a, fun _ => ⟨jb, wb, hjb, w2b, rfl, w3b, fun _ => hw6⟩⟩) (fun _ => ⟨ci, hci, rfl⟩) (fun q => absurd q (by decide)) (fun q => absurd q (by decide)) (fun _ => ⟨cj, hcj, rfl⟩))) (by exact hu0.1.1) rfl rfl (Nat.le_of_ble_eq_true rfl) (by rw [hB.2.1]; first | exact Nat.le_of_ble_eq_true rfl | (dsimp only; omega)) (by rw [hB.2.1]; first | exact Nat.le_of_ble_eq_true rfl | (dsimp only; omega)) (by rw [hB.2.1]; first | exact Nat.le_of_ble_eq_true rfl | (dsimp only; omega)) (by rw [hB.2.1]; first | exact Nat.le_of_ble_eq_true rfl | (dsimp only; omega)) dX8_join_80 (fun v h_80 n_80 p_80 => ?_)
            obtain ⟨r80, rfl, rfl, o1, o2, o3⟩ := p_80
            try dsimp only [Option.toList, List.cons_append, List.nil_append]
            refine o_iret hC hB dX8_join_83 (Nat.le_of_ble_eq_true rfl) (Nat.le_of_ble_eq_true rfl) ?_
            first
            | (have e : sh_join z (nI ja) (nI jb) i jj = (-2, z) := (if_neg nk).trans (if_pos (by rw [ew]; exact c_61)); exact ⟨_, rfl, rfl, (by rw [e]; exact ⟨_, _, _, S, hu.dp hq0 rfl rfl rfl rfl ⟨wrc, hrc6, hrc⟩, rfl, Or.inl ⟨rfl, rfl⟩, fun q a b => rl_u_n (by omega)⟩), (by rw [e]), hq0.fr⟩)
            | (have e : sh_join z (nI ja) (nI jb) (nI ci) (nI cj) = sh_node z (nI (wa + wb)) := ((if_neg nk).trans (if_neg (fun w => w (by rw [ew]; exact c_61)))).trans (congrArg (sh_node z) ew); exact ⟨_, rfl, rfl, (by rw [e]; exact o1.im rfl (fun _ => id) (fun d9 q a b => (d9 q a b).trans (rl_u_n (by omega)))), (by rw [e]; exact o2), (fun q hq => (o3 q hq).trans (hq0.fr q hq))⟩)
          · refine o_bipush (v := (-2 : Int32)) hC dX8_join_64 (by decide +kernel) ?_
            refine o_goto (tgt := 83) hC dX8_join_66 (by decide) ?_
            refine o_iret hC hB dX8_join_83 (Nat.le_of_ble_eq_true rfl) (Nat.le_of_ble_eq_true rfl) ?_
            first
            | (have e : sh_join z (nI ja) (nI jb) i jj = (-2, z) := (if_neg nk).trans (if_pos (by rw [ew]; exact c_61)); exact ⟨_, rfl, rfl, (by rw [e]; exact ⟨_, _, _, S, hu.dp hq0 rfl rfl rfl rfl ⟨wrc, hrc6, hrc⟩, rfl, Or.inl ⟨rfl, rfl⟩, fun q a b => rl_u_n (by omega)⟩), (by rw [e]), hq0.fr⟩)
            | (have e : sh_join z (nI ja) (nI jb) (nI ci) (nI cj) = sh_node z (nI (wa + wb)) := ((if_neg nk).trans (if_neg (fun w => w (by rw [ew]; exact c_61)))).trans (congrArg (sh_node z) ew); exact ⟨_, rfl, rfl, (by rw [e]; exact o1.im rfl (fun _ => id) (fun d9 q a b => (d9 q a b).trans (rl_u_n (by omega)))), (by rw [e]; exact o2), (fun q hq => (o3 q hq).trans (hq0.fr q hq))⟩)
        · refine o_iconst (v := (-1 : Int32)) hC dX8_join_40 (by decide +kernel) ?_
          refine o_iret hC hB dX8_join_41 (Nat.le_of_ble_eq_true rfl) (Nat.le_of_ble_eq_true rfl) ?_
          first
          | (have e : sh_join z a b i jj = (-1, z) := if_pos (Or.inl (Or.inl (hz7.elim (fun a => a.2) (fun a => absurd (c_10.symm.trans a.1) (by decide +kernel))))); exact ⟨_, rfl, rfl, (by rw [e]; exact ⟨_, _, _, S, hu.dp hq0 rfl rfl rfl rfl ⟨wrc, hrc6, hrc⟩, rfl, Or.inl ⟨rfl, rfl⟩, fun q a b => rl_u_n (by omega)⟩), (by rw [e]), hq0.fr⟩)
          | (have e : sh_join z a b i jj = (-1, z) := if_pos (Or.inr (Or.inl (hz15.elim (fun a => a.2) (fun a => absurd (c_18.symm.trans a.1) (by decide +kernel))))); exact ⟨_, rfl, rfl, (by rw [e]; exact ⟨_, _, _, S, hu.dp hq0 rfl rfl rfl rfl ⟨wrc, hrc6, hrc⟩, rfl, Or.inl ⟨rfl, rfl⟩, fun q a b => rl_u_n (by omega)⟩), (by rw [e]), hq0.fr⟩)
          | (have e : sh_join z (nI ja) (nI jb) i jj = (-1, z) := if_pos (Or.inl (hz24.elim (fun a => a.2) (fun a => absurd (c_27.symm.trans a.1) (by decide +kernel)))); exact ⟨_, rfl, rfl, (by rw [e]; exact ⟨_, _, _, S, hu.dp hq0 rfl rfl rfl rfl ⟨wrc, hrc6, hrc⟩, rfl, Or.inl ⟨rfl, rfl⟩, fun q a b => rl_u_n (by omega)⟩), (by rw [e]), hq0.fr⟩)
          | (have e : sh_join z (nI ja) (nI jb) i jj = (-1, z) := if_pos (Or.inr (hz34.elim (fun a => a.2) (fun a => absurd (c_37.symm.trans a.1) (by decide +kernel)))); exact ⟨_, rfl, rfl, (by rw [e]; exact ⟨_, _, _, S, hu.dp hq0 rfl rfl rfl rfl ⟨wrc, hrc6, hrc⟩, rfl, Or.inl ⟨rfl, rfl⟩, fun q a b => rl_u_n (by omega)⟩), (by rw [e]), hq0.fr⟩)

set_option maxHeartbeats 4000000 in
set_option maxRecDepth 100000 in
theorem cm_X8_pair (l : Launch) (D : va_G) (ids : Nat → ClassId) (H0 : Heap) (h : rl_H) (n : Nat) (m : Nat) (T : md_T) (fu : Int32) (k : Nat) (S : md_A) (z : sh_S) (op : Nat) (a b : Int32) (hu : md_un ids h m T fu k S z) (hop : op = 4 ∨ op = 5) : rl_Met l (rl_e D ids H0) rl_BW rl_Ns yX8_pair cX8_pair 4 (some .int) ({ frames := 1, cells := 0, slots := 0, locals := 28 }) [.ref m, .int (nI op), .int a, .int b] h n (fun v h' n' => ∃ r : Int32, v = some (.int r) ∧ n' = n ∧ mdx ids h' m T (sh_pair z a b).2 (fun S' => (S' = S ∧ (sh_pair z a b).2 = z) ∨ ∃ w9 : Int32, S' = (S.1, S.2.1, S.2.2.1, upd S.2.2.2.1 z.2.2.2.1 (nI op), upd S.2.2.2.2.1 z.2.2.2.1 a, upd S.2.2.2.2.2.1 z.2.2.2.1 b, upd S.2.2.2.2.2.2.1 z.2.2.2.1 (nI 0), upd S.2.2.2.2.2.2.2.1 z.2.2.2.1 (nI 0), upd S.2.2.2.2.2.2.2.2.1 z.2.2.2.1 (nI 0), upd S.2.2.2.2.2.2.2.2.2.1 z.2.2.2.1 (nI 0), upd S.2.2.2.2.2.2.2.2.2.2 z.2.2.2.1 w9) ∧ (sh_pair z a b).2.2.2.2.1 = z.2.2.2.1 + 1) (∀ q : Nat, m + 12 ≤ q → q < m + 23 → h' q = h q) ∧ r = (sh_pair z a b).1 ∧ rl_fr h h' m (m + 23)) := by
  obtain ⟨hq, hs, ⟨hsc, hsc4⟩, hwf, ⟨hrr, hr36⟩, ⟨hnc, hn16⟩, hnw, hpr, hnv, hwv, wrc, hrc6, hrc⟩ := id hu
  have g0 := hq.1
  obtain ⟨-, gk, ⟨⟨cl, g12⟩, ⟨tu, g13, b13⟩, ⟨im, g14⟩, ⟨te, g15, b15⟩, ⟨ne, g16⟩, ⟨la, g17⟩, ⟨hn, g18⟩, ⟨hl, g19⟩, ⟨tp, g20⟩, ⟨gr, g21, b21⟩, ⟨it, g22⟩⟩, gf⟩ := id hq
  obtain ⟨a1, a2, a3, a4, a5, a6, a7, a8, a9, a10, a11⟩ := id hs
  refine rl_Met.of (by decide +kernel) (Nat.le_of_ble_eq_true rfl) ?_
  intro X hC hB
  show rl_G X (rl_e D ids H0) 0 [some (.ref m), some (.int (nI op)), some (.int a), some (.int b)] [] h n 0 0
  refine o_aload_n hC dX8_pair_0 (by rfl) ?_
  refine o_iload_n hC dX8_pair_1 (by rfl) ?_
  refine o_callV1 hC rl_BW_good rl_Ns_nw (by exact hB.2.2.2.2.2) YX8_isNode IX8_isNode VX8_isNode (mX8_126 hC) (by rw [hB.1]; exact cm_X8_isNode l D ids H0 _ _ m _ _ _ S z _ hu) (by exact hu.1.1) rfl rfl (Nat.le_of_ble_eq_true rfl) (by rw [hB.2.1]; first | exact Nat.le_of_ble_eq_true rfl | (dsimp only; omega)) (by rw [hB.2.1]; first | exact Nat.le_of_ble_eq_true rfl | (dsimp only; omega)) (by rw [hB.2.1]; first | exact Nat.le_of_ble_eq_true rfl | (dsimp only; omega)) (by rw [hB.2.1]; first | exact Nat.le_of_ble_eq_true rfl | (dsimp only; omega)) dX8_pair_2 (fun v h_2 n_2 p_2 => ?_)
  obtain ⟨z2, rfl, rfl, rfl, hz2⟩ := p_2
  try dsimp only [Option.toList, List.cons_append, List.nil_append]
  refine o_if_eq (tgt := 16) hC dX8_pair_5 (by decide) (fun c_5 => ?_) (fun c_5 => ?_)
  · refine o_iconst (v := (-1 : Int32)) hC dX8_pair_16 (by decide +kernel) ?_
    refine o_iret hC hB dX8_pair_17 (Nat.le_of_ble_eq_true rfl) (Nat.le_of_ble_eq_true rfl) ?_
    first
    | (have e : sh_pair z a b = (-1, z) := if_pos (Or.inl (hz2.elim (fun a => a.2) (fun a => absurd (c_5.symm.trans a.1) (by decide +kernel)))); exact ⟨_, rfl, rfl, (by rw [e]; exact ⟨_, _, _, S, hu, rfl, Or.inl ⟨rfl, rfl⟩, fun _ _ _ => rfl⟩), (by rw [e]), rl_fr.rf⟩)
    | (have e : sh_pair z a b = (-1, z) := if_pos (Or.inr (hz10.elim (fun a => a.2) (fun a => absurd (c_13.symm.trans a.1) (by decide +kernel)))); exact ⟨_, rfl, rfl, (by rw [e]; exact ⟨_, _, _, S, hu, rfl, Or.inl ⟨rfl, rfl⟩, fun _ _ _ => rfl⟩), (by rw [e]), rl_fr.rf⟩)
  · refine o_aload_n hC dX8_pair_8 (by rfl) ?_
    refine o_iload_n hC dX8_pair_9 (by rfl) ?_
    refine o_callV1 hC rl_BW_good rl_Ns_nw (by exact hB.2.2.2.2.2) YX8_isNode IX8_isNode VX8_isNode (mX8_126 hC) (by rw [hB.1]; exact cm_X8_isNode l D ids H0 _ _ m _ _ _ S z _ hu) (by exact hu.1.1) rfl rfl (Nat.le_of_ble_eq_true rfl) (by rw [hB.2.1]; first | exact Nat.le_of_ble_eq_true rfl | (dsimp only; omega)) (by rw [hB.2.1]; first | exact Nat.le_of_ble_eq_true rfl | (dsimp only; omega)) (by rw [hB.2.1]; first | exact Nat.le_of_ble_eq_true rfl | (dsimp only; omega)) (by rw [hB.2.1]; first | exact Nat.le_of_ble_eq_true rfl | (dsimp only; omega)) dX8_pair_10 (fun v h_10 n_10 p_10 => ?_)
    obtain ⟨z10, rfl, rfl, rfl, hz10⟩ := p_10
    try dsimp only [Option.toList, List.cons_append, List.nil_append]
    refine o_if_ne (tgt := 18) hC dX8_pair_13 (by decide) (fun c_13 => ?_) (fun c_13 => ?_)
    · have nna : ¬ sh_nn z a := (hz2.elim (fun a => absurd a.1 c_5) (fun a => a.2))
      obtain ⟨ja, wa, hja, hj16a, rfl, w1a, w2a, w3a, w4a⟩ := hu.nd nna
      have nnb : ¬ sh_nn z b := (hz10.elim (fun a => absurd a.1 c_13) (fun a => a.2))
      obtain ⟨jb, wb, hjb, hj16b, rfl, w1b, w2b, w3b, w4b⟩ := hu.nd nnb
      refine o_aload_n hC dX8_pair_18 (by rfl) ?_
      refine o_getf hC (fX8_40 hC rfl) dX8_pair_19 (by repeat (first | with_reducible assumption | (rw [rl_u_s]; done) | (rw [rl_u_s]; rfl) | rw [rl_u_n (by first | with_reducible assumption | omega)])) (by first | rfl | with_reducible assumption) ?_
      refine o_iload_n hC dX8_pair_22 (by rfl) ?_
      refine o_ialdN (t0 := 0) (k := ja) hC rfl dX8_pair_23 (by repeat (first | with_reducible assumption | (rw [rl_u_s]; done) | (rw [rl_u_s]; rfl) | rw [rl_u_n (by first | with_reducible assumption | omega)])) (by omega) (by decide) ?_
      rw [w3a]
      refine o_aload_n hC dX8_pair_24 (by rfl) ?_
      refine o_getf hC (fX8_40 hC rfl) dX8_pair_25 (by repeat (first | with_reducible assumption | (rw [rl_u_s]; done) | (rw [rl_u_s]; rfl) | rw [rl_u_n (by first | with_reducible assumption | omega)])) (by first | rfl | with_reducible assumption) ?_
      refine o_iload_n hC dX8_pair_28 (by rfl) ?_
      refine o_ialdN (t0 := 0) (k := jb) hC rfl dX8_pair_29 (by repeat (first | with_reducible assumption | (rw [rl_u_s]; done) | (rw [rl_u_s]; rfl) | rw [rl_u_n (by first | with_reducible assumption | omega)])) (by omega) (by decide) ?_
      rw [w3b]
      refine o_icmp_eq (tgt := 38) hC dX8_pair_30 (by decide) (fun c_30 => ?_) (fun c_30 => ?_)
      · refine o_aload_n hC dX8_pair_38 (by rfl) ?_
        refine o_iload_n hC dX8_pair_39 (by rfl) ?_
        refine o_iload_n hC dX8_pair_40 (by rfl) ?_
        refine o_iload_n hC dX8_pair_41 (by rfl) ?_
        refine o_iconst (v := nI 0) hC dX8_pair_42 (by decide +kernel) ?_
        refine o_iconst (v := nI 0) hC dX8_pair_43 (by decide +kernel) ?_
        refine o_iconst (v := nI 0) hC dX8_pair_44 (by decide +kernel) ?_
        refine o_iconst (v := nI 0) hC dX8_pair_45 (by decide +kernel) ?_
        refine o_aload_n hC dX8_pair_46 (by rfl) ?_
        refine o_getf hC (fX8_40 hC rfl) dX8_pair_47 (by repeat (first | with_reducible assumption | (rw [rl_u_s]; done) | (rw [rl_u_s]; rfl) | rw [rl_u_n (by first | with_reducible assumption | omega)])) (by first | rfl | with_reducible assumption) ?_
        refine o_iload_n hC dX8_pair_50 (by rfl) ?_
        refine o_ialdN (t0 := 0) (k := ja) hC rfl dX8_pair_51 (by repeat (first | with_reducible assumption | (rw [rl_u_s]; done) | (rw [rl_u_s]; rfl) | rw [rl_u_n (by first | with_reducible assumption | omega)])) (by omega) (by decide) ?_
        rw [w3a]
        refine o_callV8 hC rl_BW_good rl_Ns_nw (by exact hB.2.2.2.2.2) YX8_node IX8_node VX8_node (mX8_122 hC) (by rw [hB.1]; exact cm_X8_node l D ids H0 _ _ m _ _ _ S z _ _ _ _ _ _ _ _ hu (fun h16 => md_nv.new (op := op) (w := wa) (by omega) w1a w2a (fun _ => ⟨ja, wa, hja, w2a, rfl, w3a, fun _ => ⟨jb, wb, hjb, w2b, rfl, w3b, fun q => absurd q (by omega)⟩⟩) (fun q => absurd q (by omega)) (fun q => absurd q (by omega)) (fun q => absurd q (by omega)) (fun q => absurd q (by omega)))) (by exact hu.1.1) rfl rfl (Nat.le_of_ble_eq_true rfl) (by rw [hB.2.1]; first | exact Nat.le_of_ble_eq_true rfl | (dsimp only; omega)) (by rw [hB.2.1]; first | exact Nat.le_of_ble_eq_true rfl | (dsimp only; omega)) (by rw [hB.2.1]; first | exact Nat.le_of_ble_eq_true rfl | (dsimp only; omega)) (by rw [hB.2.1]; first | exact Nat.le_of_ble_eq_true rfl | (dsimp only; omega)) dX8_pair_52 (fun v h_52 n_52 p_52 => ?_)
        obtain ⟨r52, rfl, rfl, o1, o2, o3⟩ := p_52
        try dsimp only [Option.toList, List.cons_append, List.nil_append]
        refine o_iret hC hB dX8_pair_55 (Nat.le_of_ble_eq_true rfl) (Nat.le_of_ble_eq_true rfl) ?_
        have nk : ¬ (sh_nn z (nI ja) ∨ sh_nn z (nI jb)) := fun w => w.elim nna nnb
        first
        | (have e : sh_pair z (nI ja) (nI jb) = (-2, z) := (if_neg nk).trans (if_pos (fun w => c_30 (w4a.symm.trans (w.trans w4b)))); exact ⟨_, rfl, rfl, (by rw [e]; exact ⟨_, _, _, S, hu, rfl, Or.inl ⟨rfl, rfl⟩, fun _ _ _ => rfl⟩), (by rw [e]), rl_fr.rf⟩)
        | (have e : sh_pair z (nI ja) (nI jb) = sh_node z (nI wa) := (if_neg nk).trans ((if_neg (fun w => w (w4a.trans (c_30.trans w4b.symm)))).trans (congrArg (sh_node z) w4a)); exact ⟨_, rfl, rfl, (by rw [e]; exact o1.im rfl (fun _ => id) (fun d9 => d9)), (by rw [e]; exact o2), o3⟩)
      · refine o_bipush (v := (-2 : Int32)) hC dX8_pair_33 (by decide +kernel) ?_
        refine o_goto (tgt := 55) hC dX8_pair_35 (by decide) ?_
        refine o_iret hC hB dX8_pair_55 (Nat.le_of_ble_eq_true rfl) (Nat.le_of_ble_eq_true rfl) ?_
        have nk : ¬ (sh_nn z (nI ja) ∨ sh_nn z (nI jb)) := fun w => w.elim nna nnb
        first
        | (have e : sh_pair z (nI ja) (nI jb) = (-2, z) := (if_neg nk).trans (if_pos (fun w => c_30 (w4a.symm.trans (w.trans w4b)))); exact ⟨_, rfl, rfl, (by rw [e]; exact ⟨_, _, _, S, hu, rfl, Or.inl ⟨rfl, rfl⟩, fun _ _ _ => rfl⟩), (by rw [e]), rl_fr.rf⟩)
        | (have e : sh_pair z (nI ja) (nI jb) = sh_node z (nI wa) := (if_neg nk).trans ((if_neg (fun w => w (w4a.trans (c_30.trans w4b.symm)))).trans (congrArg (sh_node z) w4a)); exact ⟨_, rfl, rfl, (by rw [e]; exact o1.im rfl (fun _ => id) (fun d9 => d9)), (by rw [e]; exact o2), o3⟩)
    · refine o_iconst (v := (-1 : Int32)) hC dX8_pair_16 (by decide +kernel) ?_
      refine o_iret hC hB dX8_pair_17 (Nat.le_of_ble_eq_true rfl) (Nat.le_of_ble_eq_true rfl) ?_
      first
      | (have e : sh_pair z a b = (-1, z) := if_pos (Or.inl (hz2.elim (fun a => a.2) (fun a => absurd (c_5.symm.trans a.1) (by decide +kernel)))); exact ⟨_, rfl, rfl, (by rw [e]; exact ⟨_, _, _, S, hu, rfl, Or.inl ⟨rfl, rfl⟩, fun _ _ _ => rfl⟩), (by rw [e]), rl_fr.rf⟩)
      | (have e : sh_pair z a b = (-1, z) := if_pos (Or.inr (hz10.elim (fun a => a.2) (fun a => absurd (c_13.symm.trans a.1) (by decide +kernel)))); exact ⟨_, rfl, rfl, (by rw [e]; exact ⟨_, _, _, S, hu, rfl, Or.inl ⟨rfl, rfl⟩, fun _ _ _ => rfl⟩), (by rw [e]), rl_fr.rf⟩)

set_option maxHeartbeats 4000000 in
set_option maxRecDepth 100000 in
theorem cm_X8_unite (l : Launch) (D : va_G) (ids : Nat → ClassId) (H0 : Heap) (h : rl_H) (n : Nat) (m : Nat) (T : md_T) (fu : Int32) (k : Nat) (S : md_A) (z : sh_S) (a b : Int32) (hu : md_un ids h m T fu k S z) : rl_Met l (rl_e D ids H0) rl_BW rl_Ns yX8_unite cX8_unite 3 (some .int) ({ frames := 2, cells := 0, slots := 0, locals := 51 }) [.ref m, .int a, .int b] h n (fun v h' n' => ∃ r : Int32, v = some (.int r) ∧ n' = n ∧ mdx ids h' m T (sh_pair z a b).2 (fun S' => (S' = S ∧ (sh_pair z a b).2 = z) ∨ ∃ w9 : Int32, S' = (S.1, S.2.1, S.2.2.1, upd S.2.2.2.1 z.2.2.2.1 (nI 4), upd S.2.2.2.2.1 z.2.2.2.1 a, upd S.2.2.2.2.2.1 z.2.2.2.1 b, upd S.2.2.2.2.2.2.1 z.2.2.2.1 (nI 0), upd S.2.2.2.2.2.2.2.1 z.2.2.2.1 (nI 0), upd S.2.2.2.2.2.2.2.2.1 z.2.2.2.1 (nI 0), upd S.2.2.2.2.2.2.2.2.2.1 z.2.2.2.1 (nI 0), upd S.2.2.2.2.2.2.2.2.2.2 z.2.2.2.1 w9) ∧ (sh_pair z a b).2.2.2.2.1 = z.2.2.2.1 + 1) (∀ q : Nat, m + 12 ≤ q → q < m + 23 → h' q = h q) ∧ r = (sh_pair z a b).1 ∧ rl_fr h h' m (m + 23)) := by
  obtain ⟨hq, hs, ⟨hsc, hsc4⟩, hwf, ⟨hrr, hr36⟩, ⟨hnc, hn16⟩, hnw, hpr, hnv, hwv, wrc, hrc6, hrc⟩ := id hu
  have hq0 := hq.ob (nI 0, T.2) fu k hq.2.1
  have g0 := hq.1
  obtain ⟨-, gk, ⟨⟨cl, g12⟩, ⟨tu, g13, b13⟩, ⟨im, g14⟩, ⟨te, g15, b15⟩, ⟨ne, g16⟩, ⟨la, g17⟩, ⟨hn, g18⟩, ⟨hl, g19⟩, ⟨tp, g20⟩, ⟨gr, g21, b21⟩, ⟨it, g22⟩⟩, gf⟩ := id hq
  obtain ⟨a1, a2, a3, a4, a5, a6, a7, a8, a9, a10, a11⟩ := id hs
  have hu0 : md_un ids _ m (nI 0, T.2) fu k S z := hu.dp hq0 rfl rfl rfl rfl ⟨wrc, hrc6, hrc⟩
  refine rl_Met.of (by decide +kernel) (Nat.le_of_ble_eq_true rfl) ?_
  intro X hC hB
  show rl_G X (rl_e D ids H0) 0 [some (.ref m), some (.int a), some (.int b)] [] h n 0 0
  refine o_aload_n hC dX8_unite_0 (by rfl) ?_
  refine o_iconst (v := nI 0) hC dX8_unite_1 (by decide +kernel) ?_
  refine o_putf hC (fX8_78 hC rfl) (fwX8 rfl rfl rfl (Or.inl rfl)) dX8_unite_2 (by repeat (first | with_reducible assumption | (rw [rl_u_s]; done) | (rw [rl_u_s]; rfl) | rw [rl_u_n (by first | with_reducible assumption | omega)])) (Nat.le_of_ble_eq_true rfl) ?_
  try simp only [List.set_cons_zero, List.set_cons_succ]
  refine o_aload_n hC dX8_unite_5 (by rfl) ?_
  refine o_iconst (v := nI 4) hC dX8_unite_6 (by decide +kernel) ?_
  refine o_iload_n hC dX8_unite_7 (by rfl) ?_
  refine o_iload_n hC dX8_unite_8 (by rfl) ?_
  refine o_callV3 hC rl_BW_good rl_Ns_nw (by exact hB.2.2.2.2.2) YX8_pair IX8_pair VX8_pair (mX8_134 hC) (by rw [hB.1]; exact cm_X8_pair l D ids H0 _ _ m _ _ _ S z 4 _ _ hu0 (by decide)) (by exact hu0.1.1) rfl rfl (Nat.le_of_ble_eq_true rfl) (by rw [hB.2.1]; first | exact Nat.le_of_ble_eq_true rfl | (dsimp only; omega)) (by rw [hB.2.1]; first | exact Nat.le_of_ble_eq_true rfl | (dsimp only; omega)) (by rw [hB.2.1]; first | exact Nat.le_of_ble_eq_true rfl | (dsimp only; omega)) (by rw [hB.2.1]; first | exact Nat.le_of_ble_eq_true rfl | (dsimp only; omega)) dX8_unite_9 (fun v h_9 n_9 p_9 => ?_)
  obtain ⟨r9, rfl, rfl, o1, o2, o3⟩ := p_9
  try dsimp only [Option.toList, List.cons_append, List.nil_append]
  refine o_iret hC hB dX8_unite_12 (Nat.le_of_ble_eq_true rfl) (Nat.le_of_ble_eq_true rfl) ?_
  exact ⟨_, rfl, rfl, o1.im rfl (fun _ => id) (fun d9 q a b => (d9 q a b).trans (rl_u_n (by omega))), o2, (fun q hq => (o3 q hq).trans (hq0.fr q hq))⟩

set_option maxHeartbeats 4000000 in
set_option maxRecDepth 100000 in
theorem cm_X8_minus (l : Launch) (D : va_G) (ids : Nat → ClassId) (H0 : Heap) (h : rl_H) (n : Nat) (m : Nat) (T : md_T) (fu : Int32) (k : Nat) (S : md_A) (z : sh_S) (a b : Int32) (hu : md_un ids h m T fu k S z) : rl_Met l (rl_e D ids H0) rl_BW rl_Ns yX8_minus cX8_minus 3 (some .int) ({ frames := 2, cells := 0, slots := 0, locals := 51 }) [.ref m, .int a, .int b] h n (fun v h' n' => ∃ r : Int32, v = some (.int r) ∧ n' = n ∧ mdx ids h' m T (sh_pair z a b).2 (fun S' => (S' = S ∧ (sh_pair z a b).2 = z) ∨ ∃ w9 : Int32, S' = (S.1, S.2.1, S.2.2.1, upd S.2.2.2.1 z.2.2.2.1 (nI 5), upd S.2.2.2.2.1 z.2.2.2.1 a, upd S.2.2.2.2.2.1 z.2.2.2.1 b, upd S.2.2.2.2.2.2.1 z.2.2.2.1 (nI 0), upd S.2.2.2.2.2.2.2.1 z.2.2.2.1 (nI 0), upd S.2.2.2.2.2.2.2.2.1 z.2.2.2.1 (nI 0), upd S.2.2.2.2.2.2.2.2.2.1 z.2.2.2.1 (nI 0), upd S.2.2.2.2.2.2.2.2.2.2 z.2.2.2.1 w9) ∧ (sh_pair z a b).2.2.2.2.1 = z.2.2.2.1 + 1) (∀ q : Nat, m + 12 ≤ q → q < m + 23 → h' q = h q) ∧ r = (sh_pair z a b).1 ∧ rl_fr h h' m (m + 23)) := by
  obtain ⟨hq, hs, ⟨hsc, hsc4⟩, hwf, ⟨hrr, hr36⟩, ⟨hnc, hn16⟩, hnw, hpr, hnv, hwv, wrc, hrc6, hrc⟩ := id hu
  have hq0 := hq.ob (nI 0, T.2) fu k hq.2.1
  have g0 := hq.1
  obtain ⟨-, gk, ⟨⟨cl, g12⟩, ⟨tu, g13, b13⟩, ⟨im, g14⟩, ⟨te, g15, b15⟩, ⟨ne, g16⟩, ⟨la, g17⟩, ⟨hn, g18⟩, ⟨hl, g19⟩, ⟨tp, g20⟩, ⟨gr, g21, b21⟩, ⟨it, g22⟩⟩, gf⟩ := id hq
  obtain ⟨a1, a2, a3, a4, a5, a6, a7, a8, a9, a10, a11⟩ := id hs
  have hu0 : md_un ids _ m (nI 0, T.2) fu k S z := hu.dp hq0 rfl rfl rfl rfl ⟨wrc, hrc6, hrc⟩
  refine rl_Met.of (by decide +kernel) (Nat.le_of_ble_eq_true rfl) ?_
  intro X hC hB
  show rl_G X (rl_e D ids H0) 0 [some (.ref m), some (.int a), some (.int b)] [] h n 0 0
  refine o_aload_n hC dX8_minus_0 (by rfl) ?_
  refine o_iconst (v := nI 0) hC dX8_minus_1 (by decide +kernel) ?_
  refine o_putf hC (fX8_78 hC rfl) (fwX8 rfl rfl rfl (Or.inl rfl)) dX8_minus_2 (by repeat (first | with_reducible assumption | (rw [rl_u_s]; done) | (rw [rl_u_s]; rfl) | rw [rl_u_n (by first | with_reducible assumption | omega)])) (Nat.le_of_ble_eq_true rfl) ?_
  try simp only [List.set_cons_zero, List.set_cons_succ]
  refine o_aload_n hC dX8_minus_5 (by rfl) ?_
  refine o_iconst (v := nI 5) hC dX8_minus_6 (by decide +kernel) ?_
  refine o_iload_n hC dX8_minus_7 (by rfl) ?_
  refine o_iload_n hC dX8_minus_8 (by rfl) ?_
  refine o_callV3 hC rl_BW_good rl_Ns_nw (by exact hB.2.2.2.2.2) YX8_pair IX8_pair VX8_pair (mX8_134 hC) (by rw [hB.1]; exact cm_X8_pair l D ids H0 _ _ m _ _ _ S z 5 _ _ hu0 (by decide)) (by exact hu0.1.1) rfl rfl (Nat.le_of_ble_eq_true rfl) (by rw [hB.2.1]; first | exact Nat.le_of_ble_eq_true rfl | (dsimp only; omega)) (by rw [hB.2.1]; first | exact Nat.le_of_ble_eq_true rfl | (dsimp only; omega)) (by rw [hB.2.1]; first | exact Nat.le_of_ble_eq_true rfl | (dsimp only; omega)) (by rw [hB.2.1]; first | exact Nat.le_of_ble_eq_true rfl | (dsimp only; omega)) dX8_minus_9 (fun v h_9 n_9 p_9 => ?_)
  obtain ⟨r9, rfl, rfl, o1, o2, o3⟩ := p_9
  try dsimp only [Option.toList, List.cons_append, List.nil_append]
  refine o_iret hC hB dX8_minus_12 (Nat.le_of_ble_eq_true rfl) (Nat.le_of_ble_eq_true rfl) ?_
  exact ⟨_, rfl, rfl, o1.im rfl (fun _ => id) (fun d9 q a b => (d9 q a b).trans (rl_u_n (by omega))), o2, (fun q hq => (o3 q hq).trans (hq0.fr q hq))⟩

set_option maxHeartbeats 4000000 in
set_option maxRecDepth 100000 in
theorem cm_X8_fold (l : Launch) (D : va_G) (ids : Nat → ClassId) (H0 : Heap) (h : rl_H) (n : Nat) (m : Nat) (T : md_T) (fu : Int32) (k : Nat) (S : md_A) (z : sh_S) (q kk jj kd : Int32) (hu : md_un ids h m T fu k S z) : rl_Met l (rl_e D ids H0) rl_BW rl_Ns yX8_fold cX8_fold 5 (some .int) ({ frames := 1, cells := 0, slots := 0, locals := 28 }) [.ref m, .int q, .int kk, .int jj, .int kd] h n (fun v h' n' => ∃ r : Int32, v = some (.int r) ∧ n' = n ∧ mdx ids h' m T (sh_fold z q kk jj kd).2 (fun S' => (S' = S ∧ (sh_fold z q kk jj kd).2 = z) ∨ ∃ w9 : Int32, S' = (S.1, S.2.1, S.2.2.1, upd S.2.2.2.1 z.2.2.2.1 (nI 6), upd S.2.2.2.2.1 z.2.2.2.1 q, upd S.2.2.2.2.2.1 z.2.2.2.1 (nI 0), upd S.2.2.2.2.2.2.1 z.2.2.2.1 kk, upd S.2.2.2.2.2.2.2.1 z.2.2.2.1 jj, upd S.2.2.2.2.2.2.2.2.1 z.2.2.2.1 kd, upd S.2.2.2.2.2.2.2.2.2.1 z.2.2.2.1 (nI 0), upd S.2.2.2.2.2.2.2.2.2.2 z.2.2.2.1 w9) ∧ (sh_fold z q kk jj kd).2.2.2.2.1 = z.2.2.2.1 + 1) (∀ q : Nat, m + 12 ≤ q → q < m + 23 → h' q = h q) ∧ r = (sh_fold z q kk jj kd).1 ∧ rl_fr h h' m (m + 23)) := by
  obtain ⟨hq, hs, ⟨hsc, hsc4⟩, hwf, ⟨hrr, hr36⟩, ⟨hnc, hn16⟩, hnw, hpr, hnv, hwv, wrc, hrc6, hrc⟩ := id hu
  have hq0 := hq.ob (nI 0, T.2) fu k hq.2.1
  have g0 := hq.1
  obtain ⟨-, gk, ⟨⟨cl, g12⟩, ⟨tu, g13, b13⟩, ⟨im, g14⟩, ⟨te, g15, b15⟩, ⟨ne, g16⟩, ⟨la, g17⟩, ⟨hn, g18⟩, ⟨hl, g19⟩, ⟨tp, g20⟩, ⟨gr, g21, b21⟩, ⟨it, g22⟩⟩, gf⟩ := id hq
  obtain ⟨a1, a2, a3, a4, a5, a6, a7, a8, a9, a10, a11⟩ := id hs
  have hu0 : md_un ids _ m (nI 0, T.2) fu k S z := hu.dp hq0 rfl rfl rfl rfl ⟨wrc, hrc6, hrc⟩
  refine rl_Met.of (by decide +kernel) (Nat.le_of_ble_eq_true rfl) ?_
  intro X hC hB
  show rl_G X (rl_e D ids H0) 0 [some (.ref m), some (.int q), some (.int kk), some (.int jj), some (.int kd)] [] h n 0 0
  refine o_aload_n hC dX8_fold_0 (by rfl) ?_
  refine o_iconst (v := nI 0) hC dX8_fold_1 (by decide +kernel) ?_
  refine o_putf hC (fX8_78 hC rfl) (fwX8 rfl rfl rfl (Or.inl rfl)) dX8_fold_2 (by repeat (first | with_reducible assumption | (rw [rl_u_s]; done) | (rw [rl_u_s]; rfl) | rw [rl_u_n (by first | with_reducible assumption | omega)])) (Nat.le_of_ble_eq_true rfl) ?_
  try simp only [List.set_cons_zero, List.set_cons_succ]
  refine o_aload_n hC dX8_fold_5 (by rfl) ?_
  refine o_iload_n hC dX8_fold_6 (by rfl) ?_
  refine o_callV1 hC rl_BW_good rl_Ns_nw (by exact hB.2.2.2.2.2) YX8_isNode IX8_isNode VX8_isNode (mX8_126 hC) (by rw [hB.1]; exact cm_X8_isNode l D ids H0 _ _ m _ _ _ S z _ hu0) (by exact hu0.1.1) rfl rfl (Nat.le_of_ble_eq_true rfl) (by rw [hB.2.1]; first | exact Nat.le_of_ble_eq_true rfl | (dsimp only; omega)) (by rw [hB.2.1]; first | exact Nat.le_of_ble_eq_true rfl | (dsimp only; omega)) (by rw [hB.2.1]; first | exact Nat.le_of_ble_eq_true rfl | (dsimp only; omega)) (by rw [hB.2.1]; first | exact Nat.le_of_ble_eq_true rfl | (dsimp only; omega)) dX8_fold_7 (fun v h_7 n_7 p_7 => ?_)
  obtain ⟨z7, rfl, rfl, rfl, hz7⟩ := p_7
  try dsimp only [Option.toList, List.cons_append, List.nil_append]
  refine o_if_eq (tgt := 31) hC dX8_fold_10 (by decide) (fun c_10 => ?_) (fun c_10 => ?_)
  · refine o_iconst (v := (-1 : Int32)) hC dX8_fold_31 (by decide +kernel) ?_
    refine o_iret hC hB dX8_fold_32 (Nat.le_of_ble_eq_true rfl) (Nat.le_of_ble_eq_true rfl) ?_
    first
    | (have e : sh_fold z q kk jj kd = (-1, z) := if_pos (Or.inl (Or.inl (hz7.elim (fun a => a.2) (fun a => absurd (c_10.symm.trans a.1) (by decide +kernel))))); exact ⟨_, rfl, rfl, (by rw [e]; exact ⟨_, _, _, S, hu.dp hq0 rfl rfl rfl rfl ⟨wrc, hrc6, hrc⟩, rfl, Or.inl ⟨rfl, rfl⟩, fun q a b => rl_u_n (by omega)⟩), (by rw [e]), hq0.fr⟩)
    | (have e : sh_fold z (nI j) kk jj kd = (-1, z) := if_pos (Or.inl (hz16.elim (fun a => a.2) (fun a => absurd (c_19.symm.trans a.1) (by decide +kernel)))); exact ⟨_, rfl, rfl, (by rw [e]; exact ⟨_, _, _, S, hu.dp hq0 rfl rfl rfl rfl ⟨wrc, hrc6, hrc⟩, rfl, Or.inl ⟨rfl, rfl⟩, fun q a b => rl_u_n (by omega)⟩), (by rw [e]), hq0.fr⟩)
    | (have e : sh_fold z (nI j) kk jj kd = (-1, z) := if_pos (Or.inr (hz25.elim (fun a => a.2) (fun a => absurd (c_28.symm.trans a.1) (by decide +kernel)))); exact ⟨_, rfl, rfl, (by rw [e]; exact ⟨_, _, _, S, hu.dp hq0 rfl rfl rfl rfl ⟨wrc, hrc6, hrc⟩, rfl, Or.inl ⟨rfl, rfl⟩, fun q a b => rl_u_n (by omega)⟩), (by rw [e]), hq0.fr⟩)
  · have nn : ¬ sh_nn z q := (hz7.elim (fun a => absurd a.1 c_10) (fun a => a.2))
    obtain ⟨j, w, hj, hj16, rfl, w1, w2, w3, w4⟩ := hu.nd nn
    refine o_aload_n hC dX8_fold_13 (by rfl) ?_
    refine o_iload_n hC dX8_fold_14 (by rfl) ?_
    refine o_iload_n hC dX8_fold_15 (by rfl) ?_
    refine o_callV2 hC rl_BW_good rl_Ns_nw (by exact hB.2.2.2.2.2) YX8_isColumn IX8_isColumn VX8_isColumn (mX8_129 hC) (by rw [hB.1]; exact cm_X8_isColumn l D ids H0 _ _ m _ _ _ S z j _ hu0 hj16) (by exact hu0.1.1) rfl rfl (Nat.le_of_ble_eq_true rfl) (by rw [hB.2.1]; first | exact Nat.le_of_ble_eq_true rfl | (dsimp only; omega)) (by rw [hB.2.1]; first | exact Nat.le_of_ble_eq_true rfl | (dsimp only; omega)) (by rw [hB.2.1]; first | exact Nat.le_of_ble_eq_true rfl | (dsimp only; omega)) (by rw [hB.2.1]; first | exact Nat.le_of_ble_eq_true rfl | (dsimp only; omega)) dX8_fold_16 (fun v h_16 n_16 p_16 => ?_)
    obtain ⟨z16, rfl, rfl, rfl, hz16⟩ := p_16
    replace hz16 := md_nkz nn (w4.trans w3.symm) hz16
    try dsimp only [Option.toList, List.cons_append, List.nil_append]
    refine o_if_eq (tgt := 31) hC dX8_fold_19 (by decide) (fun c_19 => ?_) (fun c_19 => ?_)
    · refine o_iconst (v := (-1 : Int32)) hC dX8_fold_31 (by decide +kernel) ?_
      refine o_iret hC hB dX8_fold_32 (Nat.le_of_ble_eq_true rfl) (Nat.le_of_ble_eq_true rfl) ?_
      first
      | (have e : sh_fold z q kk jj kd = (-1, z) := if_pos (Or.inl (Or.inl (hz7.elim (fun a => a.2) (fun a => absurd (c_10.symm.trans a.1) (by decide +kernel))))); exact ⟨_, rfl, rfl, (by rw [e]; exact ⟨_, _, _, S, hu.dp hq0 rfl rfl rfl rfl ⟨wrc, hrc6, hrc⟩, rfl, Or.inl ⟨rfl, rfl⟩, fun q a b => rl_u_n (by omega)⟩), (by rw [e]), hq0.fr⟩)
      | (have e : sh_fold z (nI j) kk jj kd = (-1, z) := if_pos (Or.inl (hz16.elim (fun a => a.2) (fun a => absurd (c_19.symm.trans a.1) (by decide +kernel)))); exact ⟨_, rfl, rfl, (by rw [e]; exact ⟨_, _, _, S, hu.dp hq0 rfl rfl rfl rfl ⟨wrc, hrc6, hrc⟩, rfl, Or.inl ⟨rfl, rfl⟩, fun q a b => rl_u_n (by omega)⟩), (by rw [e]), hq0.fr⟩)
      | (have e : sh_fold z (nI j) kk jj kd = (-1, z) := if_pos (Or.inr (hz25.elim (fun a => a.2) (fun a => absurd (c_28.symm.trans a.1) (by decide +kernel)))); exact ⟨_, rfl, rfl, (by rw [e]; exact ⟨_, _, _, S, hu.dp hq0 rfl rfl rfl rfl ⟨wrc, hrc6, hrc⟩, rfl, Or.inl ⟨rfl, rfl⟩, fun q a b => rl_u_n (by omega)⟩), (by rw [e]), hq0.fr⟩)
    · refine o_aload_n hC dX8_fold_22 (by rfl) ?_
      refine o_iload_n hC dX8_fold_23 (by rfl) ?_
      refine o_iload_n hC dX8_fold_24 (by rfl) ?_
      refine o_callV2 hC rl_BW_good rl_Ns_nw (by exact hB.2.2.2.2.2) YX8_isColumn IX8_isColumn VX8_isColumn (mX8_129 hC) (by rw [hB.1]; exact cm_X8_isColumn l D ids H0 _ _ m _ _ _ S z j _ hu0 hj16) (by exact hu0.1.1) rfl rfl (Nat.le_of_ble_eq_true rfl) (by rw [hB.2.1]; first | exact Nat.le_of_ble_eq_true rfl | (dsimp only; omega)) (by rw [hB.2.1]; first | exact Nat.le_of_ble_eq_true rfl | (dsimp only; omega)) (by rw [hB.2.1]; first | exact Nat.le_of_ble_eq_true rfl | (dsimp only; omega)) (by rw [hB.2.1]; first | exact Nat.le_of_ble_eq_true rfl | (dsimp only; omega)) dX8_fold_25 (fun v h_25 n_25 p_25 => ?_)
      obtain ⟨z25, rfl, rfl, rfl, hz25⟩ := p_25
      replace hz25 := md_nkz nn (w4.trans w3.symm) hz25
      try dsimp only [Option.toList, List.cons_append, List.nil_append]
      refine o_if_ne (tgt := 33) hC dX8_fold_28 (by decide) (fun c_28 => ?_) (fun c_28 => ?_)
      · have nk : ¬ (sh_nk z (nI j) kk ∨ sh_nk z (nI j) jj) := fun w => w.elim (hz16.elim (fun a => absurd a.1 c_19) (fun a => a.2)) (hz25.elim (fun a => absurd a.1 c_28) (fun a => a.2))
        refine o_iload hC dX8_fold_33 (by rfl) ?_
        refine o_if_lt (tgt := 44) hC dX8_fold_35 (by decide) (fun c_35 => ?_) (fun c_35 => ?_)
        · refine o_bipush (v := (-2 : Int32)) hC dX8_fold_44 (by decide +kernel) ?_
          refine o_goto (tgt := 63) hC dX8_fold_46 (by decide) ?_
          refine o_iret hC hB dX8_fold_63 (Nat.le_of_ble_eq_true rfl) (Nat.le_of_ble_eq_true rfl) ?_
          first
          | (have e : sh_fold z (nI j) kk jj kd = (-2, z) := (if_neg nk).trans (if_pos (Or.inl c_35)); exact ⟨_, rfl, rfl, (by rw [e]; exact ⟨_, _, _, S, hu.dp hq0 rfl rfl rfl rfl ⟨wrc, hrc6, hrc⟩, rfl, Or.inl ⟨rfl, rfl⟩, fun q a b => rl_u_n (by omega)⟩), (by rw [e]), hq0.fr⟩)
          | (have e : sh_fold z (nI j) kk jj kd = (-2, z) := (if_neg nk).trans (if_pos (Or.inr c_41)); exact ⟨_, rfl, rfl, (by rw [e]; exact ⟨_, _, _, S, hu.dp hq0 rfl rfl rfl rfl ⟨wrc, hrc6, hrc⟩, rfl, Or.inl ⟨rfl, rfl⟩, fun q a b => rl_u_n (by omega)⟩), (by rw [e]), hq0.fr⟩)
          | (have e : sh_fold z (nI j) (nI ck) (nI cj) kd = sh_node z (nI 2) := ((if_neg nk).trans (if_neg (fun w => w.elim c_35 (fun w => w c_41)))); exact ⟨_, rfl, rfl, (by rw [e]; exact o1.im rfl (fun _ => id) (fun d9 q a b => (d9 q a b).trans (rl_u_n (by omega)))), (by rw [e]; exact o2), (fun q hq => (o3 q hq).trans (hq0.fr q hq))⟩)
        · refine o_iload hC dX8_fold_38 (by rfl) ?_
          refine o_iconst (v := nI 3) hC dX8_fold_40 (by decide +kernel) ?_
          refine o_icmp_le (tgt := 49) hC dX8_fold_41 (by decide) (fun c_41 => ?_) (fun c_41 => ?_)
          · obtain ⟨ck, hck, rfl⟩ := md_co w4 w2 (fun w => nk (Or.inl w))
            obtain ⟨cj, hcj, rfl⟩ := md_co w4 w2 (fun w => nk (Or.inr w))
            refine o_aload_n hC dX8_fold_49 (by rfl) ?_
            refine o_bipush (v := nI 6) hC dX8_fold_50 (by decide +kernel) ?_
            refine o_iload_n hC dX8_fold_52 (by rfl) ?_
            refine o_iconst (v := nI 0) hC dX8_fold_53 (by decide +kernel) ?_
            refine o_iload_n hC dX8_fold_54 (by rfl) ?_
            refine o_iload_n hC dX8_fold_55 (by rfl) ?_
            refine o_iload hC dX8_fold_56 (by rfl) ?_
            refine o_iconst (v := nI 0) hC dX8_fold_58 (by decide +kernel) ?_
            refine o_iconst (v := nI 2) hC dX8_fold_59 (by decide +kernel) ?_
            refine o_callV8 hC rl_BW_good rl_Ns_nw (by exact hB.2.2.2.2.2) YX8_node IX8_node VX8_node (mX8_122 hC) (by rw [hB.1]; exact cm_X8_node l D ids H0 _ _ m _ _ _ S z _ _ _ _ _ _ _ _ hu0 (fun h16 => md_nv.new (op := 6) (w := 2) (by decide) (by decide) (by decide) (fun _ => ⟨j, w, hj, w2, rfl, w3, fun q => absurd q (by decide)⟩) (fun _ => ⟨ck, hck, rfl⟩) (fun q => absurd q (by decide)) (fun q => absurd q (by decide)) (fun _ => ⟨cj, hcj, rfl⟩))) (by exact hu0.1.1) rfl rfl (Nat.le_of_ble_eq_true rfl) (by rw [hB.2.1]; first | exact Nat.le_of_ble_eq_true rfl | (dsimp only; omega)) (by rw [hB.2.1]; first | exact Nat.le_of_ble_eq_true rfl | (dsimp only; omega)) (by rw [hB.2.1]; first | exact Nat.le_of_ble_eq_true rfl | (dsimp only; omega)) (by rw [hB.2.1]; first | exact Nat.le_of_ble_eq_true rfl | (dsimp only; omega)) dX8_fold_60 (fun v h_60 n_60 p_60 => ?_)
            obtain ⟨r60, rfl, rfl, o1, o2, o3⟩ := p_60
            try dsimp only [Option.toList, List.cons_append, List.nil_append]
            refine o_iret hC hB dX8_fold_63 (Nat.le_of_ble_eq_true rfl) (Nat.le_of_ble_eq_true rfl) ?_
            first
            | (have e : sh_fold z (nI j) kk jj kd = (-2, z) := (if_neg nk).trans (if_pos (Or.inl c_35)); exact ⟨_, rfl, rfl, (by rw [e]; exact ⟨_, _, _, S, hu.dp hq0 rfl rfl rfl rfl ⟨wrc, hrc6, hrc⟩, rfl, Or.inl ⟨rfl, rfl⟩, fun q a b => rl_u_n (by omega)⟩), (by rw [e]), hq0.fr⟩)
            | (have e : sh_fold z (nI j) kk jj kd = (-2, z) := (if_neg nk).trans (if_pos (Or.inr c_41)); exact ⟨_, rfl, rfl, (by rw [e]; exact ⟨_, _, _, S, hu.dp hq0 rfl rfl rfl rfl ⟨wrc, hrc6, hrc⟩, rfl, Or.inl ⟨rfl, rfl⟩, fun q a b => rl_u_n (by omega)⟩), (by rw [e]), hq0.fr⟩)
            | (have e : sh_fold z (nI j) (nI ck) (nI cj) kd = sh_node z (nI 2) := ((if_neg nk).trans (if_neg (fun w => w.elim c_35 (fun w => w c_41)))); exact ⟨_, rfl, rfl, (by rw [e]; exact o1.im rfl (fun _ => id) (fun d9 q a b => (d9 q a b).trans (rl_u_n (by omega)))), (by rw [e]; exact o2), (fun q hq => (o3 q hq).trans (hq0.fr q hq))⟩)
          · refine o_bipush (v := (-2 : Int32)) hC dX8_fold_44 (by decide +kernel) ?_
            refine o_goto (tgt := 63) hC dX8_fold_46 (by decide) ?_
            refine o_iret hC hB dX8_fold_63 (Nat.le_of_ble_eq_true rfl) (Nat.le_of_ble_eq_true rfl) ?_
            first
            | (have e : sh_fold z (nI j) kk jj kd = (-2, z) := (if_neg nk).trans (if_pos (Or.inl c_35)); exact ⟨_, rfl, rfl, (by rw [e]; exact ⟨_, _, _, S, hu.dp hq0 rfl rfl rfl rfl ⟨wrc, hrc6, hrc⟩, rfl, Or.inl ⟨rfl, rfl⟩, fun q a b => rl_u_n (by omega)⟩), (by rw [e]), hq0.fr⟩)
            | (have e : sh_fold z (nI j) kk jj kd = (-2, z) := (if_neg nk).trans (if_pos (Or.inr c_41)); exact ⟨_, rfl, rfl, (by rw [e]; exact ⟨_, _, _, S, hu.dp hq0 rfl rfl rfl rfl ⟨wrc, hrc6, hrc⟩, rfl, Or.inl ⟨rfl, rfl⟩, fun q a b => rl_u_n (by omega)⟩), (by rw [e]), hq0.fr⟩)
            | (have e : sh_fold z (nI j) (nI ck) (nI cj) kd = sh_node z (nI 2) := ((if_neg nk).trans (if_neg (fun w => w.elim c_35 (fun w => w c_41)))); exact ⟨_, rfl, rfl, (by rw [e]; exact o1.im rfl (fun _ => id) (fun d9 q a b => (d9 q a b).trans (rl_u_n (by omega)))), (by rw [e]; exact o2), (fun q hq => (o3 q hq).trans (hq0.fr q hq))⟩)
      · refine o_iconst (v := (-1 : Int32)) hC dX8_fold_31 (by decide +kernel) ?_
        refine o_iret hC hB dX8_fold_32 (Nat.le_of_ble_eq_true rfl) (Nat.le_of_ble_eq_true rfl) ?_
        first
        | (have e : sh_fold z q kk jj kd = (-1, z) := if_pos (Or.inl (Or.inl (hz7.elim (fun a => a.2) (fun a => absurd (c_10.symm.trans a.1) (by decide +kernel))))); exact ⟨_, rfl, rfl, (by rw [e]; exact ⟨_, _, _, S, hu.dp hq0 rfl rfl rfl rfl ⟨wrc, hrc6, hrc⟩, rfl, Or.inl ⟨rfl, rfl⟩, fun q a b => rl_u_n (by omega)⟩), (by rw [e]), hq0.fr⟩)
        | (have e : sh_fold z (nI j) kk jj kd = (-1, z) := if_pos (Or.inl (hz16.elim (fun a => a.2) (fun a => absurd (c_19.symm.trans a.1) (by decide +kernel)))); exact ⟨_, rfl, rfl, (by rw [e]; exact ⟨_, _, _, S, hu.dp hq0 rfl rfl rfl rfl ⟨wrc, hrc6, hrc⟩, rfl, Or.inl ⟨rfl, rfl⟩, fun q a b => rl_u_n (by omega)⟩), (by rw [e]), hq0.fr⟩)
        | (have e : sh_fold z (nI j) kk jj kd = (-1, z) := if_pos (Or.inr (hz25.elim (fun a => a.2) (fun a => absurd (c_28.symm.trans a.1) (by decide +kernel)))); exact ⟨_, rfl, rfl, (by rw [e]; exact ⟨_, _, _, S, hu.dp hq0 rfl rfl rfl rfl ⟨wrc, hrc6, hrc⟩, rfl, Or.inl ⟨rfl, rfl⟩, fun q a b => rl_u_n (by omega)⟩), (by rw [e]), hq0.fr⟩)

set_option maxHeartbeats 4000000 in
set_option maxRecDepth 100000 in
theorem cm_X8_columns (l : Launch) (D : va_G) (ids : Nat → ClassId) (H0 : Heap) (h : rl_H) (n : Nat) (m : Nat) (T : md_T) (fu : Int32) (k : Nat) (S : md_A) (z : sh_S) (q : Int32) (hu : md_un ids h m T fu k S z) : rl_Met l (rl_e D ids H0) rl_BW rl_Ns yX8_columns cX8_columns 2 (some .int) ({ frames := 1, cells := 0, slots := 0, locals := 21 }) [.ref m, .int q] h n (fun v h' n' => ∃ r : Int32, v = some (.int r) ∧ n' = n ∧ mdx ids h' m T (sh_columns z q).2 (fun S' => S' = S) (∀ q : Nat, m + 12 ≤ q → q < m + 23 → h' q = h q) ∧ r = (sh_columns z q).1 ∧ rl_fr h h' m (m + 23)) := by
  obtain ⟨hq, hs, ⟨hsc, hsc4⟩, hwf, ⟨hrr, hr36⟩, ⟨hnc, hn16⟩, hnw, hpr, hnv, hwv, wrc, hrc6, hrc⟩ := id hu
  have hq0 := hq.ob (nI 0, T.2) fu k hq.2.1
  have g0 := hq.1
  obtain ⟨-, gk, ⟨⟨cl, g12⟩, ⟨tu, g13, b13⟩, ⟨im, g14⟩, ⟨te, g15, b15⟩, ⟨ne, g16⟩, ⟨la, g17⟩, ⟨hn, g18⟩, ⟨hl, g19⟩, ⟨tp, g20⟩, ⟨gr, g21, b21⟩, ⟨it, g22⟩⟩, gf⟩ := id hq
  obtain ⟨a1, a2, a3, a4, a5, a6, a7, a8, a9, a10, a11⟩ := id hs
  have hu0 : md_un ids _ m (nI 0, T.2) fu k S z := hu.dp hq0 rfl rfl rfl rfl ⟨wrc, hrc6, hrc⟩
  refine rl_Met.of (by decide +kernel) (Nat.le_of_ble_eq_true rfl) ?_
  intro X hC hB
  show rl_G X (rl_e D ids H0) 0 [some (.ref m), some (.int q)] [] h n 0 0
  refine o_aload_n hC dX8_columns_0 (by rfl) ?_
  refine o_iconst (v := nI 0) hC dX8_columns_1 (by decide +kernel) ?_
  refine o_putf hC (fX8_78 hC rfl) (fwX8 rfl rfl rfl (Or.inl rfl)) dX8_columns_2 (by repeat (first | with_reducible assumption | (rw [rl_u_s]; done) | (rw [rl_u_s]; rfl) | rw [rl_u_n (by first | with_reducible assumption | omega)])) (Nat.le_of_ble_eq_true rfl) ?_
  try simp only [List.set_cons_zero, List.set_cons_succ]
  refine o_aload_n hC dX8_columns_5 (by rfl) ?_
  refine o_iload_n hC dX8_columns_6 (by rfl) ?_
  refine o_callV1 hC rl_BW_good rl_Ns_nw (by exact hB.2.2.2.2.2) YX8_isNode IX8_isNode VX8_isNode (mX8_126 hC) (by rw [hB.1]; exact cm_X8_isNode l D ids H0 _ _ m _ _ _ S z _ hu0) (by exact hu0.1.1) rfl rfl (Nat.le_of_ble_eq_true rfl) (by rw [hB.2.1]; first | exact Nat.le_of_ble_eq_true rfl | (dsimp only; omega)) (by rw [hB.2.1]; first | exact Nat.le_of_ble_eq_true rfl | (dsimp only; omega)) (by rw [hB.2.1]; first | exact Nat.le_of_ble_eq_true rfl | (dsimp only; omega)) (by rw [hB.2.1]; first | exact Nat.le_of_ble_eq_true rfl | (dsimp only; omega)) dX8_columns_7 (fun v h_7 n_7 p_7 => ?_)
  obtain ⟨z7, rfl, rfl, rfl, hz7⟩ := p_7
  try dsimp only [Option.toList, List.cons_append, List.nil_append]
  refine o_if_eq (tgt := 22) hC dX8_columns_10 (by decide) (fun c_10 => ?_) (fun c_10 => ?_)
  · refine o_iconst (v := (-1 : Int32)) hC dX8_columns_22 (by decide +kernel) ?_
    refine o_iret hC hB dX8_columns_23 (Nat.le_of_ble_eq_true rfl) (Nat.le_of_ble_eq_true rfl) ?_
    first
    | (have e : sh_columns z q = (-1, z) := if_pos (hz7.elim (fun a => a.2) (fun a => absurd (c_10.symm.trans a.1) (by decide +kernel))); exact ⟨_, rfl, rfl, (by rw [e]; exact ⟨_, _, _, S, hu.dp hq0 rfl rfl rfl rfl ⟨wrc, hrc6, hrc⟩, rfl, rfl, fun q a b => rl_u_n (by omega)⟩), (by rw [e]), hq0.fr⟩)
    | (have e : sh_columns z (nI j) = (nI w, z) := (if_neg nn).trans (by rw [w4]); exact ⟨_, rfl, rfl, (by rw [e]; exact ⟨_, _, _, S, hu0, rfl, rfl, fun q a b => rl_u_n (by omega)⟩), (by rw [e]), hq0.fr⟩)
  · have nn : ¬ sh_nn z q := (hz7.elim (fun a => absurd a.1 c_10) (fun a => a.2))
    obtain ⟨j, w, hj, hj16, rfl, w1, w2, w3, w4⟩ := hu.nd nn
    refine o_aload_n hC dX8_columns_13 (by rfl) ?_
    refine o_getf hC (fX8_40 hC rfl) dX8_columns_14 (by repeat (first | with_reducible assumption | (rw [rl_u_s]; done) | (rw [rl_u_s]; rfl) | rw [rl_u_n (by first | with_reducible assumption | omega)])) (by first | rfl | with_reducible assumption) ?_
    refine o_iload_n hC dX8_columns_17 (by rfl) ?_
    refine o_ialdN (t0 := 0) (k := j) hC rfl dX8_columns_18 (by repeat (first | with_reducible assumption | (rw [rl_u_s]; done) | (rw [rl_u_s]; rfl) | rw [rl_u_n (by first | with_reducible assumption | omega)])) (by omega) (by decide) ?_
    rw [w3]
    refine o_goto (tgt := 23) hC dX8_columns_19 (by decide) ?_
    refine o_iret hC hB dX8_columns_23 (Nat.le_of_ble_eq_true rfl) (Nat.le_of_ble_eq_true rfl) ?_
    first
    | (have e : sh_columns z q = (-1, z) := if_pos (hz7.elim (fun a => a.2) (fun a => absurd (c_10.symm.trans a.1) (by decide +kernel))); exact ⟨_, rfl, rfl, (by rw [e]; exact ⟨_, _, _, S, hu.dp hq0 rfl rfl rfl rfl ⟨wrc, hrc6, hrc⟩, rfl, rfl, fun q a b => rl_u_n (by omega)⟩), (by rw [e]), hq0.fr⟩)
    | (have e : sh_columns z (nI j) = (nI w, z) := (if_neg nn).trans (by rw [w4]); exact ⟨_, rfl, rfl, (by rw [e]; exact ⟨_, _, _, S, hu0, rfl, rfl, fun q a b => rl_u_n (by omega)⟩), (by rw [e]), hq0.fr⟩)
end
section
/-! THE MODEL: cols -/
theorem dg_least0 (f r : Nat) : dg_least f r 0 = 0 := Nat.le_zero.mp (dg_least_le f r 0)
theorem dg_least_z (f l : Nat) : dg_least f 0 l = l := by
  cases f with
  | zero => rfl
  | succ f => rw [dg_least, if_pos rfl]
theorem dg_great_z (f l : Nat) : dg_great f 0 l = l := by
  cases f with
  | zero => rfl
  | succ f => rw [dg_great, if_pos rfl]
theorem dg_count_z (f l : Nat) : dg_count f 0 l = l := by
  cases f with
  | zero => rfl
  | succ f => rw [dg_count, if_pos rfl]

set_option maxHeartbeats 4000000 in
set_option maxRecDepth 100000 in
theorem cm_X8_cols (l : Launch) (D : va_G) (ids : Nat → ClassId) (H0 : Heap) (h : rl_H) (n : Nat) (m : Nat) (T : md_T) (fu : Int32) (k : Nat) (S : md_A) (z : sh_S) (q d : Int32) (hu : md_un ids h m T fu k S z) : rl_Met l (rl_e D ids H0) rl_BW rl_Ns yX8_cols cX8_cols 6 (some .int) ({ frames := 1, cells := 0, slots := 0, locals := 28 }) [.ref m, .int q, .int d] h n (fun v h' n' => ∃ r : Int32, v = some (.int r) ∧ n' = n ∧ mdx ids h' m T (sh_cols z q d).2 (fun S' => (S' = S ∧ (sh_cols z q d).2 = z) ∨ ∃ w9 : Int32, S' = (S.1, S.2.1, S.2.2.1, upd S.2.2.2.1 z.2.2.2.1 (nI 2), upd S.2.2.2.2.1 z.2.2.2.1 q, upd S.2.2.2.2.2.1 z.2.2.2.1 (nI 0), upd S.2.2.2.2.2.2.1 z.2.2.2.1 d, upd S.2.2.2.2.2.2.2.1 z.2.2.2.1 (nI 0), upd S.2.2.2.2.2.2.2.2.1 z.2.2.2.1 (nI 0), upd S.2.2.2.2.2.2.2.2.2.1 z.2.2.2.1 (nI 0), upd S.2.2.2.2.2.2.2.2.2.2 z.2.2.2.1 w9) ∧ (sh_cols z q d).2.2.2.2.1 = z.2.2.2.1 + 1) (∀ q : Nat, m + 12 ≤ q → q < m + 23 → h' q = h q) ∧ r = (sh_cols z q d).1 ∧ rl_fr h h' m (m + 23)) := by
  obtain ⟨hq, hs, ⟨hsc, hsc4⟩, hwf, ⟨hrr, hr36⟩, ⟨hnc, hn16⟩, hnw, hpr, hnv, hwv, wrc, hrc6, hrc⟩ := id hu
  have hq0 := hq.ob (nI 0, T.2) fu k hq.2.1
  have g0 := hq.1
  obtain ⟨-, gk, ⟨⟨cl, g12⟩, ⟨tu, g13, b13⟩, ⟨im, g14⟩, ⟨te, g15, b15⟩, ⟨ne, g16⟩, ⟨la, g17⟩, ⟨hn, g18⟩, ⟨hl, g19⟩, ⟨tp, g20⟩, ⟨gr, g21, b21⟩, ⟨it, g22⟩⟩, gf⟩ := id hq
  obtain ⟨a1, a2, a3, a4, a5, a6, a7, a8, a9, a10, a11⟩ := id hs
  have hu0 : md_un ids _ m (nI 0, T.2) fu k S z := hu.dp hq0 rfl rfl rfl rfl ⟨wrc, hrc6, hrc⟩
  refine rl_Met.of (by decide +kernel) (Nat.le_of_ble_eq_true rfl) ?_
  intro X hC hB
  show rl_G X (rl_e D ids H0) 0 [some (.ref m), some (.int q), some (.int d), none, none, none] [] h n 0 0
  refine o_aload_n hC dX8_cols_0 (by rfl) ?_
  refine o_iconst (v := nI 0) hC dX8_cols_1 (by decide +kernel) ?_
  refine o_putf hC (fX8_78 hC rfl) (fwX8 rfl rfl rfl (Or.inl rfl)) dX8_cols_2 (by repeat (first | with_reducible assumption | (rw [rl_u_s]; done) | (rw [rl_u_s]; rfl) | rw [rl_u_n (by first | with_reducible assumption | omega)])) (Nat.le_of_ble_eq_true rfl) ?_
  try simp only [List.set_cons_zero, List.set_cons_succ]
  refine o_aload_n hC dX8_cols_5 (by rfl) ?_
  refine o_iload_n hC dX8_cols_6 (by rfl) ?_
  refine o_callV1 hC rl_BW_good rl_Ns_nw (by exact hB.2.2.2.2.2) YX8_isNode IX8_isNode VX8_isNode (mX8_126 hC) (by rw [hB.1]; exact cm_X8_isNode l D ids H0 _ _ m _ _ _ S z _ hu0) (by exact hu0.1.1) rfl rfl (Nat.le_of_ble_eq_true rfl) (by rw [hB.2.1]; first | exact Nat.le_of_ble_eq_true rfl | (dsimp only; omega)) (by rw [hB.2.1]; first | exact Nat.le_of_ble_eq_true rfl | (dsimp only; omega)) (by rw [hB.2.1]; first | exact Nat.le_of_ble_eq_true rfl | (dsimp only; omega)) (by rw [hB.2.1]; first | exact Nat.le_of_ble_eq_true rfl | (dsimp only; omega)) dX8_cols_7 (fun v h_7 n_7 p_7 => ?_)
  obtain ⟨z7, rfl, rfl, rfl, hz7⟩ := p_7
  try dsimp only [Option.toList, List.cons_append, List.nil_append]
  refine o_if_ne (tgt := 15) hC dX8_cols_10 (by decide) (fun c_10 => ?_) (fun c_10 => ?_)
  · have nn : ¬ sh_nn z q := (hz7.elim (fun a => absurd a.1 c_10) (fun a => a.2))
    obtain ⟨j, w, hj, hj16, rfl, w1, w2, w3, w4⟩ := hu.nd nn
    refine o_iload_n hC dX8_cols_15 (by rfl) ?_
    refine o_iconst (v := nI 1) hC dX8_cols_16 (by decide +kernel) ?_
    refine o_icmp_lt (tgt := 26) hC dX8_cols_17 (by decide) (fun c_17 => ?_) (fun c_17 => ?_)
    · refine o_bipush (v := (-2 : Int32)) hC dX8_cols_26 (by decide +kernel) ?_
      refine o_iret hC hB dX8_cols_28 (Nat.le_of_ble_eq_true rfl) (Nat.le_of_ble_eq_true rfl) ?_
      first
      | (have e : sh_cols z (nI j) d = (-2, z) := (if_neg nn).trans (if_pos (Or.inl c_17)); exact ⟨_, rfl, rfl, (by rw [e]; exact ⟨_, _, _, S, hu.dp hq0 rfl rfl rfl rfl ⟨wrc, hrc6, hrc⟩, rfl, Or.inl ⟨rfl, rfl⟩, fun q a b => rl_u_n (by omega)⟩), (by rw [e]), hq0.fr⟩)
      | (have e : sh_cols z (nI j) d = (-2, z) := (if_neg nn).trans (if_pos (Or.inr (Or.inl (Int32.not_le.mp c_23)))); exact ⟨_, rfl, rfl, (by rw [e]; exact ⟨_, _, _, S, hu.dp hq0 rfl rfl rfl rfl ⟨wrc, hrc6, hrc⟩, rfl, Or.inl ⟨rfl, rfl⟩, fun q a b => rl_u_n (by omega)⟩), (by rw [e]), hq0.fr⟩)
    · refine o_iload_n hC dX8_cols_20 (by rfl) ?_
      refine o_ldc hC nX8_133 dX8_cols_21 ?_
      refine o_icmp_le (tgt := 29) hC dX8_cols_23 (by decide) (fun c_23 => ?_) (fun c_23 => ?_)
      · obtain ⟨N, hN, rfl⟩ := nI_of2 (M := (999999 : Int32)) (n := 999999) (by decide +kernel) (fun w => c_17 (Int32.lt_of_lt_of_le w (by decide +kernel))) c_23
        have hcl : (nI N).toNatClampNeg = N := rl_cl (N := 1000000) (by omega) (by decide)
        have h7 : N < 10 ^ 7 := Nat.lt_of_le_of_lt hN (by decide)
        refine o_iconst (v := nI 0) hC dX8_cols_29 (by decide +kernel) ?_
        refine o_istore_n hC dX8_cols_30 (Nat.le_of_ble_eq_true rfl) ?_
        refine o_iconst (v := nI 0) hC dX8_cols_31 (by decide +kernel) ?_
        refine o_istore hC dX8_cols_32 (Nat.le_of_ble_eq_true rfl) ?_
        refine o_iload_n hC dX8_cols_34 (by rfl) ?_
        refine o_istore hC dX8_cols_35 (Nat.le_of_ble_eq_true rfl) ?_
        have loop : ∀ (f R c lm g : Nat) (fl : Int32), R < 10 ^ f → f ≤ 7 → c + f ≤ 7 → lm ≠ 0 → lm < 10 → g < 10 → dg_least 7 N 9 = dg_least f R lm → dg_great 7 N 0 = dg_great f R g → dg_count 7 N 0 = dg_count f R c → fl = (if nI w < nI g then nI 1 else nI 0) → rl_G X (rl_e D ids H0) 37 [some (.ref m), some (.int (nI j)), some (.int (nI N)), some (.int (nI c)), some (.int fl), some (.int (nI R))] [] (rl_u h m (md_ob m (nI 0, T.2) fu k)) n_7 0 0 := by
          intro f
          induction f with
          | zero =>
            intro R c lm g fl hR hf hcf hl hl10 hg10 h1 h2 h3 hfl
            have hz : R = 0 := by
              rw [Nat.pow_zero] at hR
              omega
            subst hz
            refine o_iload hC dX8_cols_37 (by rfl) ?_
            refine o_if_le (tgt := 92) hC dX8_cols_39 (by decide) (fun c_39 => ?_) (fun c_39 => ?_)
            · by_cases hlt : nI w < nI g
              · rw [if_pos hlt] at hfl
                subst hfl
                refine o_iload hC dX8_cols_92 (by rfl) ?_
                refine o_if_eq (tgt := 101) hC dX8_cols_94 (by decide) (fun c_94 => ?_) (fun c_94 => ?_)
                · exact absurd c_94 (by decide +kernel)
                · refine o_iconst (v := (-1 : Int32)) hC dX8_cols_97 (by decide +kernel) ?_
                  refine o_goto (tgt := 113) hC dX8_cols_98 (by decide) ?_
                  refine o_iret hC hB dX8_cols_113 (Nat.le_of_ble_eq_true rfl) (Nat.le_of_ble_eq_true rfl) ?_
                  (have e : sh_cols z (nI j) (nI N) = (-1, z) := (if_neg nn).trans ((if_neg (fun e => e.elim c_17 (fun e => e.elim (fun e => absurd c_23 (Int32.not_le.mpr e)) (fun e => hl (by rw [hcl, h1, dg_least_z] at e; exact e))))).trans (if_pos (by rw [hcl, h2, dg_great_z, w4]; exact hlt))); exact ⟨_, rfl, rfl, (by rw [e]; exact ⟨_, _, _, S, hu0, rfl, Or.inl ⟨rfl, rfl⟩, fun q a b => rl_u_n (by omega)⟩), (by rw [e]), hq0.fr⟩)
              · rw [if_neg hlt] at hfl
                subst hfl
                refine o_iload hC dX8_cols_92 (by rfl) ?_
                refine o_if_eq (tgt := 101) hC dX8_cols_94 (by decide) (fun c_94 => ?_) (fun c_94 => ?_)
                · refine o_aload_n hC dX8_cols_101 (by rfl) ?_
                  refine o_iconst (v := nI 2) hC dX8_cols_102 (by decide +kernel) ?_
                  refine o_iload_n hC dX8_cols_103 (by rfl) ?_
                  refine o_iconst (v := nI 0) hC dX8_cols_104 (by decide +kernel) ?_
                  refine o_iload_n hC dX8_cols_105 (by rfl) ?_
                  refine o_iconst (v := nI 0) hC dX8_cols_106 (by decide +kernel) ?_
                  refine o_iconst (v := nI 0) hC dX8_cols_107 (by decide +kernel) ?_
                  refine o_iconst (v := nI 0) hC dX8_cols_108 (by decide +kernel) ?_
                  refine o_iload_n hC dX8_cols_109 (by rfl) ?_
                  refine o_callV8 hC rl_BW_good rl_Ns_nw (by exact hB.2.2.2.2.2) YX8_node IX8_node VX8_node (mX8_122 hC) (by rw [hB.1]; exact cm_X8_node l D ids H0 _ _ m _ _ _ S z _ _ _ _ _ _ _ _ hu0 (fun h16 => (by
                         have g6 : g ≤ 6 := by
                           rcases Nat.lt_or_ge w g with u | u
                           · exact absurd (nI_lt u (by omega)) hlt
                           · omega
                         have u6 : dg_count 7 N 0 ≤ 0 + 6 := dg_count_ub 6 7 N 0 (Nat.lt_of_le_of_lt hN (by decide))
                         have lb : 1 ≤ dg_count 7 N 0 := by
                           have n0 : N ≠ 0 := fun u => c_17 (by rw [u]; decide +kernel)
                           rw [dg_count, if_neg n0]
                           exact dg_count_lb 6 _ _
                         rw [h3, dg_count_z] at u6 lb
                         exact md_nv.new (op := 2) (w := c) (by decide) lb (by omega) (fun _ => ⟨j, w, hj, w2, rfl, w3, fun q => absurd q (by decide)⟩) (fun q => absurd q (by decide)) (fun q => absurd q (by decide)) (fun _ => ⟨N, Nat.lt_of_le_of_lt hN (by decide), rfl, fun c0 hc0 => by
                           have c7 : c0 < 7 := by
                             rcases Nat.lt_or_ge c0 7 with u | u
                             · exact u
                             · exact absurd (Nat.div_eq_of_lt (Nat.lt_of_lt_of_le h7 (Nat.pow_le_pow_right (by decide) u))) hc0
                           exact ⟨dg_least_ge 7 N 9 (by rw [h1, dg_least_z]; exact hl) c0 c7 hc0, Nat.le_trans (dg_great_le 7 N 0 c0 c7) (by rw [h2, dg_great_z]; exact g6)⟩⟩) (fun q => absurd q (by decide))))) (by exact hu0.1.1) rfl rfl (Nat.le_of_ble_eq_true rfl) (by rw [hB.2.1]; first | exact Nat.le_of_ble_eq_true rfl | (dsimp only; omega)) (by rw [hB.2.1]; first | exact Nat.le_of_ble_eq_true rfl | (dsimp only; omega)) (by rw [hB.2.1]; first | exact Nat.le_of_ble_eq_true rfl | (dsimp only; omega)) (by rw [hB.2.1]; first | exact Nat.le_of_ble_eq_true rfl | (dsimp only; omega)) dX8_cols_110 (fun v h_110 n_110 p_110 => ?_)
                  obtain ⟨r110, rfl, rfl, o1, o2, o3⟩ := p_110
                  try dsimp only [Option.toList, List.cons_append, List.nil_append]
                  refine o_iret hC hB dX8_cols_113 (Nat.le_of_ble_eq_true rfl) (Nat.le_of_ble_eq_true rfl) ?_
                  (have e : sh_cols z (nI j) (nI N) = sh_node z (nI c) := (if_neg nn).trans ((if_neg (fun e => e.elim c_17 (fun e => e.elim (fun e => absurd c_23 (Int32.not_le.mpr e)) (fun e => hl (by rw [hcl, h1, dg_least_z] at e; exact e))))).trans ((if_neg (by rw [hcl, h2, dg_great_z, w4]; exact hlt)).trans (by rw [hcl, h3, dg_count_z]))); exact ⟨_, rfl, rfl, (by rw [e]; exact o1.im rfl (fun _ => id) (fun d9 q a b => (d9 q a b).trans (rl_u_n (by omega)))), (by rw [e]; exact o2), (fun q hq => (o3 q hq).trans (hq0.fr q hq))⟩)
                · exact absurd rfl c_94
            · exact absurd (by decide +kernel) c_39
          | succ f ih =>
            intro R c lm g fl hR hf hcf hl hl10 hg10 h1 h2 h3 hfl
            rcases Nat.eq_zero_or_pos R with hz | hz
            · subst hz
              refine o_iload hC dX8_cols_37 (by rfl) ?_
              refine o_if_le (tgt := 92) hC dX8_cols_39 (by decide) (fun c_39 => ?_) (fun c_39 => ?_)
              · by_cases hlt : nI w < nI g
                · rw [if_pos hlt] at hfl
                  subst hfl
                  refine o_iload hC dX8_cols_92 (by rfl) ?_
                  refine o_if_eq (tgt := 101) hC dX8_cols_94 (by decide) (fun c_94 => ?_) (fun c_94 => ?_)
                  · exact absurd c_94 (by decide +kernel)
                  · refine o_iconst (v := (-1 : Int32)) hC dX8_cols_97 (by decide +kernel) ?_
                    refine o_goto (tgt := 113) hC dX8_cols_98 (by decide) ?_
                    refine o_iret hC hB dX8_cols_113 (Nat.le_of_ble_eq_true rfl) (Nat.le_of_ble_eq_true rfl) ?_
                    (have e : sh_cols z (nI j) (nI N) = (-1, z) := (if_neg nn).trans ((if_neg (fun e => e.elim c_17 (fun e => e.elim (fun e => absurd c_23 (Int32.not_le.mpr e)) (fun e => hl (by rw [hcl, h1, dg_least_z] at e; exact e))))).trans (if_pos (by rw [hcl, h2, dg_great_z, w4]; exact hlt))); exact ⟨_, rfl, rfl, (by rw [e]; exact ⟨_, _, _, S, hu0, rfl, Or.inl ⟨rfl, rfl⟩, fun q a b => rl_u_n (by omega)⟩), (by rw [e]), hq0.fr⟩)
                · rw [if_neg hlt] at hfl
                  subst hfl
                  refine o_iload hC dX8_cols_92 (by rfl) ?_
                  refine o_if_eq (tgt := 101) hC dX8_cols_94 (by decide) (fun c_94 => ?_) (fun c_94 => ?_)
                  · refine o_aload_n hC dX8_cols_101 (by rfl) ?_
                    refine o_iconst (v := nI 2) hC dX8_cols_102 (by decide +kernel) ?_
                    refine o_iload_n hC dX8_cols_103 (by rfl) ?_
                    refine o_iconst (v := nI 0) hC dX8_cols_104 (by decide +kernel) ?_
                    refine o_iload_n hC dX8_cols_105 (by rfl) ?_
                    refine o_iconst (v := nI 0) hC dX8_cols_106 (by decide +kernel) ?_
                    refine o_iconst (v := nI 0) hC dX8_cols_107 (by decide +kernel) ?_
                    refine o_iconst (v := nI 0) hC dX8_cols_108 (by decide +kernel) ?_
                    refine o_iload_n hC dX8_cols_109 (by rfl) ?_
                    refine o_callV8 hC rl_BW_good rl_Ns_nw (by exact hB.2.2.2.2.2) YX8_node IX8_node VX8_node (mX8_122 hC) (by rw [hB.1]; exact cm_X8_node l D ids H0 _ _ m _ _ _ S z _ _ _ _ _ _ _ _ hu0 (fun h16 => (by
                           have g6 : g ≤ 6 := by
                             rcases Nat.lt_or_ge w g with u | u
                             · exact absurd (nI_lt u (by omega)) hlt
                             · omega
                           have u6 : dg_count 7 N 0 ≤ 0 + 6 := dg_count_ub 6 7 N 0 (Nat.lt_of_le_of_lt hN (by decide))
                           have lb : 1 ≤ dg_count 7 N 0 := by
                             have n0 : N ≠ 0 := fun u => c_17 (by rw [u]; decide +kernel)
                             rw [dg_count, if_neg n0]
                             exact dg_count_lb 6 _ _
                           rw [h3, dg_count_z] at u6 lb
                           exact md_nv.new (op := 2) (w := c) (by decide) lb (by omega) (fun _ => ⟨j, w, hj, w2, rfl, w3, fun q => absurd q (by decide)⟩) (fun q => absurd q (by decide)) (fun q => absurd q (by decide)) (fun _ => ⟨N, Nat.lt_of_le_of_lt hN (by decide), rfl, fun c0 hc0 => by
                             have c7 : c0 < 7 := by
                               rcases Nat.lt_or_ge c0 7 with u | u
                               · exact u
                               · exact absurd (Nat.div_eq_of_lt (Nat.lt_of_lt_of_le h7 (Nat.pow_le_pow_right (by decide) u))) hc0
                             exact ⟨dg_least_ge 7 N 9 (by rw [h1, dg_least_z]; exact hl) c0 c7 hc0, Nat.le_trans (dg_great_le 7 N 0 c0 c7) (by rw [h2, dg_great_z]; exact g6)⟩⟩) (fun q => absurd q (by decide))))) (by exact hu0.1.1) rfl rfl (Nat.le_of_ble_eq_true rfl) (by rw [hB.2.1]; first | exact Nat.le_of_ble_eq_true rfl | (dsimp only; omega)) (by rw [hB.2.1]; first | exact Nat.le_of_ble_eq_true rfl | (dsimp only; omega)) (by rw [hB.2.1]; first | exact Nat.le_of_ble_eq_true rfl | (dsimp only; omega)) (by rw [hB.2.1]; first | exact Nat.le_of_ble_eq_true rfl | (dsimp only; omega)) dX8_cols_110 (fun v h_110 n_110 p_110 => ?_)
                    obtain ⟨r110, rfl, rfl, o1, o2, o3⟩ := p_110
                    try dsimp only [Option.toList, List.cons_append, List.nil_append]
                    refine o_iret hC hB dX8_cols_113 (Nat.le_of_ble_eq_true rfl) (Nat.le_of_ble_eq_true rfl) ?_
                    (have e : sh_cols z (nI j) (nI N) = sh_node z (nI c) := (if_neg nn).trans ((if_neg (fun e => e.elim c_17 (fun e => e.elim (fun e => absurd c_23 (Int32.not_le.mpr e)) (fun e => hl (by rw [hcl, h1, dg_least_z] at e; exact e))))).trans ((if_neg (by rw [hcl, h2, dg_great_z, w4]; exact hlt)).trans (by rw [hcl, h3, dg_count_z]))); exact ⟨_, rfl, rfl, (by rw [e]; exact o1.im rfl (fun _ => id) (fun d9 q a b => (d9 q a b).trans (rl_u_n (by omega)))), (by rw [e]; exact o2), (fun q hq => (o3 q hq).trans (hq0.fr q hq))⟩)
                  · exact absurd rfl c_94
              · exact absurd (by decide +kernel) c_39
            · have RB : R < 10 ^ 7 := Nat.lt_of_lt_of_le hR (Nat.pow_le_pow_right (by decide) (by omega))
              have RB2 : R < 10000000 := RB
              have hd1 : R / 10 < 10 ^ f := by
                rw [Nat.pow_succ] at hR
                omega
              refine o_iload hC dX8_cols_37 (by rfl) ?_
              refine o_if_le (tgt := 92) hC dX8_cols_39 (by decide) (fun c_39 => ?_) (fun c_39 => ?_)
              · exact absurd (show nI R ≤ nI 0 from c_39) (nI_ge hz (by omega))
              · refine o_iload hC dX8_cols_42 (by rfl) ?_
                refine o_bipush (v := nI 10) hC dX8_cols_44 (by decide +kernel) ?_
                refine o_irem hC dX8_cols_46 (by decide +kernel) ?_
                rw [pk_rem (by omega) (by decide) (by decide)]
                refine o_if_ne (tgt := 53) hC dX8_cols_47 (by decide) (fun c_47 => ?_) (fun c_47 => ?_)
                · refine o_iload hC dX8_cols_53 (by rfl) ?_
                  refine o_if_ne (tgt := 72) hC dX8_cols_55 (by decide) (fun c_55 => ?_) (fun c_55 => ?_)
                  · have e0 : R % 10 ≠ 0 := fun e => c_47 (by rw [e]; rfl)
                    have q : w < (if g < R % 10 then R % 10 else g) := by
                      by_cases u : w < g
                      · split <;> omega
                      · have fl0 : fl = nI 0 := by rw [hfl, if_neg (fun v => u ((nI_ltI (by omega) (by omega)).mp v))]
                        have q2 : w < R % 10 := by
                          rcases Nat.lt_or_ge w (R % 10) with v | v
                          · exact v
                          · first
                            | exact absurd fl0 c_55
                            | exact absurd (nI_le v (by omega)) c_69
                        split <;> omega
                    refine o_iconst (v := nI 1) hC dX8_cols_72 (by decide +kernel) ?_
                    refine o_goto (tgt := 77) hC dX8_cols_73 (by decide) ?_
                    refine o_istore hC dX8_cols_77 (Nat.le_of_ble_eq_true rfl) ?_
                    refine o_iinc hC dX8_cols_79 (by rfl) (rl_inc _) (Nat.le_of_ble_eq_true rfl) ?_
                    refine o_iload hC dX8_cols_82 (by rfl) ?_
                    refine o_bipush (v := nI 10) hC dX8_cols_84 (by decide +kernel) ?_
                    refine o_idiv hC dX8_cols_86 (by decide +kernel) ?_
                    rw [pk_div (by omega) (by decide) (by decide)]
                    refine o_istore hC dX8_cols_87 (Nat.le_of_ble_eq_true rfl) ?_
                    refine o_goto (tgt := 37) hC dX8_cols_89 (by decide) ?_
                    refine ih (R / 10) (c + 1) (if R % 10 < lm then R % 10 else lm) (if g < R % 10 then R % 10 else g) _ hd1 (by omega) (by omega) (by split <;> omega) (by split <;> omega) (by split <;> omega) (by rw [h1, dg_least, if_neg (by omega)]) (by rw [h2, dg_great, if_neg (by omega)]) (by rw [h3, dg_count, if_neg (by omega)]) ?_
                    rw [if_pos (nI_lt q (by split <;> omega))]
                  · refine o_iload hC dX8_cols_58 (by rfl) ?_
                    refine o_bipush (v := nI 10) hC dX8_cols_60 (by decide +kernel) ?_
                    refine o_irem hC dX8_cols_62 (by decide +kernel) ?_
                    rw [pk_rem (by omega) (by decide) (by decide)]
                    refine o_aload_n hC dX8_cols_63 (by rfl) ?_
                    refine o_getf hC (fX8_40 hC rfl) dX8_cols_64 (by repeat (first | with_reducible assumption | (rw [rl_u_s]; done) | (rw [rl_u_s]; rfl) | rw [rl_u_n (by first | with_reducible assumption | omega)])) (by first | rfl | with_reducible assumption) ?_
                    refine o_iload_n hC dX8_cols_67 (by rfl) ?_
                    refine o_ialdN (t0 := 0) (k := j) hC rfl dX8_cols_68 (by repeat (first | with_reducible assumption | (rw [rl_u_s]; done) | (rw [rl_u_s]; rfl) | rw [rl_u_n (by first | with_reducible assumption | omega)])) (by omega) (by decide) ?_
                    rw [w3]
                    refine o_icmp_le (tgt := 76) hC dX8_cols_69 (by decide) (fun c_69 => ?_) (fun c_69 => ?_)
                    · have e0 : R % 10 ≠ 0 := fun e => c_47 (by rw [e]; rfl)
                      have q : (if g < R % 10 then R % 10 else g) ≤ w := by
                        have q2 : R % 10 ≤ w := (nI_leI (by omega) (by omega)).mp c_69
                        by_cases u : w < g
                        · have fl1 : fl = nI 1 := by rw [hfl, if_pos (nI_lt u (by omega))]
                          exact absurd (fl1.symm.trans c_55) (by decide +kernel)
                        · split <;> omega
                      refine o_iconst (v := nI 0) hC dX8_cols_76 (by decide +kernel) ?_
                      refine o_istore hC dX8_cols_77 (Nat.le_of_ble_eq_true rfl) ?_
                      refine o_iinc hC dX8_cols_79 (by rfl) (rl_inc _) (Nat.le_of_ble_eq_true rfl) ?_
                      refine o_iload hC dX8_cols_82 (by rfl) ?_
                      refine o_bipush (v := nI 10) hC dX8_cols_84 (by decide +kernel) ?_
                      refine o_idiv hC dX8_cols_86 (by decide +kernel) ?_
                      rw [pk_div (by omega) (by decide) (by decide)]
                      refine o_istore hC dX8_cols_87 (Nat.le_of_ble_eq_true rfl) ?_
                      refine o_goto (tgt := 37) hC dX8_cols_89 (by decide) ?_
                      refine ih (R / 10) (c + 1) (if R % 10 < lm then R % 10 else lm) (if g < R % 10 then R % 10 else g) _ hd1 (by omega) (by omega) (by split <;> omega) (by split <;> omega) (by split <;> omega) (by rw [h1, dg_least, if_neg (by omega)]) (by rw [h2, dg_great, if_neg (by omega)]) (by rw [h3, dg_count, if_neg (by omega)]) ?_
                      rw [if_neg (nI_nlt q (by omega))]
                    · have e0 : R % 10 ≠ 0 := fun e => c_47 (by rw [e]; rfl)
                      have q : w < (if g < R % 10 then R % 10 else g) := by
                        by_cases u : w < g
                        · split <;> omega
                        · have fl0 : fl = nI 0 := by rw [hfl, if_neg (fun v => u ((nI_ltI (by omega) (by omega)).mp v))]
                          have q2 : w < R % 10 := by
                            rcases Nat.lt_or_ge w (R % 10) with v | v
                            · exact v
                            · first
                              | exact absurd fl0 c_55
                              | exact absurd (nI_le v (by omega)) c_69
                          split <;> omega
                      refine o_iconst (v := nI 1) hC dX8_cols_72 (by decide +kernel) ?_
                      refine o_goto (tgt := 77) hC dX8_cols_73 (by decide) ?_
                      refine o_istore hC dX8_cols_77 (Nat.le_of_ble_eq_true rfl) ?_
                      refine o_iinc hC dX8_cols_79 (by rfl) (rl_inc _) (Nat.le_of_ble_eq_true rfl) ?_
                      refine o_iload hC dX8_cols_82 (by rfl) ?_
                      refine o_bipush (v := nI 10) hC dX8_cols_84 (by decide +kernel) ?_
                      refine o_idiv hC dX8_cols_86 (by decide +kernel) ?_
                      rw [pk_div (by omega) (by decide) (by decide)]
                      refine o_istore hC dX8_cols_87 (Nat.le_of_ble_eq_true rfl) ?_
                      refine o_goto (tgt := 37) hC dX8_cols_89 (by decide) ?_
                      refine ih (R / 10) (c + 1) (if R % 10 < lm then R % 10 else lm) (if g < R % 10 then R % 10 else g) _ hd1 (by omega) (by omega) (by split <;> omega) (by split <;> omega) (by split <;> omega) (by rw [h1, dg_least, if_neg (by omega)]) (by rw [h2, dg_great, if_neg (by omega)]) (by rw [h3, dg_count, if_neg (by omega)]) ?_
                      rw [if_pos (nI_lt q (by split <;> omega))]
                · refine o_bipush (v := (-2 : Int32)) hC dX8_cols_50 (by decide +kernel) ?_
                  refine o_iret hC hB dX8_cols_52 (Nat.le_of_ble_eq_true rfl) (Nat.le_of_ble_eq_true rfl) ?_
                  (have e0 : R % 10 = 0 := nI_inj2 (by omega) (by decide) c_47; have el : dg_least 7 N 9 = 0 := (by rw [h1, dg_least, if_neg (by omega), e0, if_pos (by omega)]; exact dg_least0 f (R / 10)); have e : sh_cols z (nI j) (nI N) = (-2, z) := (if_neg nn).trans (if_pos (Or.inr (Or.inr (by rw [hcl]; exact el)))); exact ⟨_, rfl, rfl, (by rw [e]; exact ⟨_, _, _, S, hu0, rfl, Or.inl ⟨rfl, rfl⟩, fun q a b => rl_u_n (by omega)⟩), (by rw [e]), hq0.fr⟩)
        exact loop 7 N 0 9 0 _ h7 (by decide) (by decide) (by decide) (by decide) (by decide) rfl rfl rfl (by rw [if_neg (nI_nlt (Nat.zero_le _) (by omega))])
      · refine o_bipush (v := (-2 : Int32)) hC dX8_cols_26 (by decide +kernel) ?_
        refine o_iret hC hB dX8_cols_28 (Nat.le_of_ble_eq_true rfl) (Nat.le_of_ble_eq_true rfl) ?_
        first
        | (have e : sh_cols z (nI j) d = (-2, z) := (if_neg nn).trans (if_pos (Or.inl c_17)); exact ⟨_, rfl, rfl, (by rw [e]; exact ⟨_, _, _, S, hu.dp hq0 rfl rfl rfl rfl ⟨wrc, hrc6, hrc⟩, rfl, Or.inl ⟨rfl, rfl⟩, fun q a b => rl_u_n (by omega)⟩), (by rw [e]), hq0.fr⟩)
        | (have e : sh_cols z (nI j) d = (-2, z) := (if_neg nn).trans (if_pos (Or.inr (Or.inl (Int32.not_le.mp c_23)))); exact ⟨_, rfl, rfl, (by rw [e]; exact ⟨_, _, _, S, hu.dp hq0 rfl rfl rfl rfl ⟨wrc, hrc6, hrc⟩, rfl, Or.inl ⟨rfl, rfl⟩, fun q a b => rl_u_n (by omega)⟩), (by rw [e]), hq0.fr⟩)
  · refine o_iconst (v := (-1 : Int32)) hC dX8_cols_13 (by decide +kernel) ?_
    refine o_iret hC hB dX8_cols_14 (Nat.le_of_ble_eq_true rfl) (Nat.le_of_ble_eq_true rfl) ?_
    (have e : sh_cols z q d = (-1, z) := if_pos (hz7.elim (fun a => a.2) (fun a => absurd (c_10.symm.trans a.1) (by decide +kernel))); exact ⟨_, rfl, rfl, (by rw [e]; exact ⟨_, _, _, S, hu.dp hq0 rfl rfl rfl rfl ⟨wrc, hrc6, hrc⟩, rfl, Or.inl ⟨rfl, rfl⟩, fun q a b => rl_u_n (by omega)⟩), (by rw [e]), hq0.fr⟩)
end
section
/-! fresh objects; what the shallow calls leave -/
theorem op_at.sh {ids : Nat → ClassId} {h : rl_H} {o so : Nat} {dr : dr_S} {f g : Nat → Int64} {k : Nat} {gp : Nat → Option Nat} {kc : Nat → Int32} {F G : Nat → Nat → Int64} {K : Nat → Nat} (H : op_at ids h o so dr f g k gp kc F G K) : op_sh ids h o so gp := by
  obtain ⟨h1, h2, h3, h4, h5, h6, h7⟩ := H
  exact ⟨h1, ⟨_, h2⟩, ⟨_, _, _, h3⟩, h4, h5, ⟨_, h6⟩, fun m hm => ⟨_, _, _, h7 m hm⟩⟩
theorem cl_new {ids : Nat → ClassId} {h : rl_H} {n x L : Nat} (H : rw_new ids h x) (hL : x + 70 ≤ L) (hn : L ≤ n) : cl_ok ids h n x L (fun _ => 0, fun _ => 0, fun _ _ => 0, 0, 0) (fun _ => 0, 0, 0, fun _ _ => 0, -1, 0) := by
  obtain ⟨h1, h2, h3, h4, h5, h6, h7⟩ := H
  refine ⟨⟨h1, h2, ⟨_, h3.sh⟩, ⟨_, h4, fun k _ => (if_neg (Nat.not_lt_zero k)).symm⟩, ⟨_, h5, fun k _ => (if_neg (Nat.not_lt_zero k)).symm⟩, h6, ⟨_, _, _, h7⟩, Nat.le_refl _, Nat.zero_le _, fun k hk => absurd hk (Nat.not_lt_zero k), fun k hk => absurd hk (Nat.not_lt_zero k), fun k hk => absurd hk (Nat.not_lt_zero k), fun i j _ hj => absurd hj (Nat.not_lt_zero j)⟩, hL, hn, fun k hk => absurd hk (Nat.not_lt_zero k), fun k hk => absurd hk (Nat.not_lt_zero k), fun k hk => absurd hk (Nat.not_lt_zero k), fun k hk => absurd hk (Nat.not_lt_zero k)⟩
theorem md_new.ok {ids : Nat → ClassId} {h : rl_H} {m : Nat} (H : md_new ids h m) : md_ok ids h m (0, fun _ => 0, 0, 0, fun _ => 0, 0) := by
  obtain ⟨m0, m1, m2, m3, m4, m5, m6, m7, m8, m9, m10, m11, m12, m13, m14, m15, m16, m17, m18, m19, m20, m21, m22⟩ := H
  exact ⟨(nI 0, nI 0, nI 0, 0, nI 0, nI 0, nI 0), nI 0, 0, (fun _ => 0, fun _ => 0, fun _ => 0, fun _ => 0, fun _ => 0, fun _ => 0, fun _ => 0, fun _ => 0, fun _ => 0, fun _ => 0, fun _ => 0), ⟨m0, Nat.zero_le _, ⟨⟨_, m12⟩, ⟨_, m13, fun k _ => ⟨0, by decide, nI_0.symm⟩⟩, ⟨_, m14⟩, ⟨_, m15, fun k _ => ⟨0, by decide, nI_0.symm⟩⟩, ⟨_, m16⟩, ⟨_, m17⟩, ⟨_, m18⟩, ⟨_, m19⟩, ⟨_, m20⟩, ⟨_, m21, fun k _ => ⟨0, by decide, nI_0.symm⟩⟩, ⟨_, m22⟩⟩, fun _ _ _ => rfl⟩, ⟨m1, m2, m3, m4, m5, m6, m7, m8, m9, m10, m11⟩, ⟨rfl, Nat.zero_le _⟩, rfl, ⟨rfl, Nat.zero_le _⟩, ⟨rfl, Nat.zero_le _⟩, rfl, rfl, fun a ha => absurd ha (Nat.not_lt_zero a), fun a ha => absurd ha (Nat.not_lt_zero a), ⟨0, Nat.zero_le _, rfl⟩⟩
theorem cl_new.R : sh_R (fun _ => 0, fun _ => 0, fun _ _ => 0, 0, 0) (fun _ => 0, 0, 0, fun _ _ => 0, -1, 0) (0, fun _ => 0, 0, 0, fun _ => 0, 0) := ⟨rfl, rfl, rfl, rfl, fun k hk => absurd hk (Nat.not_lt_zero k), rfl⟩
theorem cl_un_8 {N : Nat → Nat → Int32} {t k f : Nat} (h : f < 8) : cl_un N t k f = N k f := if_neg (by omega)
theorem cl_src {ids : Nat → ClassId} {h h' : rl_H} {n x L : Nat} {s : cl_S} {c : cl_N} {z : sh_S} (hk : cl_ok ids h n x L s c) (hR : sh_R s c z) {q r : Int32} (H : (((q < nI 1 ∨ ¬ q ≤ nI 4) ∧ r = -2 ∧ h' = h) ∨ (¬ (q < nI 1 ∨ ¬ q ≤ nI 4) ∧ 4 ≤ s.2.2.2.1 ∧ r = -4 ∧ h' = h) ∨ (¬ (q < nI 1 ∨ ¬ q ≤ nI 4) ∧ s.2.2.2.1 < 4 ∧ r = nI s.2.2.2.1 ∧ cl_at ids h' x (upd s.1 s.2.2.2.1 q, s.2.1, s.2.2.1, s.2.2.2.1 + 1, s.2.2.2.2) c ∧ rl_fr h h' (x + 1) (x + 41)))) : ∃ s' : cl_S, cl_ok ids h' n x L s' c ∧ sh_R s' c (sh_source z q).2 ∧ r = (sh_source z q).1 ∧ cl_fr h h' x L := by
  obtain ⟨r1, r2, r3, r4, r5, r6⟩ := id hR
  rcases H with ⟨a1, a2, rfl⟩ | ⟨a1, a2, a3, rfl⟩ | ⟨a1, a2, a3, a4, a5⟩
  · have e : sh_source z q = (-2, z) := if_pos a1
    exact ⟨s, hk, by rw [e]; exact hR, by rw [e]; exact a2, cl_fr.rf⟩
  · have e : sh_source z q = (-4, z) := (if_neg a1).trans (if_pos (by omega))
    exact ⟨s, hk, by rw [e]; exact hR, by rw [e]; exact a3, cl_fr.rf⟩
  · have e : sh_source z q = (nI z.1, (z.1 + 1, upd z.2.1 z.1 q, z.2.2)) := (if_neg a1).trans (if_neg (by omega))
    have nc16 := cl_nc hk
    obtain ⟨k1, k2, k3, k4, k5, k6, k7⟩ := hk
    refine ⟨_, ⟨a4, k2, k3, k4, fun i hi => ?_, k6, fun k hk a w b e => ?_⟩, ?_, by rw [e, a3, r1], fun q z1 z2 => a5 q (by omega)⟩
    · have hi : i < s.2.2.2.1 + 1 := hi
      show ∃ w : Nat, 1 ≤ w ∧ w ≤ 4 ∧ upd s.1 s.2.2.2.1 q i = nI w
      by_cases ei : i = s.2.2.2.1
      · rw [ei, upd_at]
        obtain ⟨w, hw, rfl⟩ := nI_of2 (M := nI 4) (nI_toInt (by decide)) (fun e => a1 (Or.inl (Int32.lt_trans e (by decide +kernel)))) (Decidable.not_not.mp (fun e => a1 (Or.inr e)))
        exact ⟨w, Nat.pos_of_ne_zero (fun e => a1 (Or.inl (by rw [e]; decide +kernel))), hw, rfl⟩
      · rw [upd_lt (show i < s.2.2.2.1 by omega)]
        exact k5 i (by omega)
    · have := k4 k (by omega)
      exact (k7 k hk a w b e).eqv (fun q z1 z2 => a5 q (by omega))
    · rw [e]
      exact ⟨by rw [← r1], by rw [← r1, ← r2], r3, r4, r5, r6⟩
theorem cl_rw {ids : Nat → ClassId} {h h' : rl_H} {n x L : Nat} {s : cl_S} {c : cl_N} {z : sh_S} (hk : cl_ok ids h n x L s c) (hR : sh_R s c z) {q a b e d r : Int32} (H : (((q < 0 ∨ nI s.2.2.2.1 ≤ q) ∧ r = -1 ∧ h' = h) ∨ (¬ (q < 0 ∨ nI s.2.2.2.1 ≤ q) ∧ 36 ≤ s.2.2.2.2 ∧ r = -4 ∧ h' = h) ∨ (¬ (q < 0 ∨ nI s.2.2.2.1 ≤ q) ∧ s.2.2.2.2 < 36 ∧ r = nI s.2.2.2.2 ∧ cl_at ids h' x (s.1, upd s.2.1 s.2.2.2.2 q, (fun r => if r = s.2.2.2.2 then upd (upd (upd (upd (s.2.2.1 s.2.2.2.2) 0 a) 1 b) 2 e) 3 d else s.2.2.1 r), s.2.2.2.1, s.2.2.2.2 + 1) (c.1, c.2.1, c.2.2.1, cl_un c.2.2.2.1 c.2.2.1, -1, (c.2.2.2.2.2 ||| (1 : Int64) <<< ((nI s.2.2.2.2).toInt64 &&& 63))) ∧ ∀ k, (k < x ∨ x + 41 ≤ k) → (∀ i, i < c.2.2.1 → k ≠ c.1 i) → h' k = h k))) : ∃ (s' : cl_S) (c' : cl_N), cl_ok ids h' n x L s' c' ∧ sh_R s' c' (sh_row z q).2 ∧ r = (sh_row z q).1 ∧ cl_fr h h' x L := by
  obtain ⟨r1, r2, r3, r4, r5, r6⟩ := id hR
  rcases H with ⟨a1, a2, rfl⟩ | ⟨a1, a2, a3, rfl⟩ | ⟨a1, a2, a3, a4, a5⟩
  · rw [r1] at a1
    have e : sh_row z q = (-1, z) := if_pos a1
    exact ⟨s, c, hk, by rw [e]; exact hR, by rw [e]; exact a2, cl_fr.rf⟩
  · rw [r1] at a1
    have e : sh_row z q = (-4, z) := (if_neg a1).trans (if_pos (by omega))
    exact ⟨s, c, hk, by rw [e]; exact hR, by rw [e]; exact a3, cl_fr.rf⟩
  · rw [r1] at a1
    have e : sh_row z q = (nI z.2.2.1, (z.1, z.2.1, z.2.2.1 + 1, z.2.2.2.1, z.2.2.2.2.1, z.2.2.2.2.2 ||| (1 : Int64) <<< ((nI z.2.2.1).toInt64 &&& 63))) := (if_neg a1).trans (if_neg (by omega))
    have nc16 := cl_nc hk
    obtain ⟨k1, k2, k3, k4, k5, k6, k7⟩ := hk
    refine ⟨_, _, ⟨a4, k2, k3, k4, k5, fun k hk => (k6 k hk).of (fun i _ f hf => cl_un_8 hf), fun k hk a w b e => absurd (if_pos ⟨hk, rfl⟩) a⟩, ?_, by rw [e, a3, r3], fun q z1 z2 => a5 q (by omega) (fun i hi => ?_)⟩
    · rw [e]
      exact ⟨r1, r2, by rw [← r3], r4, fun k hk => (cl_un_8 (by decide)).trans (r5 k hk), by rw [← r6, ← r3]⟩
    · have := k4 i (by omega)
      omega
theorem cl_cols {ids : Nat → ClassId} {h : rl_H} {n x L : Nat} {s : cl_S} {c : cl_N} {z : sh_S} (hk : cl_ok ids h n x L s c) (hR : sh_R s c z) {q r : Int32} (H : (r = -1 ∧ ¬ ∃ j : Nat, j < c.2.2.1 ∧ q = nI j) ∨ ∃ j : Nat, j < c.2.2.1 ∧ q = nI j ∧ r = c.2.2.2.1 j 1) : (sh_columns z q).2 = z ∧ r = (sh_columns z q).1 := by
  unfold sh_columns
  rcases H with ⟨a1, a2⟩ | ⟨j, hj, rfl, a3⟩
  · rw [if_pos (Decidable.not_not.mp (fun e => a2 ((sh_R.nn hk hR).mpr e)))]
    exact ⟨rfl, a1⟩
  · rw [if_neg ((sh_R.nn hk hR).mp ⟨j, hj, rfl⟩)]
    exact ⟨rfl, a3.trans (sh_R.w hk hR hj).symm⟩
theorem cl_dr {ids : Nat → ClassId} {h h' : rl_H} {n x L : Nat} {s : cl_S} {c : cl_N} {z : sh_S} (hk : cl_ok ids h n x L s c) (hR : sh_R s c z) {q on r : Int32} (H : (((q < 0 ∨ nI s.2.2.2.2 ≤ q) ∧ r = -1 ∧ h' = h) ∨ (¬ (q < 0 ∨ nI s.2.2.2.2 ≤ q) ∧ r = (if dp_pr c.2.2.2.2.2 q on = c.2.2.2.2.2 then nI 0 else nI 1) ∧ cl_at ids h' x s (c.1, c.2.1, c.2.2.1, c.2.2.2.1, c.2.2.2.2.1, dp_pr c.2.2.2.2.2 q on) ∧ ∀ k, k ≠ x → h' k = h k))) : ∃ c' : cl_N, cl_ok ids h' n x L s c' ∧ sh_R s c' (sh_drop z q on).2 ∧ r = (sh_drop z q on).1 ∧ cl_fr h h' x L := by
  obtain ⟨r1, r2, r3, r4, r5, r6⟩ := id hR
  rcases H with ⟨a1, a2, rfl⟩ | ⟨a1, a2, a3, a4⟩
  · rw [r3] at a1
    have e : sh_drop z q on = (-1, z) := if_pos a1
    exact ⟨c, hk, by rw [e]; exact hR, by rw [e]; exact a2, cl_fr.rf⟩
  · rw [r3] at a1
    have e : sh_drop z q on = (if dp_pr z.2.2.2.2.2 q on = z.2.2.2.2.2 then nI 0 else nI 1, (z.1, z.2.1, z.2.2.1, z.2.2.2.1, z.2.2.2.2.1, dp_pr z.2.2.2.2.2 q on)) := if_neg a1
    have nc16 := cl_nc hk
    obtain ⟨k1, k2, k3, k4, k5, k6, k7⟩ := hk
    refine ⟨_, ⟨a3, k2, k3, k4, k5, k6, fun k hk a w b e => ?_⟩, ?_, by rw [e, a2, r6], fun q z1 z2 => a4 q (by omega)⟩
    · have hk : k < c.2.2.1 := hk
      have := k4 k (by omega)
      refine (k7 k hk a w b e).eqv (fun q z1 z2 => a4 q ?_)
      have z1 : c.1 k + 1 ≤ q := z1
      omega
    · rw [e]
      exact ⟨r1, r2, r3, r4, r5, by rw [← r6]⟩
theorem cl_clr {ids : Nat → ClassId} {h h' : rl_H} {n x L : Nat} {s : cl_S} {c : cl_N} {z : sh_S} (hk : cl_ok ids h n x L s c) (hR : sh_R s c z) (a4 : cl_at ids h' x (s.1, s.2.1, s.2.2.1, 0, 0) (c.1, c.2.1, 0, cl_un c.2.2.2.1 c.2.2.1, -1, 0)) (a5 : ∀ k, (k < x ∨ x + 41 ≤ k) → (∀ i, i < c.2.2.1 → k ≠ c.1 i) → h' k = h k) : ∃ (s' : cl_S) (c' : cl_N), cl_ok ids h' n x L s' c' ∧ sh_R s' c' (sh_clear z) ∧ cl_fr h h' x L := by
  obtain ⟨r1, r2, r3, r4, r5, r6⟩ := id hR
  have nc16 := cl_nc hk
  obtain ⟨k1, k2, k3, k4, k5, k6, k7⟩ := hk
  refine ⟨_, _, ⟨a4, k2, k3, k4, fun i hi => absurd hi (Nat.not_lt_zero i), fun i hi => absurd hi (Nat.not_lt_zero i), fun i hi => absurd hi (Nat.not_lt_zero i)⟩, ⟨rfl, r2, rfl, rfl, fun i hi => absurd hi (Nat.not_lt_zero i), rfl⟩, fun q z1 z2 => a5 q (by omega) (fun i hi => ?_)⟩
  have := k4 i (by omega)
  omega
theorem sh_R.run {s : cl_S} {c : cl_N} {z : sh_S} (hR : sh_R s c z) {N : Nat → Nat → Int32} {rs : Int32} (hN : ∀ k f : Nat, f < 8 → N k f = c.2.2.2.1 k f) : sh_R s (c.1, c.2.1, c.2.2.1, N, rs, c.2.2.2.2.2) z := ⟨hR.1, hR.2.1, hR.2.2.1, hR.2.2.2.1, fun k hk => (hN k 1 (by decide)).trans (hR.2.2.2.2.1 k hk), hR.2.2.2.2.2⟩
/-- what one round of the law may leave: objects at x, x + 70, x + 93 -/
def lg_ok (ids : Nat → ClassId) (h : rl_H) (n x : Nat) : Prop := ∃ (s : cl_S) (c : cl_N) (z : sh_S), cl_ok ids h n x (x + 94) s c ∧ sh_R s c z ∧ md_ok ids h (x + 70) z ∧ ∃ of : Nat → Int64, h (x + 93) = some (.inl (ids 1, 1, .inr (.inl of)))
theorem lg_ok.of {ids : Nat → ClassId} {h h1 h2 : rl_H} {n1 x : Nat} {s : cl_S} {c : cl_N} {z : sh_S} {of : Nat → Int64} (hou : h (x + 93) = some (.inl (ids 1, 1, .inr (.inl of)))) (f1 : cl_fr h h1 x (x + 94)) (hk : cl_ok ids h1 n1 x (x + 94) s c) (hR : sh_R s c z) (hm : md_ok ids h2 (x + 70) z) (f2 : rl_fr h1 h2 (x + 70) (x + 70 + 23)) : lg_ok ids h2 n1 x :=
  ⟨s, c, z, hk.eqv (Nat.le_refl _) (fun q hq => f2 q (by omega)), hR, hm, of, (f2 _ (by omega)).trans ((f1 _ (by omega) (by omega)).trans hou)⟩
theorem md_ok.cl {ids : Nat → ClassId} {h h1 : rl_H} {x : Nat} {z : sh_S} (hm : md_ok ids h (x + 70) z) (f1 : cl_fr h h1 x (x + 94)) : md_ok ids h1 (x + 70) z := hm.eqv (fun q a b => f1 q (by omega) (by omega))
theorem rw_new.eqw {ids : Nat → ClassId} {h h' : rl_H} {x : Nat} (H : rw_new ids h x) (he : ∀ q, x ≤ q → q < x + 70 → h' q = h q) : rw_new ids h' x :=
  ⟨by rw [he x (by omega) (by omega)]; exact H.1, H.2.1.eqv (fun q a b => he q (by omega) (by omega)), H.2.2.1.eqv (fun q a b => he q (by omega) (by omega)), by rw [he (x + 63) (by omega) (by omega)]; exact H.2.2.2.1, by rw [he (x + 64) (by omega) (by omega)]; exact H.2.2.2.2.1, by rw [he (x + 65) (by omega) (by omega)]; exact H.2.2.2.2.2.1, H.2.2.2.2.2.2.eqv (fun q a b => he q (by omega) (by omega))⟩
theorem lg_len {L j : Nat} (hL : L ≤ 3072) (hj : j ≤ 512) (h : ¬ nI L - nI 6 < nI (6 * j)) : 6 * j + 6 ≤ L := by
  rcases Nat.lt_or_ge L 6 with q | q
  · refine absurd (Int32.lt_of_lt_of_le (b := 0) ?_ (Int32.not_lt.mp (nI_pos (by omega)))) h
    rcases (by omega : L = 0 ∨ L = 1 ∨ L = 2 ∨ L = 3 ∨ L = 4 ∨ L = 5) with rfl | rfl | rfl | rfl | rfl | rfl <;> decide +kernel
  · have e : nI L - nI 6 = nI (L - 6) := by
      have e2 : nI L = nI (L - 6) + nI 6 := by rw [nI_add, Nat.sub_add_cancel q]
      rw [e2, Int32.add_sub_cancel]
    rw [e] at h
    rcases Nat.lt_or_ge L (6 * j + 6) with u | u
    · exact absurd (nI_lt (show L - 6 < 6 * j by omega) (by omega)) h
    · exact u
end
