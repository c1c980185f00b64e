/-! cell and way in every state; the law's own cell and way catch what they throw -/
theorem zIAE : Cond.initialized "java/lang/IllegalArgumentException" ∈ rl_BW := rl_bw 16 (by decide +kernel) (by decide +kernel)
theorem xIAE : Cond.castable "java/lang/IllegalArgumentException" "java/lang/IllegalArgumentException" ∈ rl_Xs := List.mem_filter.mpr ⟨List.mem_of_getElem? (i := 693) (by decide +kernel), rfl⟩
theorem th1 : ∀ w ∈ (vx_atS RX7 170 "java/lang/IllegalArgumentException" rl_exn).filter goodWord, w ∈ rl_BW := by decide +kernel
theorem th2 : ∀ w ∈ (vx_atS RX7 170 "java/lang/IllegalArgumentException" rl_exn).filter (fun w => !goodWord w), w ∈ rl_Xs := by decide +kernel
theorem th3 : ∀ w ∈ Cond.classLink RX7 166 "java/lang/IllegalArgumentException" :: Cond.initialized "java/lang/IllegalArgumentException" :: vx_atS RX7 170 "java/lang/IllegalArgumentException" rl_exn, vx_ot w = true := by decide +kernel

set_option maxHeartbeats 4000000 in
set_option maxRecDepth 100000 in
theorem cg_X7_cell (l : Launch) (D : va_G) (ids : Nat → ClassId) (H0 : Heap) (h : rl_H) (n : Nat) (x : Nat) (s : cl_S) (c : cl_N) (t k : Int32) (hl : l.stackTraces = false) (hc : cl_at ids h x s c) : rl_MetX l (rl_e D ids H0) rl_BW rl_Ns yX7_cell cX7_cell 4 (some .int) ({ frames := 6, cells := 1, slots := 6, locals := 90 }) [.ref x, .int t, .int k] h n (fun v h' n' => ∃ r : Int32, v = some (.int r) ∧ h' = h ∧ n' = n) (fun C => C = "java/lang/IndexOutOfBoundsException") := by
  obtain ⟨c1, c2, c3, ⟨pn, c4, c5⟩, ⟨pt, c6, c7⟩, c8, c9, c10, c11, c12, c13, c14, c15⟩ := id hc
  refine rl_MetX.of (by decide +kernel) (Nat.le_of_ble_eq_true rfl) ?_
  intro X hC hB hS hn0
  show rl_G X (rl_e D ids H0) 0 [some (.ref x), some (.int t), some (.int k), none] [] h n 0 0
  refine o_aload_n hC dX7_cell_0 (by rfl) ?_
  refine o_iload_n hC dX7_cell_1 (by rfl) ?_
  refine o_callV1 hC rl_BW_good rl_Ns_nw (by exact hB.2.2.2.2.1) YX7_resultTuple IX7_resultTuple VX7_resultTuple (mX7_141 hC) (by rw [hB.1]; exact cg_X7_resultTuple l D ids H0 _ _ x s c _ hc) (by exact c1) rfl rfl (Nat.le_of_ble_eq_true rfl) (by rw [hB.2.1]; first | exact Nat.le_of_ble_eq_true rfl | (dsimp only; omega)) (by rw [hB.2.1]; first | exact Nat.le_of_ble_eq_true rfl | (dsimp only; omega)) (by rw [hB.2.1]; first | exact Nat.le_of_ble_eq_true rfl | (dsimp only; omega)) (by rw [hB.2.1]; first | exact Nat.le_of_ble_eq_true rfl | (dsimp only; omega)) dX7_cell_2 (fun v h_2 n_2 p_2 => ?_)
  obtain ⟨zv, rfl, rfl, rfl, hz⟩ := p_2
  try dsimp only [Option.toList, List.cons_append, List.nil_append]
  rcases hz with rfl | ⟨j, i, hj, hi, hrs, rfl⟩
  · try dsimp only [Option.toList, List.cons_append, List.nil_append]
    refine o_astore_nN hC dX7_cell_5 (Nat.le_of_ble_eq_true rfl) ?_
    refine o_aload_nN hC dX7_cell_6 (by rfl) ?_
    refine o_ifnonnullN hC dX7_cell_7 ?_
    exact o_throwS (cls := "java/lang/IndexOutOfBoundsException") (text := "no such tuple") (names := rl_exn) (ik := 145) (is := 147) (ic := 149) hC hl hB hS hn0 (Nat.le_refl _) (by decide +kernel) (by decide +kernel) kX7_145 zIOB (hS.2.2.2.2.1 (147, "no such tuple") (by decide)) tg1 tg2 tg3 dX7_cell_10 dX7_cell_13 dX7_cell_14 dX7_cell_16 dX7_cell_19 (by decide) (by decide) (by decide) (by decide) (by exact hB.2.2.2.2.1) rfl
  · try dsimp only [Option.toList, List.cons_append, List.nil_append]
    obtain ⟨wd, sz, P, S, t1, ⟨tf, t2, t3⟩, t4, t5, t6, t7⟩ := c13 j (by omega)
    obtain ⟨e1, e2, e3⟩ := t5 i hi
    obtain ⟨w1, w2, w3, w4⟩ := id e3
    refine o_astore_n hC dX7_cell_5 (Nat.le_of_ble_eq_true rfl) ?_
    refine o_aload_n hC dX7_cell_6 (by rfl) ?_
    refine o_ifnonnull (tgt := 20) hC dX7_cell_7 (by decide) ?_
    refine o_iload_n hC dX7_cell_20 (by rfl) ?_
    refine o_if_lt (tgt := 39) hC dX7_cell_21 (by decide) (fun c_21 => ?_) (fun c_21 => ?_)
    · exact o_throwS (cls := "java/lang/IndexOutOfBoundsException") (text := "no such column") (names := rl_exn) (ik := 145) (is := 153) (ic := 149) hC hl hB hS hn0 (Nat.le_refl _) (by decide +kernel) (by decide +kernel) kX7_145 zIOB (hS.2.2.2.2.1 (153, "no such column") (by decide)) tg1 tg2 tg3 dX7_cell_39 dX7_cell_42 dX7_cell_43 dX7_cell_45 dX7_cell_48 (by decide) (by decide) (by decide) (by decide) (by exact hB.2.2.2.2.1) rfl
    · refine o_iload_n hC dX7_cell_24 (by rfl) ?_
      refine o_aload_n hC dX7_cell_25 (by rfl) ?_
      refine o_aload_n hC dX7_cell_26 (by rfl) ?_
      refine o_getf hC (fX7_49 hC rfl) dX7_cell_27 (by repeat (first | with_reducible assumption | (rw [rl_u_s]; done) | (rw [rl_u_s]; rfl) | rw [rl_u_n (by first | with_reducible assumption | omega)])) (by first | rfl | with_reducible assumption) ?_
      refine o_callV1 hC rl_BW_good rl_Ns_nw (by exact hB.2.2.2.2.1) YX7_tableOf IX7_tableOf VX7_tableOf (mX7_127 hC) (by rw [hB.1]; exact cg_X7_tableOf l D ids H0 _ _ x s c _ hc) (by exact c1) rfl rfl (Nat.le_of_ble_eq_true rfl) (by rw [hB.2.1]; first | exact Nat.le_of_ble_eq_true rfl | (dsimp only; omega)) (by rw [hB.2.1]; first | exact Nat.le_of_ble_eq_true rfl | (dsimp only; omega)) (by rw [hB.2.1]; first | exact Nat.le_of_ble_eq_true rfl | (dsimp only; omega)) (by rw [hB.2.1]; first | exact Nat.le_of_ble_eq_true rfl | (dsimp only; omega)) dX7_cell_30 (fun v h_30 n_30 p_30 => ?_)
      obtain ⟨z30, rfl, rfl, rfl, hz3⟩ := p_30
      have hz4 : z30 = c.1 j + 1 := by
        rcases hz3 with ⟨-, u⟩ | ⟨j2, u1, u2, u3⟩
        · exact absurd ⟨j, hj, hrs⟩ u
        · rw [u3, nI_inj2 (by omega) (by omega) (hrs.symm.trans u2)]
      subst hz4
      try dsimp only [Option.toList, List.cons_append, List.nil_append]
      refine o_getf hC (fX7_152 hC rfl) dX7_cell_33 (by repeat (first | with_reducible assumption | (rw [rl_u_s]; done) | (rw [rl_u_s]; rfl) | rw [rl_u_n (by first | with_reducible assumption | omega)])) (by first | rfl | with_reducible assumption) ?_
      refine o_icmp_lt (tgt := 49) hC dX7_cell_36 (by decide) (fun c_36 => ?_) (fun c_36 => ?_)
      · refine o_aload_n hC dX7_cell_49 (by rfl) ?_
        refine o_getf hC (fX7_155 hC rfl) dX7_cell_50 (by repeat (first | with_reducible assumption | (rw [rl_u_s]; done) | (rw [rl_u_s]; rfl) | rw [rl_u_n (by first | with_reducible assumption | omega)])) (by first | rfl | with_reducible assumption) ?_
        refine o_iload_n hC dX7_cell_53 (by rfl) ?_
        obtain ⟨k0, hk0, rfl⟩ := nI_of_lt (k := wd) (by omega) c_21 (fun w => absurd c_36 (Int32.not_lt.mpr w))
        refine o_ialdN (t0 := 0) (k := k0) hC rfl dX7_cell_54 e2 (by omega) (by decide) ?_
        refine o_iretX hC hB dX7_cell_55 (Nat.le_of_ble_eq_true rfl) (Nat.le_of_ble_eq_true rfl) ?_
        exact ⟨_, rfl, rfl, rfl⟩
      · exact o_throwS (cls := "java/lang/IndexOutOfBoundsException") (text := "no such column") (names := rl_exn) (ik := 145) (is := 153) (ic := 149) hC hl hB hS hn0 (Nat.le_refl _) (by decide +kernel) (by decide +kernel) kX7_145 zIOB (hS.2.2.2.2.1 (153, "no such column") (by decide)) tg1 tg2 tg3 dX7_cell_39 dX7_cell_42 dX7_cell_43 dX7_cell_45 dX7_cell_48 (by decide) (by decide) (by decide) (by decide) (by exact hB.2.2.2.2.1) rfl

set_option maxHeartbeats 4000000 in
set_option maxRecDepth 100000 in
theorem cg_X7_way (l : Launch) (D : va_G) (ids : Nat → ClassId) (H0 : Heap) (h : rl_H) (n : Nat) (x : Nat) (s : cl_S) (c : cl_N) (t k w : Int32) (hl : l.stackTraces = false) (hc : cl_at ids h x s c) : rl_MetX l (rl_e D ids H0) rl_BW rl_Ns yX7_way cX7_way 5 (some .long) ({ frames := 6, cells := 1, slots := 6, locals := 90 }) [.ref x, .int t, .int k, .int w] h n (fun v h' n' => ∃ r : Int64, v = some (.long r) ∧ h' = h ∧ n' = n) (fun C => C = "java/lang/IndexOutOfBoundsException" ∨ C = "java/lang/IllegalArgumentException") := by
  obtain ⟨c1, c2, c3, ⟨pn, c4, c5⟩, ⟨pt, c6, c7⟩, c8, c9, c10, c11, c12, c13, c14, c15⟩ := id hc
  refine rl_MetX.of (by decide +kernel) (Nat.le_of_ble_eq_true rfl) ?_
  intro X hC hB hS hn0
  show rl_G X (rl_e D ids H0) 0 [some (.ref x), some (.int t), some (.int k), some (.int w), none] [] h n 0 0
  refine o_aload_n hC dX7_way_0 (by rfl) ?_
  refine o_iload_n hC dX7_way_1 (by rfl) ?_
  refine o_callV1 hC rl_BW_good rl_Ns_nw (by exact hB.2.2.2.2.1) YX7_resultTuple IX7_resultTuple VX7_resultTuple (mX7_141 hC) (by rw [hB.1]; exact cg_X7_resultTuple l D ids H0 _ _ x s c _ hc) (by exact c1) rfl rfl (Nat.le_of_ble_eq_true rfl) (by rw [hB.2.1]; first | exact Nat.le_of_ble_eq_true rfl | (dsimp only; omega)) (by rw [hB.2.1]; first | exact Nat.le_of_ble_eq_true rfl | (dsimp only; omega)) (by rw [hB.2.1]; first | exact Nat.le_of_ble_eq_true rfl | (dsimp only; omega)) (by rw [hB.2.1]; first | exact Nat.le_of_ble_eq_true rfl | (dsimp only; omega)) dX7_way_2 (fun v h_2 n_2 p_2 => ?_)
  obtain ⟨zv, rfl, rfl, rfl, hz⟩ := p_2
  try dsimp only [Option.toList, List.cons_append, List.nil_append]
  rcases hz with rfl | ⟨j, i, hj, hi, hrs, rfl⟩
  · try dsimp only [Option.toList, List.cons_append, List.nil_append]
    refine o_astoreN hC dX7_way_5 (Nat.le_of_ble_eq_true rfl) ?_
    refine o_aloadN hC dX7_way_7 (by rfl) ?_
    refine o_ifnonnullN hC dX7_way_9 ?_
    exact o_throwS (cls := "java/lang/IndexOutOfBoundsException") (text := "no such tuple") (names := rl_exn) (ik := 145) (is := 147) (ic := 149) hC hl hB hS hn0 (Nat.le_refl _) (by decide +kernel) (by decide +kernel) kX7_145 zIOB (hS.2.2.2.2.1 (147, "no such tuple") (by decide)) tg1 tg2 tg3 dX7_way_12 dX7_way_15 dX7_way_16 dX7_way_18 dX7_way_21 (by decide) (by decide) (by decide) (by decide) (by exact hB.2.2.2.2.1) (Or.inl rfl)
  · try dsimp only [Option.toList, List.cons_append, List.nil_append]
    obtain ⟨wd, sz, P, S, t1, ⟨tf, t2, t3⟩, t4, t5, t6, t7⟩ := c13 j (by omega)
    obtain ⟨e1, e2, e3⟩ := t5 i hi
    obtain ⟨w1, w2, w3, w4⟩ := id e3
    refine o_astore hC dX7_way_5 (Nat.le_of_ble_eq_true rfl) ?_
    refine o_aload hC dX7_way_7 (by rfl) ?_
    refine o_ifnonnull (tgt := 22) hC dX7_way_9 (by decide) ?_
    refine o_iload_n hC dX7_way_22 (by rfl) ?_
    refine o_if_lt (tgt := 38) hC dX7_way_23 (by decide) (fun c_23 => ?_) (fun c_23 => ?_)
    · exact o_throwS (cls := "java/lang/IndexOutOfBoundsException") (text := "no such term") (names := rl_exn) (ik := 145) (is := 164) (ic := 149) hC hl hB hS hn0 (Nat.le_refl _) (by decide +kernel) (by decide +kernel) kX7_145 zIOB (hS.2.2.2.2.1 (164, "no such term") (by decide)) tg1 tg2 tg3 dX7_way_38 dX7_way_41 dX7_way_42 dX7_way_44 dX7_way_47 (by decide) (by decide) (by decide) (by decide) (by exact hB.2.2.2.2.1) (Or.inl rfl)
    · refine o_iload_n hC dX7_way_26 (by rfl) ?_
      refine o_aload hC dX7_way_27 (by rfl) ?_
      refine o_getf hC (fX7_160 hC rfl) dX7_way_29 (by repeat (first | with_reducible assumption | (rw [rl_u_s]; done) | (rw [rl_u_s]; rfl) | rw [rl_u_n (by first | with_reducible assumption | omega)])) (by first | rfl | with_reducible assumption) ?_
      refine o_getf hC (fX7_163 hC rfl) dX7_way_32 (by repeat (first | with_reducible assumption | (rw [rl_u_s]; done) | (rw [rl_u_s]; rfl) | rw [rl_u_n (by first | with_reducible assumption | omega)])) (by first | rfl | with_reducible assumption) ?_
      refine o_icmp_lt (tgt := 48) hC dX7_way_35 (by decide) (fun c_35 => ?_) (fun c_35 => ?_)
      · refine o_iload_n hC dX7_way_48 (by rfl) ?_
        refine o_if_eq (tgt := 67) hC dX7_way_49 (by decide) (fun c_49 => ?_) (fun c_49 => ?_)
        · refine o_iload_n hC dX7_way_67 (by rfl) ?_
          refine o_if_ne (tgt := 84) hC dX7_way_68 (by decide) (fun c_68 => ?_) (fun c_68 => ?_)
          · refine o_aload hC dX7_way_84 (by rfl) ?_
            refine o_getf hC (fX7_160 hC rfl) dX7_way_86 (by repeat (first | with_reducible assumption | (rw [rl_u_s]; done) | (rw [rl_u_s]; rfl) | rw [rl_u_n (by first | with_reducible assumption | omega)])) (by first | rfl | with_reducible assumption) ?_
            refine o_getf hC (fX7_175 hC rfl) dX7_way_89 (by repeat (first | with_reducible assumption | (rw [rl_u_s]; done) | (rw [rl_u_s]; rfl) | rw [rl_u_n (by first | with_reducible assumption | omega)])) (by first | rfl | with_reducible assumption) ?_
            refine o_iload_n hC dX7_way_92 (by rfl) ?_
            obtain ⟨k0, hk0, rfl⟩ := nI_of_lt (by omega) c_23 (fun w => absurd c_35 (Int32.not_lt.mpr w))
            refine o_laldN (t0 := 1) (k := k0) hC rfl dX7_way_93 w3 (by omega) (by decide) ?_
            refine o_lretX hC hB dX7_way_94 (Nat.le_of_ble_eq_true rfl) (Nat.le_of_ble_eq_true rfl) ?_
            exact ⟨_, rfl, rfl, rfl⟩
          · refine o_aload hC dX7_way_71 (by rfl) ?_
            refine o_getf hC (fX7_160 hC rfl) dX7_way_73 (by repeat (first | with_reducible assumption | (rw [rl_u_s]; done) | (rw [rl_u_s]; rfl) | rw [rl_u_n (by first | with_reducible assumption | omega)])) (by first | rfl | with_reducible assumption) ?_
            refine o_getf hC (fX7_171 hC rfl) dX7_way_76 (by repeat (first | with_reducible assumption | (rw [rl_u_s]; done) | (rw [rl_u_s]; rfl) | rw [rl_u_n (by first | with_reducible assumption | omega)])) (by first | rfl | with_reducible assumption) ?_
            refine o_iload_n hC dX7_way_79 (by rfl) ?_
            obtain ⟨k0, hk0, rfl⟩ := nI_of_lt (by omega) c_23 (fun w => absurd c_35 (Int32.not_lt.mpr w))
            refine o_laldN (t0 := 1) (k := k0) hC rfl dX7_way_80 w2 (by omega) (by decide) ?_
            refine o_goto (tgt := 94) hC dX7_way_81 (by decide) ?_
            refine o_lretX hC hB dX7_way_94 (Nat.le_of_ble_eq_true rfl) (Nat.le_of_ble_eq_true rfl) ?_
            exact ⟨_, rfl, rfl, rfl⟩
        · refine o_iload_n hC dX7_way_52 (by rfl) ?_
          refine o_iconst (v := nI 1) hC dX7_way_53 (by decide +kernel) ?_
          refine o_icmp_eq (tgt := 67) hC dX7_way_54 (by decide) (fun c_54 => ?_) (fun c_54 => ?_)
          · refine o_iload_n hC dX7_way_67 (by rfl) ?_
            refine o_if_ne (tgt := 84) hC dX7_way_68 (by decide) (fun c_68 => ?_) (fun c_68 => ?_)
            · refine o_aload hC dX7_way_84 (by rfl) ?_
              refine o_getf hC (fX7_160 hC rfl) dX7_way_86 (by repeat (first | with_reducible assumption | (rw [rl_u_s]; done) | (rw [rl_u_s]; rfl) | rw [rl_u_n (by first | with_reducible assumption | omega)])) (by first | rfl | with_reducible assumption) ?_
              refine o_getf hC (fX7_175 hC rfl) dX7_way_89 (by repeat (first | with_reducible assumption | (rw [rl_u_s]; done) | (rw [rl_u_s]; rfl) | rw [rl_u_n (by first | with_reducible assumption | omega)])) (by first | rfl | with_reducible assumption) ?_
              refine o_iload_n hC dX7_way_92 (by rfl) ?_
              obtain ⟨k0, hk0, rfl⟩ := nI_of_lt (by omega) c_23 (fun w => absurd c_35 (Int32.not_lt.mpr w))
              refine o_laldN (t0 := 1) (k := k0) hC rfl dX7_way_93 w3 (by omega) (by decide) ?_
              refine o_lretX hC hB dX7_way_94 (Nat.le_of_ble_eq_true rfl) (Nat.le_of_ble_eq_true rfl) ?_
              exact ⟨_, rfl, rfl, rfl⟩
            · refine o_aload hC dX7_way_71 (by rfl) ?_
              refine o_getf hC (fX7_160 hC rfl) dX7_way_73 (by repeat (first | with_reducible assumption | (rw [rl_u_s]; done) | (rw [rl_u_s]; rfl) | rw [rl_u_n (by first | with_reducible assumption | omega)])) (by first | rfl | with_reducible assumption) ?_
              refine o_getf hC (fX7_171 hC rfl) dX7_way_76 (by repeat (first | with_reducible assumption | (rw [rl_u_s]; done) | (rw [rl_u_s]; rfl) | rw [rl_u_n (by first | with_reducible assumption | omega)])) (by first | rfl | with_reducible assumption) ?_
              refine o_iload_n hC dX7_way_79 (by rfl) ?_
              obtain ⟨k0, hk0, rfl⟩ := nI_of_lt (by omega) c_23 (fun w => absurd c_35 (Int32.not_lt.mpr w))
              refine o_laldN (t0 := 1) (k := k0) hC rfl dX7_way_80 w2 (by omega) (by decide) ?_
              refine o_goto (tgt := 94) hC dX7_way_81 (by decide) ?_
              refine o_lretX hC hB dX7_way_94 (Nat.le_of_ble_eq_true rfl) (Nat.le_of_ble_eq_true rfl) ?_
              exact ⟨_, rfl, rfl, rfl⟩
          · exact o_throwS (cls := "java/lang/IllegalArgumentException") (text := "what is 0 or 1") (names := rl_exn) (ik := 166) (is := 168) (ic := 170) hC hl hB hS hn0 (Nat.le_refl _) (by decide +kernel) (by decide +kernel) kX7_166 zIAE (hS.2.2.2.2.1 (168, "what is 0 or 1") (by decide)) th1 th2 th3 dX7_way_57 dX7_way_60 dX7_way_61 dX7_way_63 dX7_way_66 (by decide) (by decide) (by decide) (by decide) (by exact hB.2.2.2.2.1) (Or.inr rfl)
      · exact o_throwS (cls := "java/lang/IndexOutOfBoundsException") (text := "no such term") (names := rl_exn) (ik := 145) (is := 164) (ic := 149) hC hl hB hS hn0 (Nat.le_refl _) (by decide +kernel) (by decide +kernel) kX7_145 zIOB (hS.2.2.2.2.1 (164, "no such term") (by decide)) tg1 tg2 tg3 dX7_way_38 dX7_way_41 dX7_way_42 dX7_way_44 dX7_way_47 (by decide) (by decide) (by decide) (by decide) (by exact hB.2.2.2.2.1) (Or.inl rfl)

set_option maxHeartbeats 4000000 in
set_option maxRecDepth 100000 in
theorem cg_L_cell (l : Launch) (D : va_G) (ids : Nat → ClassId) (H0 : Heap) (h : rl_H) (n : Nat) (x ou : Nat) (s : cl_S) (c : cl_N) (of : Nat → Int64) (t k : Int32) (hl : l.stackTraces = false) (hc : cl_at ids h x s c) (hou : h ou = some (.inl (ids 1, 1, .inr (.inl of)))) : rl_MetW l (rl_e D ids H0) rl_BW rl_Ns yL_cell cL_cell 5 (some .int) [(0, 10, 13, 13)] ({ frames := 7, cells := 1, slots := 6, locals := 113 }) [.ref x, .int t, .int k, .ref ou] h n (fun v h' n' => ∃ r : Int32, v = some (.int r) ∧ n ≤ n' ∧ (∃ f : Nat → Int64, h' ou = some (.inl (ids 1, 1, .inr (.inl f)))) ∧ ∀ q : Nat, q ≠ ou → h' q = h q) := by
  refine rl_MetW.of (by decide +kernel) (Nat.le_of_ble_eq_true rfl) ?_
  intro X hC hB hS ht0
  have ht : X.2.1.2.2.2.2.exceptionTable.toList = { startPc := 0, endPc := 10, handlerPc := 13, catchType := 13 } :: [] := ht0
  show rl_G X (rl_e D ids H0) 0 [some (.ref x), some (.int t), some (.int k), some (.ref ou), none] [] h n 0 0
  refine o_aload_n hC dL_cell_0 (by rfl) ?_
  refine o_iconst (v := nI 0) hC dL_cell_1 (by decide +kernel) ?_
  refine o_aload_n hC dL_cell_2 (by rfl) ?_
  refine o_iload_n hC dL_cell_3 (by rfl) ?_
  refine o_iload_n hC dL_cell_4 (by rfl) ?_
  refine o_callVX (As := [.int t, .int k]) (rest := [.int (nI 0), .ref ou]) (x := { startPc := 0, endPc := 10, handlerPc := 13, catchType := 13 }) (suf := []) (nm := "java/lang/IndexOutOfBoundsException") hC rl_BW_good rl_Ns_nw hS (by exact hB.2.2.2.2.2) YX7_cell IX7_cell VX7_cell lL_xcell (by rw [hB.1]; exact cg_X7_cell l D ids H0 h n x s c t k hl hc) hc.1 rfl rfl (Nat.le_of_ble_eq_true rfl) (by rw [hB.2.1]; first | exact Nat.le_of_ble_eq_true rfl | (dsimp only; omega)) (by rw [hB.2.1]; first | exact Nat.le_of_ble_eq_true rfl | (dsimp only; omega)) (by rw [hB.2.1]; first | exact Nat.le_of_ble_eq_true rfl | (dsimp only; omega)) (by rw [hB.2.1]; first | exact Nat.le_of_ble_eq_true rfl | (dsimp only; omega)) dL_cell_5 ht (by decide) (by decide) kL_13 (fun F hF => by rw [hF]; exact xIOB) (fun q n2 hn2 => ?_) (fun v h2 n2 p => ?_)
  · refine o_astore hC dL_cell_13 (Nat.le_of_ble_eq_true rfl) ?_
    refine o_iconst (v := nI 1) hC dL_cell_15 (by decide +kernel) ?_
    refine o_iret hC hB dL_cell_16 (Nat.le_of_ble_eq_true rfl) (Nat.le_of_ble_eq_true rfl) ?_
    exact ⟨_, rfl, hn2, ⟨_, hou⟩, fun _ _ => rfl⟩
  · obtain ⟨r, rfl, rfl, rfl⟩ := p
    try dsimp only [Option.toList, List.cons_append, List.nil_append]
    refine o_i2l hC dL_cell_8 ?_
    refine o_lastN (t0 := 1) (k := 0) hC rfl dL_cell_9 hou (by decide) (by decide) ?_
    refine o_goto (tgt := 17) hC dL_cell_10 (by decide) ?_
    refine o_iconst (v := nI 0) hC dL_cell_17 (by decide +kernel) ?_
    refine o_iret hC hB dL_cell_18 (Nat.le_of_ble_eq_true rfl) (Nat.le_of_ble_eq_true rfl) ?_
    exact ⟨_, rfl, Nat.le_refl _, ⟨_, rl_u_s⟩, fun q hq => rl_u_n hq⟩

set_option maxHeartbeats 4000000 in
set_option maxRecDepth 100000 in
theorem cg_L_way (l : Launch) (D : va_G) (ids : Nat → ClassId) (H0 : Heap) (h : rl_H) (n : Nat) (x ou : Nat) (s : cl_S) (c : cl_N) (of : Nat → Int64) (t k w : Int32) (hl : l.stackTraces = false) (hc : cl_at ids h x s c) (hou : h ou = some (.inl (ids 1, 1, .inr (.inl of)))) : rl_MetW l (rl_e D ids H0) rl_BW rl_Ns yL_way cL_way 6 (some .int) [(0, 11, 14, 13), (0, 11, 18, 19)] ({ frames := 7, cells := 1, slots := 6, locals := 114 }) [.ref x, .int t, .int k, .int w, .ref ou] h n (fun v h' n' => ∃ r : Int32, v = some (.int r) ∧ n ≤ n' ∧ (∃ f : Nat → Int64, h' ou = some (.inl (ids 1, 1, .inr (.inl f)))) ∧ ∀ q : Nat, q ≠ ou → h' q = h q) := by
  refine rl_MetW.of (by decide +kernel) (Nat.le_of_ble_eq_true rfl) ?_
  intro X hC hB hS ht0
  have ht : X.2.1.2.2.2.2.exceptionTable.toList = { startPc := 0, endPc := 11, handlerPc := 14, catchType := 13 } :: [{ startPc := 0, endPc := 11, handlerPc := 18, catchType := 19 }] := ht0
  show rl_G X (rl_e D ids H0) 0 [some (.ref x), some (.int t), some (.int k), some (.int w), some (.ref ou), none] [] h n 0 0
  refine o_aload hC dL_way_0 (by rfl) ?_
  refine o_iconst (v := nI 0) hC dL_way_2 (by decide +kernel) ?_
  refine o_aload_n hC dL_way_3 (by rfl) ?_
  refine o_iload_n hC dL_way_4 (by rfl) ?_
  refine o_iload_n hC dL_way_5 (by rfl) ?_
  refine o_iload_n hC dL_way_6 (by rfl) ?_
  refine o_callVY (As := [.int t, .int k, .int w]) (rest := [.int (nI 0), .ref ou]) (x := { startPc := 0, endPc := 11, handlerPc := 14, catchType := 13 }) (x2 := { startPc := 0, endPc := 11, handlerPc := 18, catchType := 19 }) (suf := []) (nm := "java/lang/IndexOutOfBoundsException") (nm2 := "java/lang/IllegalArgumentException") hC rl_BW_good rl_Ns_nw hS (by exact hB.2.2.2.2.2) YX7_way IX7_way VX7_way lL_xway (by rw [hB.1]; exact cg_X7_way l D ids H0 h n x s c t k w hl hc) hc.1 rfl rfl (Nat.le_of_ble_eq_true rfl) (by rw [hB.2.1]; first | exact Nat.le_of_ble_eq_true rfl | (dsimp only; omega)) (by rw [hB.2.1]; first | exact Nat.le_of_ble_eq_true rfl | (dsimp only; omega)) (by rw [hB.2.1]; first | exact Nat.le_of_ble_eq_true rfl | (dsimp only; omega)) (by rw [hB.2.1]; first | exact Nat.le_of_ble_eq_true rfl | (dsimp only; omega)) dL_way_7 ht (by decide) (by decide) kL_13 (by decide) (by decide) kL_19 (fun F hF => by (rcases hF with e | e); (exact Or.inl (by rw [e]; exact xIOB)); (exact Or.inr ⟨⟨e, rfl⟩, by rw [e]; exact xIAE⟩)) (fun q n2 hn2 => ?_) (fun q n2 hn2 => ?_) (fun v h2 n2 p => ?_)
  · refine o_astore hC dL_way_14 (Nat.le_of_ble_eq_true rfl) ?_
    refine o_iconst (v := nI 1) hC dL_way_16 (by decide +kernel) ?_
    refine o_iret hC hB dL_way_17 (Nat.le_of_ble_eq_true rfl) (Nat.le_of_ble_eq_true rfl) ?_
    exact ⟨_, rfl, hn2, ⟨_, hou⟩, fun _ _ => rfl⟩
  · refine o_astore hC dL_way_18 (Nat.le_of_ble_eq_true rfl) ?_
    refine o_iconst (v := nI 2) hC dL_way_20 (by decide +kernel) ?_
    refine o_iret hC hB dL_way_21 (Nat.le_of_ble_eq_true rfl) (Nat.le_of_ble_eq_true rfl) ?_
    exact ⟨_, rfl, hn2, ⟨_, hou⟩, fun _ _ => rfl⟩
  · obtain ⟨r, rfl, rfl, rfl⟩ := p
    try dsimp only [Option.toList, List.cons_append, List.nil_append]
    refine o_lastN (t0 := 1) (k := 0) hC rfl dL_way_10 hou (by decide) (by decide) ?_
    refine o_goto (tgt := 22) hC dL_way_11 (by decide) ?_
    refine o_iconst (v := nI 0) hC dL_way_22 (by decide +kernel) ?_
    refine o_iret hC hB dL_way_23 (Nat.le_of_ble_eq_true rfl) (Nat.le_of_ble_eq_true rfl) ?_
    exact ⟨_, rfl, Nat.le_refl _, ⟨_, rl_u_s⟩, fun q hq => rl_u_n hq⟩
