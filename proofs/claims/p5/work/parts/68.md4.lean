/-! THE MODEL by shapes: against, find, take, comes -/

set_option maxHeartbeats 4000000 in
set_option maxRecDepth 100000 in
theorem cm_X8_against (l : Launch) (D : va_G) (ids : Nat → ClassId) (H0 : Heap) (h : rl_H) (n : Nat) (m : Nat) (T : md_T) (fu : Int32) (k : Nat) (S : md_A) (a t w : Nat) (hq : mq ids h h m T fu k) (hs : md_sa ids h m S) (ha : a < 16) (ht : t < 80) (hw : S.2.2.2.2.2.2.2.2.2.2 a = nI w) (hw6 : w ≤ 6) : rl_Met l (rl_e D ids H0) rl_BW rl_Ns yX8_against cX8_against 5 (some .int) ({ frames := 1, cells := 0, slots := 0, locals := 23 }) [.ref m, .int (nI a), .int (nI t)] h n (fun v h' n' => ∃ r : Int32, v = some (.int r) ∧ h' = h ∧ n' = n) := by
  obtain ⟨g0, gk, ⟨⟨cl, g12⟩, ⟨tu, g13, b13⟩, ⟨im, g14⟩, ⟨te, g15, b15⟩, ⟨ne, g16⟩, ⟨la, g17⟩, ⟨hn, g18⟩, ⟨hl, g19⟩, ⟨tp, g20⟩, ⟨gr, g21, b21⟩, ⟨it, g22⟩⟩, gf⟩ := id hq
  obtain ⟨a1, a2, a3, a4, a5, a6, a7, a8, a9, a10, a11⟩ := id hs
  refine rl_Met.of (by decide +kernel) (Nat.le_of_ble_eq_true rfl) ?_
  intro X hC hB
  have loop : ∀ (mm c : Nat) (o4 : Option Value), c + mm = w → rl_G X (rl_e D ids H0) 2 [some (.ref m), some (.int (nI a)), some (.int (nI t)), some (.int (nI c)), o4] [] h n 0 0 := by
    intro mm
    induction mm with
    | zero =>
      intro c o4 hm
      refine o_iload_n hC dX8_against_2 (by rfl) ?_
      refine o_aload_n hC dX8_against_3 (by rfl) ?_
      refine o_getf hC (fX8_40 hC rfl) dX8_against_4 (by repeat (first | with_reducible assumption | (rw [rl_u_s]; done) | (rw [rl_u_s]; rfl) | rw [rl_u_n (by first | with_reducible assumption | omega)])) (by first | rfl | with_reducible assumption) ?_
      refine o_iload_n hC dX8_against_7 (by rfl) ?_
      refine o_ialdN (t0 := 0) (k := a) hC rfl dX8_against_8 (by repeat (first | with_reducible assumption | (rw [rl_u_s]; done) | (rw [rl_u_s]; rfl) | rw [rl_u_n (by first | with_reducible assumption | omega)])) (by omega) (by decide) ?_
      rw [hw]
      refine o_icmp_ge (tgt := 55) hC dX8_against_9 (by decide) (fun c_9 => ?_) (fun c_9 => ?_)
      · refine o_iconst (v := nI 0) hC dX8_against_55 (by decide +kernel) ?_
        refine o_iret hC hB dX8_against_56 (Nat.le_of_ble_eq_true rfl) (Nat.le_of_ble_eq_true rfl) ?_
        exact ⟨_, rfl, rfl, rfl⟩
      · exact absurd (nI_le (by omega) (by omega)) c_9
    | succ mm ih =>
      intro c o4 hm
      refine o_iload_n hC dX8_against_2 (by rfl) ?_
      refine o_aload_n hC dX8_against_3 (by rfl) ?_
      refine o_getf hC (fX8_40 hC rfl) dX8_against_4 (by repeat (first | with_reducible assumption | (rw [rl_u_s]; done) | (rw [rl_u_s]; rfl) | rw [rl_u_n (by first | with_reducible assumption | omega)])) (by first | rfl | with_reducible assumption) ?_
      refine o_iload_n hC dX8_against_7 (by rfl) ?_
      refine o_ialdN (t0 := 0) (k := a) hC rfl dX8_against_8 (by repeat (first | with_reducible assumption | (rw [rl_u_s]; done) | (rw [rl_u_s]; rfl) | rw [rl_u_n (by first | with_reducible assumption | omega)])) (by omega) (by decide) ?_
      rw [hw]
      refine o_icmp_ge (tgt := 55) hC dX8_against_9 (by decide) (fun c_9 => ?_) (fun c_9 => ?_)
      · refine o_iconst (v := nI 0) hC dX8_against_55 (by decide +kernel) ?_
        refine o_iret hC hB dX8_against_56 (Nat.le_of_ble_eq_true rfl) (Nat.le_of_ble_eq_true rfl) ?_
        exact ⟨_, rfl, rfl, rfl⟩
      · refine o_aload_n hC dX8_against_12 (by rfl) ?_
        refine o_iload_n hC dX8_against_13 (by rfl) ?_
        refine o_iload_n hC dX8_against_14 (by rfl) ?_
        refine o_iload_n hC dX8_against_15 (by rfl) ?_
        refine o_callV3 hC rl_BW_good rl_Ns_nw (by exact hB.2.2.2.2.2) YX8_cellAt IX8_cellAt VX8_cellAt (mX8_138 hC) (by rw [hB.1]; exact cm_X8_cellAt l D ids H0 _ _ m T _ _ a t c hq (by omega)) (by exact hq.1) rfl rfl (Nat.le_of_ble_eq_true rfl) (by rw [hB.2.1]; first | exact Nat.le_of_ble_eq_true rfl | (dsimp only; omega)) (by rw [hB.2.1]; first | exact Nat.le_of_ble_eq_true rfl | (dsimp only; omega)) (by rw [hB.2.1]; first | exact Nat.le_of_ble_eq_true rfl | (dsimp only; omega)) (by rw [hB.2.1]; first | exact Nat.le_of_ble_eq_true rfl | (dsimp only; omega)) dX8_against_16 (fun v h_16 n_16 p_16 => ?_)
        obtain ⟨r16, rfl, rfl, rfl⟩ := p_16
        try dsimp only [Option.toList, List.cons_append, List.nil_append]
        refine o_istore hC dX8_against_19 (Nat.le_of_ble_eq_true rfl) ?_
        refine o_aload_n hC dX8_against_21 (by rfl) ?_
        refine o_getf hC (fX8_69 hC rfl) dX8_against_22 (by repeat (first | with_reducible assumption | (rw [rl_u_s]; done) | (rw [rl_u_s]; rfl) | rw [rl_u_n (by first | with_reducible assumption | omega)])) (by first | rfl | with_reducible assumption) ?_
        refine o_iload_n hC dX8_against_25 (by rfl) ?_
        refine o_ialdN (t0 := 0) hC rfl dX8_against_26 (by repeat (first | with_reducible assumption | (rw [rl_u_s]; done) | (rw [rl_u_s]; rfl) | rw [rl_u_n (by first | with_reducible assumption | omega)])) (by omega) (by decide) ?_
        refine o_iload hC dX8_against_27 (by rfl) ?_
        refine o_icmp_eq (tgt := 49) hC dX8_against_29 (by decide) (fun c_29 => ?_) (fun c_29 => ?_)
        · refine o_iinc hC dX8_against_49 (by rfl) (rl_inc _) (Nat.le_of_ble_eq_true rfl) ?_
          refine o_goto (tgt := 2) hC dX8_against_52 (by decide) ?_
          exact ih (c + 1) _ (by omega)
        · refine o_aload_n hC dX8_against_32 (by rfl) ?_
          refine o_getf hC (fX8_69 hC rfl) dX8_against_33 (by repeat (first | with_reducible assumption | (rw [rl_u_s]; done) | (rw [rl_u_s]; rfl) | rw [rl_u_n (by first | with_reducible assumption | omega)])) (by first | rfl | with_reducible assumption) ?_
          refine o_iload_n hC dX8_against_36 (by rfl) ?_
          refine o_ialdN (t0 := 0) hC rfl dX8_against_37 (by repeat (first | with_reducible assumption | (rw [rl_u_s]; done) | (rw [rl_u_s]; rfl) | rw [rl_u_n (by first | with_reducible assumption | omega)])) (by omega) (by decide) ?_
          refine o_iload hC dX8_against_38 (by rfl) ?_
          refine o_icmp_ge (tgt := 47) hC dX8_against_40 (by decide) (fun c_40 => ?_) (fun c_40 => ?_)
          · refine o_iconst (v := nI 1) hC dX8_against_47 (by decide +kernel) ?_
            refine o_iret hC hB dX8_against_48 (Nat.le_of_ble_eq_true rfl) (Nat.le_of_ble_eq_true rfl) ?_
            exact ⟨_, rfl, rfl, rfl⟩
          · refine o_iconst (v := (-1 : Int32)) hC dX8_against_43 (by decide +kernel) ?_
            refine o_goto (tgt := 48) hC dX8_against_44 (by decide) ?_
            refine o_iret hC hB dX8_against_48 (Nat.le_of_ble_eq_true rfl) (Nat.le_of_ble_eq_true rfl) ?_
            exact ⟨_, rfl, rfl, rfl⟩
  show rl_G X (rl_e D ids H0) 0 [some (.ref m), some (.int (nI a)), some (.int (nI t)), none, none] [] h n 0 0
  refine o_iconst (v := nI 0) hC dX8_against_0 (by decide +kernel) ?_
  refine o_istore_n hC dX8_against_1 (Nat.le_of_ble_eq_true rfl) ?_
  exact loop w 0 _ (by omega)

set_option maxHeartbeats 4000000 in
set_option maxRecDepth 100000 in
theorem cm_X8_find (l : Launch) (D : va_G) (ids : Nat → ClassId) (H0 : Heap) (h : rl_H) (n : Nat) (m : Nat) (T : md_T) (fu : Int32) (k : Nat) (S : md_A) (a w : Nat) (hq : mq ids h h m T fu k) (hs : md_sa ids h m S) (ha : a < 16) (hw : S.2.2.2.2.2.2.2.2.2.2 a = nI w) (hw6 : w ≤ 6) : rl_Met l (rl_e D ids H0) rl_BW rl_Ns yX8_find cX8_find 3 (some .int) ({ frames := 2, cells := 0, slots := 0, locals := 47 }) [.ref m, .int (nI a)] h n (fun v h' n' => ∃ r : Int32, v = some (.int r) ∧ h' = h ∧ n' = n ∧ (r = -1 ∨ ∃ t : Nat, t < 80 ∧ r = nI t)) := by
  obtain ⟨g0, gk, ⟨⟨cl, g12⟩, ⟨tu, g13, b13⟩, ⟨im, g14⟩, ⟨te, g15, b15⟩, ⟨ne, g16⟩, ⟨la, g17⟩, ⟨hn, g18⟩, ⟨hl, g19⟩, ⟨tp, g20⟩, ⟨gr, g21, b21⟩, ⟨it, g22⟩⟩, gf⟩ := id hq
  obtain ⟨a1, a2, a3, a4, a5, a6, a7, a8, a9, a10, a11⟩ := id hs
  refine rl_Met.of (by decide +kernel) (Nat.le_of_ble_eq_true rfl) ?_
  intro X hC hB
  have loop : ∀ (mm t : Nat), t + mm = 80 → rl_G X (rl_e D ids H0) 2 [some (.ref m), some (.int (nI a)), some (.int (nI t))] [] h n 0 0 := by
    intro mm
    induction mm with
    | zero =>
      intro t hm
      refine o_iload_n hC dX8_find_2 (by rfl) ?_
      refine o_aload_n hC dX8_find_3 (by rfl) ?_
      refine o_getf hC (fX8_46 hC rfl) dX8_find_4 (by repeat (first | with_reducible assumption | (rw [rl_u_s]; done) | (rw [rl_u_s]; rfl) | rw [rl_u_n (by first | with_reducible assumption | omega)])) (by first | rfl | with_reducible assumption) ?_
      refine o_iload_n hC dX8_find_7 (by rfl) ?_
      obtain ⟨t8, ht8, et8⟩ := b13 a (by omega)
      refine o_ialdN (t0 := 0) (k := a) hC rfl dX8_find_8 (by repeat (first | with_reducible assumption | (rw [rl_u_s]; done) | (rw [rl_u_s]; rfl) | rw [rl_u_n (by first | with_reducible assumption | omega)])) (by omega) (by decide) ?_
      rw [et8]
      refine o_icmp_ge (tgt := 29) hC dX8_find_9 (by decide) (fun c_9 => ?_) (fun c_9 => ?_)
      · refine o_iconst (v := (-1 : Int32)) hC dX8_find_29 (by decide +kernel) ?_
        refine o_iret hC hB dX8_find_30 (Nat.le_of_ble_eq_true rfl) (Nat.le_of_ble_eq_true rfl) ?_
        exact ⟨_, rfl, rfl, rfl, Or.inl rfl⟩
      · exact absurd (nI_le (by omega) (by omega)) c_9
    | succ mm ih =>
      intro t hm
      refine o_iload_n hC dX8_find_2 (by rfl) ?_
      refine o_aload_n hC dX8_find_3 (by rfl) ?_
      refine o_getf hC (fX8_46 hC rfl) dX8_find_4 (by repeat (first | with_reducible assumption | (rw [rl_u_s]; done) | (rw [rl_u_s]; rfl) | rw [rl_u_n (by first | with_reducible assumption | omega)])) (by first | rfl | with_reducible assumption) ?_
      refine o_iload_n hC dX8_find_7 (by rfl) ?_
      obtain ⟨t8, ht8, et8⟩ := b13 a (by omega)
      refine o_ialdN (t0 := 0) (k := a) hC rfl dX8_find_8 (by repeat (first | with_reducible assumption | (rw [rl_u_s]; done) | (rw [rl_u_s]; rfl) | rw [rl_u_n (by first | with_reducible assumption | omega)])) (by omega) (by decide) ?_
      rw [et8]
      refine o_icmp_ge (tgt := 29) hC dX8_find_9 (by decide) (fun c_9 => ?_) (fun c_9 => ?_)
      · refine o_iconst (v := (-1 : Int32)) hC dX8_find_29 (by decide +kernel) ?_
        refine o_iret hC hB dX8_find_30 (Nat.le_of_ble_eq_true rfl) (Nat.le_of_ble_eq_true rfl) ?_
        exact ⟨_, rfl, rfl, rfl, Or.inl rfl⟩
      · refine o_aload_n hC dX8_find_12 (by rfl) ?_
        refine o_iload_n hC dX8_find_13 (by rfl) ?_
        refine o_iload_n hC dX8_find_14 (by rfl) ?_
        refine o_callV2 hC rl_BW_good rl_Ns_nw (by exact hB.2.2.2.2.2) YX8_against IX8_against VX8_against (mX8_141 hC) (by rw [hB.1]; exact cm_X8_against l D ids H0 _ _ m T _ _ S a t w hq hs (by omega) (by omega) hw hw6) (by exact hq.1) rfl rfl (Nat.le_of_ble_eq_true rfl) (by rw [hB.2.1]; first | exact Nat.le_of_ble_eq_true rfl | (dsimp only; omega)) (by rw [hB.2.1]; first | exact Nat.le_of_ble_eq_true rfl | (dsimp only; omega)) (by rw [hB.2.1]; first | exact Nat.le_of_ble_eq_true rfl | (dsimp only; omega)) (by rw [hB.2.1]; first | exact Nat.le_of_ble_eq_true rfl | (dsimp only; omega)) dX8_find_15 (fun v h_15 n_15 p_15 => ?_)
        obtain ⟨r15, rfl, rfl, rfl⟩ := p_15
        try dsimp only [Option.toList, List.cons_append, List.nil_append]
        refine o_if_ne (tgt := 23) hC dX8_find_18 (by decide) (fun c_18 => ?_) (fun c_18 => ?_)
        · refine o_iinc hC dX8_find_23 (by rfl) (rl_inc _) (Nat.le_of_ble_eq_true rfl) ?_
          refine o_goto (tgt := 2) hC dX8_find_26 (by decide) ?_
          exact ih (t + 1) (by omega)
        · refine o_iload_n hC dX8_find_21 (by rfl) ?_
          refine o_iret hC hB dX8_find_22 (Nat.le_of_ble_eq_true rfl) (Nat.le_of_ble_eq_true rfl) ?_
          exact ⟨_, rfl, rfl, rfl, Or.inr ⟨t, by omega, rfl⟩⟩
  show rl_G X (rl_e D ids H0) 0 [some (.ref m), some (.int (nI a)), none] [] h n 0 0
  refine o_iconst (v := nI 0) hC dX8_find_0 (by decide +kernel) ?_
  refine o_istore_n hC dX8_find_1 (Nat.le_of_ble_eq_true rfl) ?_
  exact loop 80 0 (by omega)

set_option maxHeartbeats 4000000 in
set_option maxRecDepth 100000 in
theorem cm_X8_take (l : Launch) (D : va_G) (ids : Nat → ClassId) (H0 : Heap) (h : rl_H) (n : Nat) (m : Nat) (T : md_T) (fu : Int32) (k : Nat) (a t w : Nat) (hq : mq ids h h m T fu k) (ha : a < 16) (ht : t < 80) (hw : w ≤ 6) : rl_Met l (rl_e D ids H0) rl_BW rl_Ns yX8_take cX8_take 5 none ({ frames := 1, cells := 0, slots := 0, locals := 23 }) [.ref m, .int (nI a), .int (nI t), .int (nI w)] h n (fun v h' n' => v = none ∧ n' = n ∧ mq ids h h' m T fu k) := by
  obtain ⟨g0, gk, ⟨⟨cl, g12⟩, ⟨tu, g13, b13⟩, ⟨im, g14⟩, ⟨te, g15, b15⟩, ⟨ne, g16⟩, ⟨la, g17⟩, ⟨hn, g18⟩, ⟨hl, g19⟩, ⟨tp, g20⟩, ⟨gr, g21, b21⟩, ⟨it, g22⟩⟩, gf⟩ := id hq
  refine rl_Met.of (by decide +kernel) (Nat.le_of_ble_eq_true rfl) ?_
  intro X hC hB
  have loop : ∀ (mm c : Nat) (h1 : rl_H), c + mm = w → mq ids h h1 m T fu k → rl_G X (rl_e D ids H0) 3 [some (.ref m), some (.int (nI a)), some (.int (nI t)), some (.int (nI w)), some (.int (nI c))] [] h1 n 0 0 := by
    intro mm
    induction mm with
    | zero =>
      intro c h1 hm hq1
      refine o_iload hC dX8_take_3 (by rfl) ?_
      refine o_iload_n hC dX8_take_5 (by rfl) ?_
      refine o_icmp_ge (tgt := 30) hC dX8_take_6 (by decide) (fun c_6 => ?_) (fun c_6 => ?_)
      · refine o_vret hC hB dX8_take_30 (Nat.le_of_ble_eq_true rfl) (Nat.le_of_ble_eq_true rfl) ?_
        exact ⟨rfl, rfl, hq1⟩
      · exact absurd (nI_le (by omega) (by omega)) c_6
    | succ mm ih =>
      intro c h1 hm hq1
      obtain ⟨g0, gk, ⟨⟨cl, g12⟩, ⟨tu, g13, b13⟩, ⟨im, g14⟩, ⟨te, g15, b15⟩, ⟨ne, g16⟩, ⟨la, g17⟩, ⟨hn, g18⟩, ⟨hl, g19⟩, ⟨tp, g20⟩, ⟨gr, g21, b21⟩, ⟨it, g22⟩⟩, gf⟩ := id hq1
      refine o_iload hC dX8_take_3 (by rfl) ?_
      refine o_iload_n hC dX8_take_5 (by rfl) ?_
      refine o_icmp_ge (tgt := 30) hC dX8_take_6 (by decide) (fun c_6 => ?_) (fun c_6 => ?_)
      · refine o_vret hC hB dX8_take_30 (Nat.le_of_ble_eq_true rfl) (Nat.le_of_ble_eq_true rfl) ?_
        exact ⟨rfl, rfl, hq1⟩
      · refine o_aload_n hC dX8_take_9 (by rfl) ?_
        refine o_getf hC (fX8_69 hC rfl) dX8_take_10 (by repeat (first | with_reducible assumption | (rw [rl_u_s]; done) | (rw [rl_u_s]; rfl) | rw [rl_u_n (by first | with_reducible assumption | omega)])) (by first | rfl | with_reducible assumption) ?_
        refine o_iload hC dX8_take_13 (by rfl) ?_
        refine o_aload_n hC dX8_take_15 (by rfl) ?_
        refine o_iload_n hC dX8_take_16 (by rfl) ?_
        refine o_iload_n hC dX8_take_17 (by rfl) ?_
        refine o_iload hC dX8_take_18 (by rfl) ?_
        refine o_callV3 hC rl_BW_good rl_Ns_nw (by exact hB.2.2.2.2.2) YX8_cellAt IX8_cellAt VX8_cellAt (mX8_138 hC) (by rw [hB.1]; exact cm_X8_cellAt l D ids H0 _ _ m T _ _ a t c hq1.rf (by omega)) (by exact hq1.rf.1) rfl rfl (Nat.le_of_ble_eq_true rfl) (by rw [hB.2.1]; first | exact Nat.le_of_ble_eq_true rfl | (dsimp only; omega)) (by rw [hB.2.1]; first | exact Nat.le_of_ble_eq_true rfl | (dsimp only; omega)) (by rw [hB.2.1]; first | exact Nat.le_of_ble_eq_true rfl | (dsimp only; omega)) (by rw [hB.2.1]; first | exact Nat.le_of_ble_eq_true rfl | (dsimp only; omega)) dX8_take_20 (fun v h_20 n_20 p_20 => ?_)
        obtain ⟨r20, rfl, rfl, rfl⟩ := p_20
        try dsimp only [Option.toList, List.cons_append, List.nil_append]
        refine o_iastN (t0 := 0) hC rfl dX8_take_23 (by repeat (first | with_reducible assumption | (rw [rl_u_s]; done) | (rw [rl_u_s]; rfl) | rw [rl_u_n (by first | with_reducible assumption | omega)])) (by omega) (by decide) ?_
        refine o_iinc hC dX8_take_24 (by rfl) (rl_inc _) (Nat.le_of_ble_eq_true rfl) ?_
        refine o_goto (tgt := 3) hC dX8_take_27 (by decide) ?_
        exact ih (c + 1) _ (by omega) (hq1.s20 _)
  show rl_G X (rl_e D ids H0) 0 [some (.ref m), some (.int (nI a)), some (.int (nI t)), some (.int (nI w)), none] [] h n 0 0
  refine o_iconst (v := nI 0) hC dX8_take_0 (by decide +kernel) ?_
  refine o_istore hC dX8_take_1 (Nat.le_of_ble_eq_true rfl) ?_
  exact loop w 0 _ (by omega) hq

set_option maxHeartbeats 4000000 in
set_option maxRecDepth 100000 in
theorem cm_X8_comes (l : Launch) (D : va_G) (ids : Nat → ClassId) (H0 : Heap) (h : rl_H) (n : Nat) (m : Nat) (T : md_T) (fu : Int32) (k : Nat) (S : md_A) (a b w : Nat) (hq : mq ids h h m T fu k) (hs : md_sa ids h m S) (ha : a < 16) (hb : b < 1368) (hw : S.2.2.2.2.2.2.2.2.2.2 a = nI w) (hw6 : w ≤ 6) : rl_Met l (rl_e D ids H0) rl_BW rl_Ns yX8_comes cX8_comes 6 none ({ frames := 3, cells := 0, slots := 0, locals := 73 }) [.ref m, .int (nI a), .int (nI b)] h n (fun v h' n' => v = none ∧ n' = n ∧ ∃ (fu' : Int32) (k' : Nat), mq ids h h' m T fu' k') := by
  obtain ⟨g0, gk, ⟨⟨cl, g12⟩, ⟨tu, g13, b13⟩, ⟨im, g14⟩, ⟨te, g15, b15⟩, ⟨ne, g16⟩, ⟨la, g17⟩, ⟨hn, g18⟩, ⟨hl, g19⟩, ⟨tp, g20⟩, ⟨gr, g21, b21⟩, ⟨it, g22⟩⟩, gf⟩ := id hq
  obtain ⟨a1, a2, a3, a4, a5, a6, a7, a8, a9, a10, a11⟩ := id hs
  refine rl_Met.of (by decide +kernel) (Nat.le_of_ble_eq_true rfl) ?_
  intro X hC hB
  show rl_G X (rl_e D ids H0) 0 [some (.ref m), some (.int (nI a)), some (.int (nI b)), none, none, none] [] h n 0 0
  refine o_aload_n hC dX8_comes_0 (by rfl) ?_
  refine o_getf hC (fX8_91 hC rfl) dX8_comes_1 (by repeat (first | with_reducible assumption | (rw [rl_u_s]; done) | (rw [rl_u_s]; rfl) | rw [rl_u_n (by first | with_reducible assumption | omega)])) (by first | rfl | with_reducible assumption) ?_
  refine o_if_ne (tgt := 16) hC dX8_comes_4 (by decide) (fun c_4 => ?_) (fun c_4 => ?_)
  · refine o_vret hC hB dX8_comes_16 (Nat.le_of_ble_eq_true rfl) (Nat.le_of_ble_eq_true rfl) ?_
    exact ⟨rfl, rfl, _, _, hq⟩
  · refine o_aload_n hC dX8_comes_7 (by rfl) ?_
    refine o_getf hC (fX8_53 hC rfl) dX8_comes_8 (by repeat (first | with_reducible assumption | (rw [rl_u_s]; done) | (rw [rl_u_s]; rfl) | rw [rl_u_n (by first | with_reducible assumption | omega)])) (by first | rfl | with_reducible assumption) ?_
    refine o_iload_n hC dX8_comes_11 (by rfl) ?_
    obtain ⟨t12, ht12, et12⟩ := b15 b (by omega)
    refine o_ialdN (t0 := 0) (k := b) hC rfl dX8_comes_12 (by repeat (first | with_reducible assumption | (rw [rl_u_s]; done) | (rw [rl_u_s]; rfl) | rw [rl_u_n (by first | with_reducible assumption | omega)])) (by omega) (by decide) ?_
    rw [et12]
    refine o_if_ne (tgt := 17) hC dX8_comes_13 (by decide) (fun c_13 => ?_) (fun c_13 => ?_)
    · refine o_aload_n hC dX8_comes_17 (by rfl) ?_
      refine o_iload_n hC dX8_comes_18 (by rfl) ?_
      refine o_callV1 hC rl_BW_good rl_Ns_nw (by exact hB.2.2.2.2.2) YX8_find IX8_find VX8_find (mX8_145 hC) (by rw [hB.1]; exact cm_X8_find l D ids H0 _ _ m T _ _ S a w hq hs (by omega) hw hw6) (by exact g0) rfl rfl (Nat.le_of_ble_eq_true rfl) (by rw [hB.2.1]; first | exact Nat.le_of_ble_eq_true rfl | (dsimp only; omega)) (by rw [hB.2.1]; first | exact Nat.le_of_ble_eq_true rfl | (dsimp only; omega)) (by rw [hB.2.1]; first | exact Nat.le_of_ble_eq_true rfl | (dsimp only; omega)) (by rw [hB.2.1]; first | exact Nat.le_of_ble_eq_true rfl | (dsimp only; omega)) dX8_comes_19 (fun v h_19 n_19 p_19 => ?_)
      obtain ⟨r19, rfl, rfl, rfl, hr19⟩ := p_19
      try dsimp only [Option.toList, List.cons_append, List.nil_append]
      rcases hr19 with rfl | ⟨t, ht, rfl⟩
      · try dsimp only [Option.toList, List.cons_append, List.nil_append]
        refine o_istore_n hC dX8_comes_22 (Nat.le_of_ble_eq_true rfl) ?_
        refine o_iload_n hC dX8_comes_23 (by rfl) ?_
        refine o_iconst (v := (-1 : Int32)) hC dX8_comes_24 (by decide +kernel) ?_
        refine o_icmp_eq (tgt := 46) hC dX8_comes_25 (by decide) (fun c_25 => ?_) (fun c_25 => ?_)
        · refine o_aload_n hC dX8_comes_46 (by rfl) ?_
          refine o_getf hC (fX8_46 hC rfl) dX8_comes_47 (by repeat (first | with_reducible assumption | (rw [rl_u_s]; done) | (rw [rl_u_s]; rfl) | rw [rl_u_n (by first | with_reducible assumption | omega)])) (by first | rfl | with_reducible assumption) ?_
          refine o_iload_n hC dX8_comes_50 (by rfl) ?_
          obtain ⟨t0, ht0, et0⟩ := b13 a (by omega)
          refine o_ialdN (t0 := 0) (k := a) hC rfl dX8_comes_51 (by repeat (first | with_reducible assumption | (rw [rl_u_s]; done) | (rw [rl_u_s]; rfl) | rw [rl_u_n (by first | with_reducible assumption | omega)])) (by omega) (by decide) ?_
          rw [et0]
          refine o_bipush (v := nI 80) hC dX8_comes_52 (by decide +kernel) ?_
          refine o_icmp_ne (tgt := 63) hC dX8_comes_54 (by decide) (fun c_54 => ?_) (fun c_54 => ?_)
          · have t80 : t0 ≠ 80 := fun e => c_54 (by rw [e])
            refine o_aload_n hC dX8_comes_63 (by rfl) ?_
            refine o_getf hC (fX8_46 hC rfl) dX8_comes_64 (by repeat (first | with_reducible assumption | (rw [rl_u_s]; done) | (rw [rl_u_s]; rfl) | rw [rl_u_n (by first | with_reducible assumption | omega)])) (by first | rfl | with_reducible assumption) ?_
            refine o_iload_n hC dX8_comes_67 (by rfl) ?_
            refine o_ialdN (t0 := 0) (k := a) hC rfl dX8_comes_68 (by repeat (first | with_reducible assumption | (rw [rl_u_s]; done) | (rw [rl_u_s]; rfl) | rw [rl_u_n (by first | with_reducible assumption | omega)])) (by omega) (by decide) ?_
            rw [et0]
            refine o_istore hC dX8_comes_69 (Nat.le_of_ble_eq_true rfl) ?_
            have loopD : ∀ (mm c p : Nat) (h1 : rl_H) (o3 : Option Value), c + mm = 6 → p < 80 → mq ids h_19 h1 m T fu k → h1 (m + 13) = some (.inl (ids 0, 17, .inl tu)) → rl_G X (rl_e D ids H0) 171 [some (.ref m), some (.int (nI a)), some (.int (nI b)), o3, some (.int (nI p)), some (.int (nI c))] [] h1 n_19 0 0 := by
              intro mm
              induction mm with
              | zero =>
                intro c p h1 o3 hm hp hq1 e13
                obtain ⟨g0, gk, ⟨⟨cl, g12⟩, -, ⟨im, g14⟩, ⟨te, g15, b15⟩, ⟨ne, g16⟩, ⟨la, g17⟩, ⟨hn, g18⟩, ⟨hl, g19⟩, ⟨tp, g20⟩, ⟨gr, g21, b21⟩, ⟨it, g22⟩⟩, gf⟩ := id hq1
                refine o_iload hC dX8_comes_171 (by rfl) ?_
                refine o_bipush (v := nI 6) hC dX8_comes_173 (by decide +kernel) ?_
                refine o_icmp_ge (tgt := 209) hC dX8_comes_175 (by decide) (fun c_175 => ?_) (fun c_175 => ?_)
                · refine o_aload_n hC dX8_comes_209 (by rfl) ?_
                  refine o_bipush (v := nI 80) hC dX8_comes_210 (by decide +kernel) ?_
                  refine o_iload_n hC dX8_comes_212 (by rfl) ?_
                  refine o_imul hC dX8_comes_213 ?_
                  try rw [nI_mul]
                  refine o_iload hC dX8_comes_214 (by rfl) ?_
                  refine o_iadd hC dX8_comes_216 ?_
                  try rw [nI_add]
                  refine o_iload_n hC dX8_comes_217 (by rfl) ?_
                  refine o_callV2 hC rl_BW_good rl_Ns_nw (by exact hB.2.2.2.2.2) YX8_copy IX8_copy VX8_copy (mX8_153 hC) (by rw [hB.1]; exact cm_X8_copy l D ids H0 _ _ m T _ _ (80 * a + p) b hq1.rf (by omega) (by omega)) (by exact hq1.1) rfl rfl (Nat.le_of_ble_eq_true rfl) (by rw [hB.2.1]; first | exact Nat.le_of_ble_eq_true rfl | (dsimp only; omega)) (by rw [hB.2.1]; first | exact Nat.le_of_ble_eq_true rfl | (dsimp only; omega)) (by rw [hB.2.1]; first | exact Nat.le_of_ble_eq_true rfl | (dsimp only; omega)) (by rw [hB.2.1]; first | exact Nat.le_of_ble_eq_true rfl | (dsimp only; omega)) dX8_comes_218 (fun v h_218 n_218 p_218 => ?_)
                  obtain ⟨rfl, rfl, q218, f218⟩ := p_218
                  have gb218 := q218.1
                  try dsimp only [Option.toList, List.cons_append, List.nil_append]
                  refine o_aload_n hC dX8_comes_221 (by rfl) ?_
                  refine o_getf hC (fX8_46 hC rfl) dX8_comes_222 (by repeat (first | with_reducible assumption | (rw [rl_u_s]; done) | (rw [rl_u_s]; rfl) | rw [rl_u_n (by first | with_reducible assumption | omega)])) (by first | rfl | with_reducible assumption) ?_
                  refine o_iload_n hC dX8_comes_225 (by rfl) ?_
                  refine o_dup2 hC dX8_comes_226 rfl rfl ?_
                  refine o_ialdN (t0 := 0) (k := a) hC rfl dX8_comes_227 ((f218 _ (by omega) (by omega) (by omega)).trans e13) (by omega) (by decide) ?_
                  rw [et0]
                  refine o_iconst (v := nI 1) hC dX8_comes_228 (by decide +kernel) ?_
                  refine o_iadd hC dX8_comes_229 ?_
                  try rw [nI_add]
                  refine o_iastN (t0 := 0) (k := a) hC rfl dX8_comes_230 ((f218 _ (by omega) (by omega) (by omega)).trans e13) (by omega) (by decide) ?_
                  refine o_vret hC hB dX8_comes_231 (Nat.le_of_ble_eq_true rfl) (Nat.le_of_ble_eq_true rfl) ?_
                  exact ⟨rfl, rfl, _, _, (hq1.tr q218).s13 _ (md_bd b13 ⟨t0 + 1, by omega, rfl⟩)⟩
                · exact absurd (nI_le (by omega) (by omega)) c_175
              | succ mm ih =>
                intro c p h1 o3 hm hp hq1 e13
                obtain ⟨g0, gk, ⟨⟨cl, g12⟩, -, ⟨im, g14⟩, ⟨te, g15, b15⟩, ⟨ne, g16⟩, ⟨la, g17⟩, ⟨hn, g18⟩, ⟨hl, g19⟩, ⟨tp, g20⟩, ⟨gr, g21, b21⟩, ⟨it, g22⟩⟩, gf⟩ := id hq1
                refine o_iload hC dX8_comes_171 (by rfl) ?_
                refine o_bipush (v := nI 6) hC dX8_comes_173 (by decide +kernel) ?_
                refine o_icmp_ge (tgt := 209) hC dX8_comes_175 (by decide) (fun c_175 => ?_) (fun c_175 => ?_)
                · exact absurd c_175 (nI_ge (by omega) (by omega))
                · refine o_aload_n hC dX8_comes_178 (by rfl) ?_
                  refine o_getf hC (fX8_43 hC rfl) dX8_comes_179 (by repeat (first | with_reducible assumption | (rw [rl_u_s]; done) | (rw [rl_u_s]; rfl) | rw [rl_u_n (by first | with_reducible assumption | omega)])) (by first | rfl | with_reducible assumption) ?_
                  refine o_bipush (v := nI 80) hC dX8_comes_182 (by decide +kernel) ?_
                  refine o_iload_n hC dX8_comes_184 (by rfl) ?_
                  refine o_imul hC dX8_comes_185 ?_
                  try rw [nI_mul]
                  refine o_iload hC dX8_comes_186 (by rfl) ?_
                  refine o_iadd hC dX8_comes_188 ?_
                  try rw [nI_add]
                  refine o_bipush (v := nI 6) hC dX8_comes_189 (by decide +kernel) ?_
                  refine o_imul hC dX8_comes_191 ?_
                  try rw [nI_mul]
                  refine o_iload hC dX8_comes_192 (by rfl) ?_
                  refine o_iadd hC dX8_comes_194 ?_
                  try rw [nI_add]
                  refine o_aload_n hC dX8_comes_195 (by rfl) ?_
                  refine o_getf hC (fX8_69 hC rfl) dX8_comes_196 (by repeat (first | with_reducible assumption | (rw [rl_u_s]; done) | (rw [rl_u_s]; rfl) | rw [rl_u_n (by first | with_reducible assumption | omega)])) (by first | rfl | with_reducible assumption) ?_
                  refine o_iload hC dX8_comes_199 (by rfl) ?_
                  refine o_ialdN (t0 := 0) hC rfl dX8_comes_201 (by repeat (first | with_reducible assumption | (rw [rl_u_s]; done) | (rw [rl_u_s]; rfl) | rw [rl_u_n (by first | with_reducible assumption | omega)])) (by omega) (by decide) ?_
                  refine o_iastN (t0 := 0) hC rfl dX8_comes_202 (by repeat (first | with_reducible assumption | (rw [rl_u_s]; done) | (rw [rl_u_s]; rfl) | rw [rl_u_n (by first | with_reducible assumption | omega)])) (by omega) (by decide) ?_
                  refine o_iinc hC dX8_comes_203 (by rfl) (rl_inc _) (Nat.le_of_ble_eq_true rfl) ?_
                  refine o_goto (tgt := 171) hC dX8_comes_206 (by decide) ?_
                  exact ih (c + 1) p _ _ (by omega) hp (hq1.s12 _) (by rw [rl_u_n (by omega)]; exact e13)
            have loopP : ∀ (p : Nat) (h1 : rl_H) (o3 o5 : Option Value), p < 80 → mq ids h_19 h1 m T fu k → h1 (m + 13) = some (.inl (ids 0, 17, .inl tu)) → rl_G X (rl_e D ids H0) 71 [some (.ref m), some (.int (nI a)), some (.int (nI b)), o3, some (.int (nI p)), o5] [] h1 n_19 0 0 := by
              intro p
              induction p with
              | zero =>
                intro h1 o3 o5 hp hq1 e13
                refine o_iload hC dX8_comes_71 (by rfl) ?_
                refine o_if_le (tgt := 168) hC dX8_comes_73 (by decide) (fun c_73 => ?_) (fun c_73 => ?_)
                · refine o_iconst (v := nI 0) hC dX8_comes_168 (by decide +kernel) ?_
                  refine o_istore hC dX8_comes_169 (Nat.le_of_ble_eq_true rfl) ?_
                  exact loopD 6 0 _ _ _ (by omega) (by omega) hq1 e13
                · exact absurd (by decide +kernel) c_73
              | succ p ihp =>
                intro h1 o3 o5 hp hq1 e13
                have loopC : ∀ (mm c : Nat) (h2 : rl_H), c + mm = 6 → mq ids h_19 h2 m T fu k → h2 (m + 13) = some (.inl (ids 0, 17, .inl tu)) → rl_G X (rl_e D ids H0) 91 [some (.ref m), some (.int (nI a)), some (.int (nI b)), o3, some (.int (nI (p + 1))), some (.int (nI c))] [] h2 n_19 0 0 := by
                  intro mm
                  induction mm with
                  | zero =>
                    intro c h2 hm hq2 e13
                    obtain ⟨g0, gk, ⟨⟨cl, g12⟩, -, ⟨im, g14⟩, ⟨te, g15, b15⟩, ⟨ne, g16⟩, ⟨la, g17⟩, ⟨hn, g18⟩, ⟨hl, g19⟩, ⟨tp, g20⟩, ⟨gr, g21, b21⟩, ⟨it, g22⟩⟩, gf⟩ := id hq2
                    refine o_iload hC dX8_comes_91 (by rfl) ?_
                    refine o_bipush (v := nI 6) hC dX8_comes_93 (by decide +kernel) ?_
                    refine o_icmp_ge (tgt := 142) hC dX8_comes_95 (by decide) (fun c_95 => ?_) (fun c_95 => ?_)
                    · refine o_aload_n hC dX8_comes_142 (by rfl) ?_
                      refine o_bipush (v := nI 80) hC dX8_comes_143 (by decide +kernel) ?_
                      refine o_iload_n hC dX8_comes_145 (by rfl) ?_
                      refine o_imul hC dX8_comes_146 ?_
                      try rw [nI_mul]
                      refine o_iload hC dX8_comes_147 (by rfl) ?_
                      refine o_iadd hC dX8_comes_149 ?_
                      try rw [nI_add]
                      refine o_bipush (v := nI 80) hC dX8_comes_150 (by decide +kernel) ?_
                      refine o_iload_n hC dX8_comes_152 (by rfl) ?_
                      refine o_imul hC dX8_comes_153 ?_
                      try rw [nI_mul]
                      refine o_iload hC dX8_comes_154 (by rfl) ?_
                      refine o_iadd hC dX8_comes_156 ?_
                      try rw [nI_add]
                      refine o_iconst (v := nI 1) hC dX8_comes_157 (by decide +kernel) ?_
                      refine o_isub hC dX8_comes_158 ?_
                      rw [show nI (80 * a + (p + 1)) - nI 1 = nI (80 * a + p) from rl_pred _]
                      refine o_callV2 hC rl_BW_good rl_Ns_nw (by exact hB.2.2.2.2.2) YX8_copy IX8_copy VX8_copy (mX8_153 hC) (by rw [hB.1]; exact cm_X8_copy l D ids H0 _ _ m T _ _ (80 * a + (p + 1)) (80 * a + p) hq2.rf (by omega) (by omega)) (by exact hq2.1) rfl rfl (Nat.le_of_ble_eq_true rfl) (by rw [hB.2.1]; first | exact Nat.le_of_ble_eq_true rfl | (dsimp only; omega)) (by rw [hB.2.1]; first | exact Nat.le_of_ble_eq_true rfl | (dsimp only; omega)) (by rw [hB.2.1]; first | exact Nat.le_of_ble_eq_true rfl | (dsimp only; omega)) (by rw [hB.2.1]; first | exact Nat.le_of_ble_eq_true rfl | (dsimp only; omega)) dX8_comes_159 (fun v h_159 n_159 p_159 => ?_)
                      obtain ⟨rfl, rfl, q159, f159⟩ := p_159
                      have gb159 := q159.1
                      try dsimp only [Option.toList, List.cons_append, List.nil_append]
                      refine o_iinc hC dX8_comes_162 (by rfl) (rl_dec _) (Nat.le_of_ble_eq_true rfl) ?_
                      refine o_goto (tgt := 71) hC dX8_comes_165 (by decide) ?_
                      exact ihp _ _ _ (by omega) (hq2.tr q159) ((f159 _ (by omega) (by omega) (by omega)).trans e13)
                    · exact absurd (nI_le (by omega) (by omega)) c_95
                  | succ mm ih =>
                    intro c h2 hm hq2 e13
                    obtain ⟨g0, gk, ⟨⟨cl, g12⟩, -, ⟨im, g14⟩, ⟨te, g15, b15⟩, ⟨ne, g16⟩, ⟨la, g17⟩, ⟨hn, g18⟩, ⟨hl, g19⟩, ⟨tp, g20⟩, ⟨gr, g21, b21⟩, ⟨it, g22⟩⟩, gf⟩ := id hq2
                    refine o_iload hC dX8_comes_91 (by rfl) ?_
                    refine o_bipush (v := nI 6) hC dX8_comes_93 (by decide +kernel) ?_
                    refine o_icmp_ge (tgt := 142) hC dX8_comes_95 (by decide) (fun c_95 => ?_) (fun c_95 => ?_)
                    · exact absurd c_95 (nI_ge (by omega) (by omega))
                    · refine o_aload_n hC dX8_comes_98 (by rfl) ?_
                      refine o_getf hC (fX8_43 hC rfl) dX8_comes_99 (by repeat (first | with_reducible assumption | (rw [rl_u_s]; done) | (rw [rl_u_s]; rfl) | rw [rl_u_n (by first | with_reducible assumption | omega)])) (by first | rfl | with_reducible assumption) ?_
                      refine o_bipush (v := nI 80) hC dX8_comes_102 (by decide +kernel) ?_
                      refine o_iload_n hC dX8_comes_104 (by rfl) ?_
                      refine o_imul hC dX8_comes_105 ?_
                      try rw [nI_mul]
                      refine o_iload hC dX8_comes_106 (by rfl) ?_
                      refine o_iadd hC dX8_comes_108 ?_
                      try rw [nI_add]
                      refine o_bipush (v := nI 6) hC dX8_comes_109 (by decide +kernel) ?_
                      refine o_imul hC dX8_comes_111 ?_
                      try rw [nI_mul]
                      refine o_iload hC dX8_comes_112 (by rfl) ?_
                      refine o_iadd hC dX8_comes_114 ?_
                      try rw [nI_add]
                      refine o_aload_n hC dX8_comes_115 (by rfl) ?_
                      refine o_getf hC (fX8_43 hC rfl) dX8_comes_116 (by repeat (first | with_reducible assumption | (rw [rl_u_s]; done) | (rw [rl_u_s]; rfl) | rw [rl_u_n (by first | with_reducible assumption | omega)])) (by first | rfl | with_reducible assumption) ?_
                      refine o_bipush (v := nI 80) hC dX8_comes_119 (by decide +kernel) ?_
                      refine o_iload_n hC dX8_comes_121 (by rfl) ?_
                      refine o_imul hC dX8_comes_122 ?_
                      try rw [nI_mul]
                      refine o_iload hC dX8_comes_123 (by rfl) ?_
                      refine o_iadd hC dX8_comes_125 ?_
                      try rw [nI_add]
                      refine o_iconst (v := nI 1) hC dX8_comes_126 (by decide +kernel) ?_
                      refine o_isub hC dX8_comes_127 ?_
                      rw [show nI (80 * a + (p + 1)) - nI 1 = nI (80 * a + p) from rl_pred _]
                      refine o_bipush (v := nI 6) hC dX8_comes_128 (by decide +kernel) ?_
                      refine o_imul hC dX8_comes_130 ?_
                      try rw [nI_mul]
                      refine o_iload hC dX8_comes_131 (by rfl) ?_
                      refine o_iadd hC dX8_comes_133 ?_
                      try rw [nI_add]
                      refine o_ialdN (t0 := 0) hC rfl dX8_comes_134 (by repeat (first | with_reducible assumption | (rw [rl_u_s]; done) | (rw [rl_u_s]; rfl) | rw [rl_u_n (by first | with_reducible assumption | omega)])) (by omega) (by decide) ?_
                      refine o_iastN (t0 := 0) hC rfl dX8_comes_135 (by repeat (first | with_reducible assumption | (rw [rl_u_s]; done) | (rw [rl_u_s]; rfl) | rw [rl_u_n (by first | with_reducible assumption | omega)])) (by omega) (by decide) ?_
                      refine o_iinc hC dX8_comes_136 (by rfl) (rl_inc _) (Nat.le_of_ble_eq_true rfl) ?_
                      refine o_goto (tgt := 91) hC dX8_comes_139 (by decide) ?_
                      exact ih (c + 1) _ (by omega) (hq2.s12 _) (by rw [rl_u_n (by omega)]; exact e13)
                have hs1 := hq1.sa hs
                obtain ⟨g0, gk, ⟨⟨cl, g12⟩, -, ⟨im, g14⟩, ⟨te, g15, b15⟩, ⟨ne, g16⟩, ⟨la, g17⟩, ⟨hn, g18⟩, ⟨hl, g19⟩, ⟨tp, g20⟩, ⟨gr, g21, b21⟩, ⟨it, g22⟩⟩, gf⟩ := id hq1
                refine o_iload hC dX8_comes_71 (by rfl) ?_
                refine o_if_le (tgt := 168) hC dX8_comes_73 (by decide) (fun c_73 => ?_) (fun c_73 => ?_)
                · refine o_iconst (v := nI 0) hC dX8_comes_168 (by decide +kernel) ?_
                  refine o_istore hC dX8_comes_169 (Nat.le_of_ble_eq_true rfl) ?_
                  exact loopD 6 0 _ _ _ (by omega) (by omega) hq1 e13
                · refine o_aload_n hC dX8_comes_76 (by rfl) ?_
                  refine o_iload_n hC dX8_comes_77 (by rfl) ?_
                  refine o_iload hC dX8_comes_78 (by rfl) ?_
                  refine o_iconst (v := nI 1) hC dX8_comes_80 (by decide +kernel) ?_
                  refine o_isub hC dX8_comes_81 ?_
                  rw [show nI ((p + 1)) - nI 1 = nI (p) from rl_pred _]
                  refine o_callV2 hC rl_BW_good rl_Ns_nw (by exact hB.2.2.2.2.2) YX8_against IX8_against VX8_against (mX8_141 hC) (by rw [hB.1]; exact cm_X8_against l D ids H0 _ _ m T _ _ S a p w hq1.rf hs1 (by omega) (by omega) hw hw6) (by exact hq1.rf.1) rfl rfl (Nat.le_of_ble_eq_true rfl) (by rw [hB.2.1]; first | exact Nat.le_of_ble_eq_true rfl | (dsimp only; omega)) (by rw [hB.2.1]; first | exact Nat.le_of_ble_eq_true rfl | (dsimp only; omega)) (by rw [hB.2.1]; first | exact Nat.le_of_ble_eq_true rfl | (dsimp only; omega)) (by rw [hB.2.1]; first | exact Nat.le_of_ble_eq_true rfl | (dsimp only; omega)) dX8_comes_82 (fun v h_82 n_82 p_82 => ?_)
                  obtain ⟨r82, rfl, rfl, rfl⟩ := p_82
                  try dsimp only [Option.toList, List.cons_append, List.nil_append]
                  refine o_if_ge (tgt := 168) hC dX8_comes_85 (by decide) (fun c_85 => ?_) (fun c_85 => ?_)
                  · refine o_iconst (v := nI 0) hC dX8_comes_168 (by decide +kernel) ?_
                    refine o_istore hC dX8_comes_169 (Nat.le_of_ble_eq_true rfl) ?_
                    exact loopD 6 0 _ _ _ (by omega) (by omega) hq1 e13
                  · refine o_iconst (v := nI 0) hC dX8_comes_88 (by decide +kernel) ?_
                    refine o_istore hC dX8_comes_89 (Nat.le_of_ble_eq_true rfl) ?_
                    exact loopC 6 0 _ (by omega) hq1 e13
            exact loopP t0 _ _ _ (by omega) hq g13
          · refine o_aload_n hC dX8_comes_57 (by rfl) ?_
            refine o_iconst (v := nI 1) hC dX8_comes_58 (by decide +kernel) ?_
            refine o_putf hC (fX8_91 hC rfl) (fwX8 rfl rfl rfl (Or.inl rfl)) dX8_comes_59 (by repeat (first | with_reducible assumption | (rw [rl_u_s]; done) | (rw [rl_u_s]; rfl) | rw [rl_u_n (by first | with_reducible assumption | omega)])) (Nat.le_of_ble_eq_true rfl) ?_
            try simp only [List.set_cons_zero, List.set_cons_succ]
            refine o_vret hC hB dX8_comes_62 (Nat.le_of_ble_eq_true rfl) (Nat.le_of_ble_eq_true rfl) ?_
            exact ⟨rfl, rfl, _, _, hq.ob T (nI 1) k gk⟩
        · exact absurd rfl c_25
      · try dsimp only [Option.toList, List.cons_append, List.nil_append]
        refine o_istore_n hC dX8_comes_22 (Nat.le_of_ble_eq_true rfl) ?_
        refine o_iload_n hC dX8_comes_23 (by rfl) ?_
        refine o_iconst (v := (-1 : Int32)) hC dX8_comes_24 (by decide +kernel) ?_
        refine o_icmp_eq (tgt := 46) hC dX8_comes_25 (by decide) (fun c_25 => ?_) (fun c_25 => ?_)
        · exact absurd c_25 (fun e => absurd (e ▸ (show (-1 : Int32) < 0 by decide +kernel)) (nI_pos (by omega)))
        · refine o_aload_n hC dX8_comes_28 (by rfl) ?_
          refine o_bipush (v := nI 80) hC dX8_comes_29 (by decide +kernel) ?_
          refine o_iload_n hC dX8_comes_31 (by rfl) ?_
          refine o_imul hC dX8_comes_32 ?_
          try rw [nI_mul]
          refine o_iload_n hC dX8_comes_33 (by rfl) ?_
          refine o_iadd hC dX8_comes_34 ?_
          try rw [nI_add]
          refine o_bipush (v := nI 80) hC dX8_comes_35 (by decide +kernel) ?_
          refine o_iload_n hC dX8_comes_37 (by rfl) ?_
          refine o_imul hC dX8_comes_38 ?_
          try rw [nI_mul]
          refine o_iload_n hC dX8_comes_39 (by rfl) ?_
          refine o_iadd hC dX8_comes_40 ?_
          try rw [nI_add]
          refine o_iload_n hC dX8_comes_41 (by rfl) ?_
          refine o_callV3 hC rl_BW_good rl_Ns_nw (by exact hB.2.2.2.2.2) YX8_either IX8_either VX8_either (mX8_149 hC) (by rw [hB.1]; exact cm_X8_either l D ids H0 _ _ m T _ _ (80 * a + t) (80 * a + t) b hq (by omega) (by omega) (by omega)) (by exact g0) rfl rfl (Nat.le_of_ble_eq_true rfl) (by rw [hB.2.1]; first | exact Nat.le_of_ble_eq_true rfl | (dsimp only; omega)) (by rw [hB.2.1]; first | exact Nat.le_of_ble_eq_true rfl | (dsimp only; omega)) (by rw [hB.2.1]; first | exact Nat.le_of_ble_eq_true rfl | (dsimp only; omega)) (by rw [hB.2.1]; first | exact Nat.le_of_ble_eq_true rfl | (dsimp only; omega)) dX8_comes_42 (fun v h_42 n_42 p_42 => ?_)
          obtain ⟨rfl, rfl, f9, k9, q9⟩ := p_42
          try dsimp only [Option.toList, List.cons_append, List.nil_append]
          refine o_vret hC hB dX8_comes_45 (Nat.le_of_ble_eq_true rfl) (Nat.le_of_ble_eq_true rfl) ?_
          exact ⟨rfl, rfl, _, _, q9⟩
    · refine o_vret hC hB dX8_comes_16 (Nat.le_of_ble_eq_true rfl) (Nat.le_of_ble_eq_true rfl) ?_
      exact ⟨rfl, rfl, _, _, hq⟩
