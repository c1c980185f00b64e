/-! RowLineage.canBreak, Ways.leastDropsToHold -/
theorem tm_first_in (f g : Nat → Int64) (x : Int64) : ∀ (m j : Nat), tm_first f g x m j = -1 ∨ ∃ i, i < j + m ∧ tm_first f g x m j = nI i
  | 0, j => Or.inl rfl
  | m + 1, j => by
    unfold tm_first
    split
    · exact Or.inr ⟨j, by omega, rfl⟩
    · rcases tm_first_in f g x m (j + 1) with q | ⟨i, q1, q2⟩
      · exact Or.inl q
      · exact Or.inr ⟨i, by omega, q2⟩

set_option maxHeartbeats 4000000 in
set_option maxRecDepth 100000 in
theorem ct_X7_canBreak (l : Launch) (D : va_G) (ids : Nat → ClassId) (H0 : Heap) (h : rl_H) (n : Nat) (w k : Nat) (f g : Nat → Int64) (hw : ws_at ids h w f g k) : ∀ (j : Nat) (x : Int64), j ≤ 12 → rl_Met l (rl_e D ids H0) rl_BW rl_Ns yX7_canBreak cX7_canBreak 8 (some .boolean) ({ frames := 1 + j, cells := 0, slots := 0, locals := 23 + 27 * j }) [.ref w, .long x, .int (nI j)] h n (fun v h' n' => ∃ x : Int32, v = some (.int x) ∧ h' = h ∧ n' = n ∧ (x = nI 0 ∨ x = nI 1)) := by
  obtain ⟨w1, w2, w3, w4⟩ := id hw
  intro j
  induction j with
  | zero =>
    intro x hj
    refine rl_Met.of (by decide +kernel) (Nat.le_of_ble_eq_true rfl) ?_
    intro X hC hB
    show rl_G X (rl_e D ids H0) 0 [some (.ref w), some (.long x), none, some (.int (nI 0)), none, none, none, none] [] h n 0 0
    refine o_aload_n hC dX7_canBreak_0 (by rfl) ?_
    refine o_lload_n hC dX7_canBreak_1 (by rfl) ?_
    refine o_callV1 hC rl_BW_good rl_Ns_nw (by exact hB.2.2.2.2.2) YX6_firstThatHolds IX6_firstThatHolds VX6_firstThatHolds (mX7_191 hC) (by rw [hB.1]; exact ct_X6_firstThatHolds l D ids H0 _ _ w k f g x hw) (by exact hw.1) rfl rfl (Nat.le_of_ble_eq_true rfl) (by rw [hB.2.1]; first | exact Nat.le_of_ble_eq_true rfl | (dsimp only; omega)) (by rw [hB.2.1]; first | exact Nat.le_of_ble_eq_true rfl | (dsimp only; omega)) (by rw [hB.2.1]; first | exact Nat.le_of_ble_eq_true rfl | (dsimp only; omega)) (by rw [hB.2.1]; first | exact Nat.le_of_ble_eq_true rfl | (dsimp only; omega)) dX7_canBreak_2 (fun v h_2 n_2 p_2 => ?_)
    obtain ⟨rfl, rfl, rfl⟩ := p_2
    have hti := tm_first_in f g x k 0
    generalize tm_first f g x k 0 = ti at hti ⊢
    try dsimp only [Option.toList, List.cons_append, List.nil_append]
    refine o_istore hC dX7_canBreak_5 (Nat.le_of_ble_eq_true rfl) ?_
    refine o_iload hC dX7_canBreak_7 (by rfl) ?_
    refine o_iconst (v := (-1 : Int32)) hC dX7_canBreak_9 (by decide +kernel) ?_
    refine o_icmp_ne (tgt := 15) hC dX7_canBreak_10 (by decide) (fun c_10 => ?_) (fun c_10 => ?_)
    · refine o_iconst (v := nI 0) hC dX7_canBreak_15 (by decide +kernel) ?_
      refine o_istore hC dX7_canBreak_16 (Nat.le_of_ble_eq_true rfl) ?_
      refine o_iload hC dX7_canBreak_18 (by rfl) ?_
      refine o_bipush (v := nI 36) hC dX7_canBreak_20 (by decide +kernel) ?_
      refine o_icmp_ge (tgt := 76) hC dX7_canBreak_22 (by decide) (fun c_22 => ?_) (fun c_22 => ?_)
      · refine o_iconst (v := nI 0) hC dX7_canBreak_76 (by decide +kernel) ?_
        refine o_zret hC hB dX7_canBreak_77 (by first | rfl | decide +kernel) (Nat.le_of_ble_eq_true rfl) (Nat.le_of_ble_eq_true rfl) ?_
        exact ⟨_, rfl, rfl, rfl, by first | exact Or.inl rfl | exact Or.inr rfl⟩
      · refine o_iload_n hC dX7_canBreak_25 (by rfl) ?_
        refine o_if_le (tgt := 76) hC dX7_canBreak_26 (by decide) (fun c_26 => ?_) (fun c_26 => ?_)
        · refine o_iconst (v := nI 0) hC dX7_canBreak_76 (by decide +kernel) ?_
          refine o_zret hC hB dX7_canBreak_77 (by first | rfl | decide +kernel) (Nat.le_of_ble_eq_true rfl) (Nat.le_of_ble_eq_true rfl) ?_
          exact ⟨_, rfl, rfl, rfl, by first | exact Or.inl rfl | exact Or.inr rfl⟩
        · exact absurd (by decide +kernel) c_26
    · refine o_iconst (v := nI 1) hC dX7_canBreak_13 (by decide +kernel) ?_
      refine o_zret hC hB dX7_canBreak_14 (by first | rfl | decide +kernel) (Nat.le_of_ble_eq_true rfl) (Nat.le_of_ble_eq_true rfl) ?_
      exact ⟨_, rfl, rfl, rfl, by first | exact Or.inl rfl | exact Or.inr rfl⟩
  | succ j ih =>
    intro x hj
    refine rl_Met.of (by decide +kernel) (Nat.le_of_ble_eq_true rfl) ?_
    intro X hC hB
    show rl_G X (rl_e D ids H0) 0 [some (.ref w), some (.long x), none, some (.int (nI (j + 1))), none, none, none, none] [] h n 0 0
    refine o_aload_n hC dX7_canBreak_0 (by rfl) ?_
    refine o_lload_n hC dX7_canBreak_1 (by rfl) ?_
    refine o_callV1 hC rl_BW_good rl_Ns_nw (by exact hB.2.2.2.2.2) YX6_firstThatHolds IX6_firstThatHolds VX6_firstThatHolds (mX7_191 hC) (by rw [hB.1]; exact ct_X6_firstThatHolds l D ids H0 _ _ w k f g x hw) (by exact hw.1) rfl rfl (Nat.le_of_ble_eq_true rfl) (by rw [hB.2.1]; first | exact Nat.le_of_ble_eq_true rfl | (dsimp only; omega)) (by rw [hB.2.1]; first | exact Nat.le_of_ble_eq_true rfl | (dsimp only; omega)) (by rw [hB.2.1]; first | exact Nat.le_of_ble_eq_true rfl | (dsimp only; omega)) (by rw [hB.2.1]; first | exact Nat.le_of_ble_eq_true rfl | (dsimp only; omega)) dX7_canBreak_2 (fun v h_2 n_2 p_2 => ?_)
    obtain ⟨rfl, rfl, rfl⟩ := p_2
    have hti := tm_first_in f g x k 0
    generalize tm_first f g x k 0 = ti at hti ⊢
    try dsimp only [Option.toList, List.cons_append, List.nil_append]
    refine o_istore hC dX7_canBreak_5 (Nat.le_of_ble_eq_true rfl) ?_
    refine o_iload hC dX7_canBreak_7 (by rfl) ?_
    refine o_iconst (v := (-1 : Int32)) hC dX7_canBreak_9 (by decide +kernel) ?_
    refine o_icmp_ne (tgt := 15) hC dX7_canBreak_10 (by decide) (fun c_10 => ?_) (fun c_10 => ?_)
    · obtain ⟨i, hi, rfl⟩ := hti.resolve_left c_10
      have loop : ∀ (m r : Nat) (o6 : Option Value), r + m = 36 → rl_G X (rl_e D ids H0) 18 [some (.ref w), some (.long x), none, some (.int (nI (j + 1))), some (.int (nI i)), some (.int (nI r)), o6, none] [] h_2 n_2 (0 + 0) (0 + 0) := by
        intro m
        induction m with
        | zero =>
          intro r o6 hm
          refine o_iload hC dX7_canBreak_18 (by rfl) ?_
          refine o_bipush (v := nI 36) hC dX7_canBreak_20 (by decide +kernel) ?_
          refine o_icmp_ge (tgt := 76) hC dX7_canBreak_22 (by decide) (fun c_22 => ?_) (fun c_22 => ?_)
          · refine o_iconst (v := nI 0) hC dX7_canBreak_76 (by decide +kernel) ?_
            refine o_zret hC hB dX7_canBreak_77 (by first | rfl | decide +kernel) (Nat.le_of_ble_eq_true rfl) (Nat.le_of_ble_eq_true rfl) ?_
            exact ⟨_, rfl, rfl, rfl, by first | exact Or.inl rfl | exact Or.inr rfl⟩
          · exact absurd (nI_le (by omega) (by omega)) c_22
        | succ m ihm =>
          intro r o6 hm
          refine o_iload hC dX7_canBreak_18 (by rfl) ?_
          refine o_bipush (v := nI 36) hC dX7_canBreak_20 (by decide +kernel) ?_
          refine o_icmp_ge (tgt := 76) hC dX7_canBreak_22 (by decide) (fun c_22 => ?_) (fun c_22 => ?_)
          · refine o_iconst (v := nI 0) hC dX7_canBreak_76 (by decide +kernel) ?_
            refine o_zret hC hB dX7_canBreak_77 (by first | rfl | decide +kernel) (Nat.le_of_ble_eq_true rfl) (Nat.le_of_ble_eq_true rfl) ?_
            exact ⟨_, rfl, rfl, rfl, by first | exact Or.inl rfl | exact Or.inr rfl⟩
          · refine o_iload_n hC dX7_canBreak_25 (by rfl) ?_
            refine o_if_le (tgt := 76) hC dX7_canBreak_26 (by decide) (fun c_26 => ?_) (fun c_26 => ?_)
            · refine o_iconst (v := nI 0) hC dX7_canBreak_76 (by decide +kernel) ?_
              refine o_zret hC hB dX7_canBreak_77 (by first | rfl | decide +kernel) (Nat.le_of_ble_eq_true rfl) (Nat.le_of_ble_eq_true rfl) ?_
              exact ⟨_, rfl, rfl, rfl, by first | exact Or.inl rfl | exact Or.inr rfl⟩
            · refine o_lconst (v := 1) hC dX7_canBreak_29 (by decide +kernel) ?_
              refine o_iload hC dX7_canBreak_30 (by rfl) ?_
              refine o_lshl hC dX7_canBreak_32 ?_
              refine o_lstore hC dX7_canBreak_33 (Nat.le_of_ble_eq_true rfl) ?_
              refine o_aload_n hC dX7_canBreak_35 (by rfl) ?_
              refine o_getf hC (fX7_171 hC rfl) dX7_canBreak_36 (by repeat (first | with_reducible assumption | (rw [rl_u_s]; done) | (rw [rl_u_s]; rfl) | rw [rl_u_n (by first | with_reducible assumption | omega)])) (by first | rfl | with_reducible assumption) ?_
              refine o_iload hC dX7_canBreak_39 (by rfl) ?_
              refine o_laldN (t0 := 1) hC rfl dX7_canBreak_41 (by repeat (first | with_reducible assumption | (rw [rl_u_s]; done) | (rw [rl_u_s]; rfl) | rw [rl_u_n (by first | with_reducible assumption | omega)])) (by omega) (by decide) ?_
              refine o_lload hC dX7_canBreak_42 (by rfl) ?_
              refine o_land hC dX7_canBreak_44 ?_
              refine o_lconst (v := 0) hC dX7_canBreak_45 (by decide +kernel) ?_
              refine o_lcmp hC dX7_canBreak_46 ?_
              refine o_if_eq (tgt := 70) hC dX7_canBreak_47 (by decide) (fun c_47 => ?_) (fun c_47 => ?_)
              · refine o_iinc hC dX7_canBreak_70 (by rfl) (rl_inc _) (Nat.le_of_ble_eq_true rfl) ?_
                refine o_goto (tgt := 18) hC dX7_canBreak_73 (by decide) ?_
                exact ihm (r + 1) _ (by omega)
              · refine o_aload_n hC dX7_canBreak_50 (by rfl) ?_
                refine o_lload_n hC dX7_canBreak_51 (by rfl) ?_
                refine o_lload hC dX7_canBreak_52 (by rfl) ?_
                refine o_ldc2 hC nX7_181 dX7_canBreak_54 ?_
                refine o_lxor hC dX7_canBreak_57 ?_
                refine o_land hC dX7_canBreak_58 ?_
                refine o_iload_n hC dX7_canBreak_59 (by rfl) ?_
                refine o_iconst (v := nI 1) hC dX7_canBreak_60 (by decide +kernel) ?_
                refine o_isub hC dX7_canBreak_61 ?_
                rw [rl_pred j]
                refine o_callS3 hC rl_BW_good rl_Ns_nw (by exact hB.2.2.2.2.2) YX7_canBreak SX7_canBreak (mX7_255 hC) (by rw [hB.1]; exact ih _ (by omega)) (Nat.le_of_ble_eq_true rfl) (by rw [hB.2.1]; first | exact Nat.le_of_ble_eq_true rfl | (dsimp only; omega)) (by rw [hB.2.1]; first | exact Nat.le_of_ble_eq_true rfl | (dsimp only; omega)) (by rw [hB.2.1]; first | exact Nat.le_of_ble_eq_true rfl | (dsimp only; omega)) (by rw [hB.2.1]; first | exact Nat.le_of_ble_eq_true rfl | (dsimp only; omega)) dX7_canBreak_62 (fun v h_62 n_62 p_62 => ?_)
                obtain ⟨x62, rfl, rfl, rfl, -⟩ := p_62
                try dsimp only [Option.toList, List.cons_append, List.nil_append]
                refine o_if_eq (tgt := 70) hC dX7_canBreak_65 (by decide) (fun c_65 => ?_) (fun c_65 => ?_)
                · refine o_iinc hC dX7_canBreak_70 (by rfl) (rl_inc _) (Nat.le_of_ble_eq_true rfl) ?_
                  refine o_goto (tgt := 18) hC dX7_canBreak_73 (by decide) ?_
                  exact ihm (r + 1) _ (by omega)
                · refine o_iconst (v := nI 1) hC dX7_canBreak_68 (by decide +kernel) ?_
                  refine o_zret hC hB dX7_canBreak_69 (by first | rfl | decide +kernel) (Nat.le_of_ble_eq_true rfl) (Nat.le_of_ble_eq_true rfl) ?_
                  exact ⟨_, rfl, rfl, rfl, by first | exact Or.inl rfl | exact Or.inr rfl⟩
      refine o_iconst (v := nI 0) hC dX7_canBreak_15 (by decide +kernel) ?_
      refine o_istore hC dX7_canBreak_16 (Nat.le_of_ble_eq_true rfl) ?_
      exact loop 36 0 _ (by omega)
    · refine o_iconst (v := nI 1) hC dX7_canBreak_13 (by decide +kernel) ?_
      refine o_zret hC hB dX7_canBreak_14 (by first | rfl | decide +kernel) (Nat.le_of_ble_eq_true rfl) (Nat.le_of_ble_eq_true rfl) ?_
      exact ⟨_, rfl, rfl, rfl, by first | exact Or.inl rfl | exact Or.inr rfl⟩

set_option maxHeartbeats 4000000 in
set_option maxRecDepth 100000 in
theorem ct_X6_leastDropsToHold (l : Launch) (D : va_G) (ids : Nat → ClassId) (H0 : Heap) (h : rl_H) (n : Nat) (w k : Nat) (f g : Nat → Int64) (x : Int64) (hw : ws_at ids h w f g k) : rl_Met l (rl_e D ids H0) rl_BW rl_Ns yX6_leastDropsToHold cX6_leastDropsToHold 6 (some .int) ({ frames := 1, cells := 0, slots := 0, locals := 21 }) [.ref w, .long x] h n (fun v h' n' => ∃ x : Int32, v = some (.int x) ∧ h' = h ∧ n' = n) := by
  obtain ⟨w1, w2, w3, w4⟩ := id hw
  refine rl_Met.of (by decide +kernel) (Nat.le_of_ble_eq_true rfl) ?_
  intro X hC hB
  have loop : ∀ (m j : Nat) (c : Int32) (o5 : Option Value), j + m = k → rl_G X (rl_e D ids H0) 5 [some (.ref w), some (.long x), none, some (.int c), some (.int (nI j)), o5] [] h n 0 0 := by
    intro m
    induction m with
    | zero =>
      intro j c o5 hm
      refine o_iload hC dX6_leastDropsToHold_5 (by rfl) ?_
      refine o_aload_n hC dX6_leastDropsToHold_7 (by rfl) ?_
      refine o_getf hC (fX6_18 hC rfl) dX6_leastDropsToHold_8 (by repeat (first | with_reducible assumption | (rw [rl_u_s]; done) | (rw [rl_u_s]; rfl) | rw [rl_u_n (by first | with_reducible assumption | omega)])) (by first | rfl | with_reducible assumption) ?_
      refine o_icmp_ge (tgt := 66) hC dX6_leastDropsToHold_11 (by decide) (fun c_11 => ?_) (fun c_11 => ?_)
      · refine o_iload_n hC dX6_leastDropsToHold_66 (by rfl) ?_
        refine o_iret hC hB dX6_leastDropsToHold_67 (Nat.le_of_ble_eq_true rfl) (Nat.le_of_ble_eq_true rfl) ?_
        exact ⟨_, rfl, rfl, rfl⟩
      · exact absurd (nI_le (by omega) (by omega)) c_11
    | succ m ih =>
      intro j c o5 hm
      refine o_iload hC dX6_leastDropsToHold_5 (by rfl) ?_
      refine o_aload_n hC dX6_leastDropsToHold_7 (by rfl) ?_
      refine o_getf hC (fX6_18 hC rfl) dX6_leastDropsToHold_8 (by repeat (first | with_reducible assumption | (rw [rl_u_s]; done) | (rw [rl_u_s]; rfl) | rw [rl_u_n (by first | with_reducible assumption | omega)])) (by first | rfl | with_reducible assumption) ?_
      refine o_icmp_ge (tgt := 66) hC dX6_leastDropsToHold_11 (by decide) (fun c_11 => ?_) (fun c_11 => ?_)
      · exact absurd c_11 (nI_ge (by omega) (by omega))
      · refine o_aload_n hC dX6_leastDropsToHold_14 (by rfl) ?_
        refine o_getf hC (fX6_15 hC rfl) dX6_leastDropsToHold_15 (by repeat (first | with_reducible assumption | (rw [rl_u_s]; done) | (rw [rl_u_s]; rfl) | rw [rl_u_n (by first | with_reducible assumption | omega)])) (by first | rfl | with_reducible assumption) ?_
        refine o_iload hC dX6_leastDropsToHold_18 (by rfl) ?_
        refine o_laldN (t0 := 1) hC rfl dX6_leastDropsToHold_20 (by repeat (first | with_reducible assumption | (rw [rl_u_s]; done) | (rw [rl_u_s]; rfl) | rw [rl_u_n (by first | with_reducible assumption | omega)])) (by omega) (by decide) ?_
        refine o_lload_n hC dX6_leastDropsToHold_21 (by rfl) ?_
        refine o_land hC dX6_leastDropsToHold_22 ?_
        refine o_callS1 hC rl_BW_good rl_Ns_nw (by exact hB.2.2.2.2.2) YJ13_bitCount_95d88 SJ13_bitCount_95d88 (mX6_32 hC) (by rw [hB.1]; exact ct_J13_bitCount_95d88 l D ids H0 _ _ _) (Nat.le_of_ble_eq_true rfl) (by rw [hB.2.1]; first | exact Nat.le_of_ble_eq_true rfl | (dsimp only; omega)) (by rw [hB.2.1]; first | exact Nat.le_of_ble_eq_true rfl | (dsimp only; omega)) (by rw [hB.2.1]; first | exact Nat.le_of_ble_eq_true rfl | (dsimp only; omega)) (by rw [hB.2.1]; first | exact Nat.le_of_ble_eq_true rfl | (dsimp only; omega)) dX6_leastDropsToHold_23 (fun v h_23 n_23 p_23 => ?_)
        obtain ⟨rfl, rfl, rfl⟩ := p_23
        try dsimp only [Option.toList, List.cons_append, List.nil_append]
        refine o_istore hC dX6_leastDropsToHold_26 (Nat.le_of_ble_eq_true rfl) ?_
        refine o_aload_n hC dX6_leastDropsToHold_28 (by rfl) ?_
        refine o_getf hC (fX6_9 hC rfl) dX6_leastDropsToHold_29 (by repeat (first | with_reducible assumption | (rw [rl_u_s]; done) | (rw [rl_u_s]; rfl) | rw [rl_u_n (by first | with_reducible assumption | omega)])) (by first | rfl | with_reducible assumption) ?_
        refine o_iload hC dX6_leastDropsToHold_32 (by rfl) ?_
        refine o_laldN (t0 := 1) hC rfl dX6_leastDropsToHold_34 (by repeat (first | with_reducible assumption | (rw [rl_u_s]; done) | (rw [rl_u_s]; rfl) | rw [rl_u_n (by first | with_reducible assumption | omega)])) (by omega) (by decide) ?_
        refine o_lload_n hC dX6_leastDropsToHold_35 (by rfl) ?_
        refine o_ldc2 hC nX6_26 dX6_leastDropsToHold_36 ?_
        refine o_lxor hC dX6_leastDropsToHold_39 ?_
        refine o_land hC dX6_leastDropsToHold_40 ?_
        refine o_lconst (v := 0) hC dX6_leastDropsToHold_41 (by decide +kernel) ?_
        refine o_lcmp hC dX6_leastDropsToHold_42 ?_
        refine o_if_ne (tgt := 60) hC dX6_leastDropsToHold_43 (by decide) (fun c_43 => ?_) (fun c_43 => ?_)
        · refine o_iinc hC dX6_leastDropsToHold_60 (by rfl) (rl_inc _) (Nat.le_of_ble_eq_true rfl) ?_
          refine o_goto (tgt := 5) hC dX6_leastDropsToHold_63 (by decide) ?_
          exact ih (j + 1) _ _ (by omega)
        · refine o_iload_n hC dX6_leastDropsToHold_46 (by rfl) ?_
          refine o_iconst (v := (-1 : Int32)) hC dX6_leastDropsToHold_47 (by decide +kernel) ?_
          refine o_icmp_eq (tgt := 57) hC dX6_leastDropsToHold_48 (by decide) (fun c_48 => ?_) (fun c_48 => ?_)
          · refine o_iload hC dX6_leastDropsToHold_57 (by rfl) ?_
            refine o_istore_n hC dX6_leastDropsToHold_59 (Nat.le_of_ble_eq_true rfl) ?_
            refine o_iinc hC dX6_leastDropsToHold_60 (by rfl) (rl_inc _) (Nat.le_of_ble_eq_true rfl) ?_
            refine o_goto (tgt := 5) hC dX6_leastDropsToHold_63 (by decide) ?_
            exact ih (j + 1) _ _ (by omega)
          · refine o_iload hC dX6_leastDropsToHold_51 (by rfl) ?_
            refine o_iload_n hC dX6_leastDropsToHold_53 (by rfl) ?_
            refine o_icmp_ge (tgt := 60) hC dX6_leastDropsToHold_54 (by decide) (fun c_54 => ?_) (fun c_54 => ?_)
            · refine o_iinc hC dX6_leastDropsToHold_60 (by rfl) (rl_inc _) (Nat.le_of_ble_eq_true rfl) ?_
              refine o_goto (tgt := 5) hC dX6_leastDropsToHold_63 (by decide) ?_
              exact ih (j + 1) _ _ (by omega)
            · refine o_iload hC dX6_leastDropsToHold_57 (by rfl) ?_
              refine o_istore_n hC dX6_leastDropsToHold_59 (Nat.le_of_ble_eq_true rfl) ?_
              refine o_iinc hC dX6_leastDropsToHold_60 (by rfl) (rl_inc _) (Nat.le_of_ble_eq_true rfl) ?_
              refine o_goto (tgt := 5) hC dX6_leastDropsToHold_63 (by decide) ?_
              exact ih (j + 1) _ _ (by omega)
  show rl_G X (rl_e D ids H0) 0 [some (.ref w), some (.long x), none, none, none, none] [] h n 0 0
  refine o_iconst (v := (-1 : Int32)) hC dX6_leastDropsToHold_0 (by decide +kernel) ?_
  refine o_istore_n hC dX6_leastDropsToHold_1 (Nat.le_of_ble_eq_true rfl) ?_
  refine o_iconst (v := nI 0) hC dX6_leastDropsToHold_2 (by decide +kernel) ?_
  refine o_istore hC dX6_leastDropsToHold_3 (Nat.le_of_ble_eq_true rfl) ?_
  exact loop k 0 _ _ (by omega)
