/-! THE MODEL: its public methods that only look -/

set_option maxHeartbeats 4000000 in
set_option maxRecDepth 100000 in
theorem cm_X8_ways (l : Launch) (D : va_G) (ids : Nat → ClassId) (H0 : Heap) (h : rl_H) (n : Nat) (m : Nat) (T : md_T) (fu : Int32) (k : Nat) (S : md_A) (z : sh_S) (q : Int32) (hu : md_un ids h m T fu k S z) : rl_Met l (rl_e D ids H0) rl_BW rl_Ns yX8_ways cX8_ways 2 (some .int) ({ frames := 1, cells := 0, slots := 0, locals := 21 }) [.ref m, .int q] h n (fun v h' n' => ∃ r : Int32, v = some (.int r) ∧ n' = n ∧ mdx ids h' m T z (fun S' => S' = S) (∀ q : Nat, m + 12 ≤ q → q < m + 22 → h' q = h q) ∧ rl_fr h h' m (m + 23)) := by
  obtain ⟨hq, hs, ⟨hsc, hsc4⟩, hwf, ⟨hrr, hr36⟩, ⟨hnc, hn16⟩, hnw, hpr, hnv, hwv, wrc, hrc6, hrc⟩ := id hu
  have hq0 := hq.ob (nI 0, T.2) fu k hq.2.1
  have g0 := hq.1
  obtain ⟨-, gk, ⟨⟨cl, g12⟩, ⟨tu, g13, b13⟩, ⟨im, g14⟩, ⟨te, g15, b15⟩, ⟨ne, g16⟩, ⟨la, g17⟩, ⟨hn, g18⟩, ⟨hl, g19⟩, ⟨tp, g20⟩, ⟨gr, g21, b21⟩, ⟨it, g22⟩⟩, gf⟩ := id hq
  refine rl_Met.of (by decide +kernel) (Nat.le_of_ble_eq_true rfl) ?_
  intro X hC hB
  show rl_G X (rl_e D ids H0) 0 [some (.ref m), some (.int q)] [] h n 0 0
  refine o_aload_n hC dX8_ways_0 (by rfl) ?_
  refine o_iconst (v := nI 0) hC dX8_ways_1 (by decide +kernel) ?_
  refine o_putf hC (fX8_78 hC rfl) (fwX8 rfl rfl rfl (Or.inl rfl)) dX8_ways_2 (by repeat (first | with_reducible assumption | (rw [rl_u_s]; done) | (rw [rl_u_s]; rfl) | rw [rl_u_n (by first | with_reducible assumption | omega)])) (Nat.le_of_ble_eq_true rfl) ?_
  try simp only [List.set_cons_zero, List.set_cons_succ]
  refine o_aload_n hC dX8_ways_5 (by rfl) ?_
  refine o_iload_n hC dX8_ways_6 (by rfl) ?_
  refine o_callV1 hC rl_BW_good rl_Ns_nw (by exact hB.2.2.2.2.2) YX8_isTuple IX8_isTuple VX8_isTuple (mX8_199 hC) (by rw [hB.1]; exact ct_X8_isTuple l D ids H0 _ _ m (m + 13) _ _ tu (by repeat (first | with_reducible assumption | (rw [rl_u_s]; done) | (rw [rl_u_s]; rfl) | rw [rl_u_n (by first | with_reducible assumption | omega)])) rfl (by repeat (first | with_reducible assumption | (rw [rl_u_s]; done) | (rw [rl_u_s]; rfl) | rw [rl_u_n (by first | with_reducible assumption | omega)]))) (by repeat (first | with_reducible assumption | (rw [rl_u_s]; done) | (rw [rl_u_s]; rfl) | rw [rl_u_n (by first | with_reducible assumption | omega)])) rfl rfl (Nat.le_of_ble_eq_true rfl) (by rw [hB.2.1]; first | exact Nat.le_of_ble_eq_true rfl | (dsimp only; omega)) (by rw [hB.2.1]; first | exact Nat.le_of_ble_eq_true rfl | (dsimp only; omega)) (by rw [hB.2.1]; first | exact Nat.le_of_ble_eq_true rfl | (dsimp only; omega)) (by rw [hB.2.1]; first | exact Nat.le_of_ble_eq_true rfl | (dsimp only; omega)) dX8_ways_7 (fun v h_7 n_7 p_7 => ?_)
  obtain ⟨rfl, rfl, rfl⟩ := p_7
  try dsimp only [Option.toList, List.cons_append, List.nil_append]
  obtain ⟨t16, ht16, et16⟩ := b13 16 (by decide)
  by_cases hr : q < 0 ∨ tu 16 ≤ q
  · rw [if_pos hr]
    refine o_if_eq (tgt := 26) hC dX8_ways_10 (by decide) (fun c_10 => ?_) (fun c_10 => ?_)
    · refine o_iconst (v := (-1 : Int32)) hC dX8_ways_26 (by decide +kernel) ?_
      refine o_iret hC hB dX8_ways_27 (Nat.le_of_ble_eq_true rfl) (Nat.le_of_ble_eq_true rfl) ?_
      exact ⟨_, rfl, rfl, ⟨_, _, _, S, hu.dp (hq0) rfl rfl rfl rfl ⟨wrc, hrc6, hrc⟩, rfl, rfl, fun q a b => by first | exact rl_u_n (by omega) | exact (rl_u_n (by omega)).trans (rl_u_n (by omega)) | exact (dst q a b).trans (rl_u_n (by omega))⟩, (hq0).fr⟩
    · exact absurd rfl c_10
  · rw [if_neg hr]
    obtain ⟨t, ht0, rfl⟩ := nI_of_lt (k := t16) (by omega) (fun e => hr (Or.inl e)) (fun e => hr (Or.inr (by rw [et16]; exact e)))
    have ht : t < 80 := by omega
    obtain ⟨g00, gk0, -, gf0⟩ := id hq0
    refine o_if_eq (tgt := 26) hC dX8_ways_10 (by decide) (fun c_10 => ?_) (fun c_10 => ?_)
    · exact absurd c_10 (by decide +kernel)
    · refine o_aload_n hC dX8_ways_13 (by rfl) ?_
      refine o_getf hC (fX8_53 hC rfl) dX8_ways_14 (by repeat (first | with_reducible assumption | (rw [rl_u_s]; done) | (rw [rl_u_s]; rfl) | rw [rl_u_n (by first | with_reducible assumption | omega)])) (by first | rfl | with_reducible assumption) ?_
      refine o_sipush (v := nI 1280) hC dX8_ways_17 (by decide +kernel) ?_
      refine o_iload_n hC dX8_ways_20 (by rfl) ?_
      refine o_iadd hC dX8_ways_21 ?_
      try rw [nI_add]
      refine o_ialdN (t0 := 0) hC rfl dX8_ways_22 (by repeat (first | with_reducible assumption | (rw [rl_u_s]; done) | (rw [rl_u_s]; rfl) | rw [rl_u_n (by first | with_reducible assumption | omega)])) (by omega) (by decide) ?_
      refine o_goto (tgt := 27) hC dX8_ways_23 (by decide) ?_
      refine o_iret hC hB dX8_ways_27 (Nat.le_of_ble_eq_true rfl) (Nat.le_of_ble_eq_true rfl) ?_
      exact ⟨_, rfl, rfl, ⟨_, _, _, S, hu.dp (hq0) rfl rfl rfl rfl ⟨wrc, hrc6, hrc⟩, rfl, rfl, fun q a b => by first | exact rl_u_n (by omega) | exact (rl_u_n (by omega)).trans (rl_u_n (by omega)) | exact (dst q a b).trans (rl_u_n (by omega))⟩, (hq0).fr⟩

set_option maxHeartbeats 4000000 in
set_option maxRecDepth 100000 in
theorem cm_X8_holds (l : Launch) (D : va_G) (ids : Nat → ClassId) (H0 : Heap) (h : rl_H) (n : Nat) (m : Nat) (T : md_T) (fu : Int32) (k : Nat) (S : md_A) (z : sh_S) (q : Int32) (hu : md_un ids h m T fu k S z) : rl_Met l (rl_e D ids H0) rl_BW rl_Ns yX8_holds cX8_holds 2 (some .int) ({ frames := 2, cells := 0, slots := 0, locals := 48 }) [.ref m, .int q] h n (fun v h' n' => ∃ r : Int32, v = some (.int r) ∧ n' = n ∧ mdx ids h' m T z (fun S' => S' = S) (∀ q : Nat, m + 12 ≤ q → q < m + 22 → h' q = h q) ∧ rl_fr h h' m (m + 23)) := by
  obtain ⟨hq, hs, ⟨hsc, hsc4⟩, hwf, ⟨hrr, hr36⟩, ⟨hnc, hn16⟩, hnw, hpr, hnv, hwv, wrc, hrc6, hrc⟩ := id hu
  have hq0 := hq.ob (nI 0, T.2) fu k hq.2.1
  have g0 := hq.1
  obtain ⟨-, gk, ⟨⟨cl, g12⟩, ⟨tu, g13, b13⟩, ⟨im, g14⟩, ⟨te, g15, b15⟩, ⟨ne, g16⟩, ⟨la, g17⟩, ⟨hn, g18⟩, ⟨hl, g19⟩, ⟨tp, g20⟩, ⟨gr, g21, b21⟩, ⟨it, g22⟩⟩, gf⟩ := id hq
  refine rl_Met.of (by decide +kernel) (Nat.le_of_ble_eq_true rfl) ?_
  intro X hC hB
  show rl_G X (rl_e D ids H0) 0 [some (.ref m), some (.int q)] [] h n 0 0
  refine o_aload_n hC dX8_holds_0 (by rfl) ?_
  refine o_iconst (v := nI 0) hC dX8_holds_1 (by decide +kernel) ?_
  refine o_putf hC (fX8_78 hC rfl) (fwX8 rfl rfl rfl (Or.inl rfl)) dX8_holds_2 (by repeat (first | with_reducible assumption | (rw [rl_u_s]; done) | (rw [rl_u_s]; rfl) | rw [rl_u_n (by first | with_reducible assumption | omega)])) (Nat.le_of_ble_eq_true rfl) ?_
  try simp only [List.set_cons_zero, List.set_cons_succ]
  refine o_aload_n hC dX8_holds_5 (by rfl) ?_
  refine o_iload_n hC dX8_holds_6 (by rfl) ?_
  refine o_callV1 hC rl_BW_good rl_Ns_nw (by exact hB.2.2.2.2.2) YX8_isTuple IX8_isTuple VX8_isTuple (mX8_199 hC) (by rw [hB.1]; exact ct_X8_isTuple l D ids H0 _ _ m (m + 13) _ _ tu (by repeat (first | with_reducible assumption | (rw [rl_u_s]; done) | (rw [rl_u_s]; rfl) | rw [rl_u_n (by first | with_reducible assumption | omega)])) rfl (by repeat (first | with_reducible assumption | (rw [rl_u_s]; done) | (rw [rl_u_s]; rfl) | rw [rl_u_n (by first | with_reducible assumption | omega)]))) (by repeat (first | with_reducible assumption | (rw [rl_u_s]; done) | (rw [rl_u_s]; rfl) | rw [rl_u_n (by first | with_reducible assumption | omega)])) rfl rfl (Nat.le_of_ble_eq_true rfl) (by rw [hB.2.1]; first | exact Nat.le_of_ble_eq_true rfl | (dsimp only; omega)) (by rw [hB.2.1]; first | exact Nat.le_of_ble_eq_true rfl | (dsimp only; omega)) (by rw [hB.2.1]; first | exact Nat.le_of_ble_eq_true rfl | (dsimp only; omega)) (by rw [hB.2.1]; first | exact Nat.le_of_ble_eq_true rfl | (dsimp only; omega)) dX8_holds_7 (fun v h_7 n_7 p_7 => ?_)
  obtain ⟨rfl, rfl, rfl⟩ := p_7
  try dsimp only [Option.toList, List.cons_append, List.nil_append]
  obtain ⟨t16, ht16, et16⟩ := b13 16 (by decide)
  by_cases hr : q < 0 ∨ tu 16 ≤ q
  · rw [if_pos hr]
    refine o_if_ne (tgt := 17) hC dX8_holds_10 (by decide) (fun c_10 => ?_) (fun c_10 => ?_)
    · exact absurd rfl c_10
    · refine o_iconst (v := (-1 : Int32)) hC dX8_holds_13 (by decide +kernel) ?_
      refine o_goto (tgt := 34) hC dX8_holds_14 (by decide) ?_
      refine o_iret hC hB dX8_holds_34 (Nat.le_of_ble_eq_true rfl) (Nat.le_of_ble_eq_true rfl) ?_
      exact ⟨_, rfl, rfl, ⟨_, _, _, S, hu.dp (hq0) rfl rfl rfl rfl ⟨wrc, hrc6, hrc⟩, rfl, rfl, fun q a b => by first | exact rl_u_n (by omega) | exact (rl_u_n (by omega)).trans (rl_u_n (by omega)) | exact (dst q a b).trans (rl_u_n (by omega))⟩, (hq0).fr⟩
  · rw [if_neg hr]
    obtain ⟨t, ht0, rfl⟩ := nI_of_lt (k := t16) (by omega) (fun e => hr (Or.inl e)) (fun e => hr (Or.inr (by rw [et16]; exact e)))
    have ht : t < 80 := by omega
    obtain ⟨g00, gk0, -, gf0⟩ := id hq0
    refine o_if_ne (tgt := 17) hC dX8_holds_10 (by decide) (fun c_10 => ?_) (fun c_10 => ?_)
    · refine o_aload_n hC dX8_holds_17 (by rfl) ?_
      refine o_iload_n hC dX8_holds_18 (by rfl) ?_
      refine o_aload_n hC dX8_holds_19 (by rfl) ?_
      refine o_getf hC (fX8_115 hC rfl) dX8_holds_20 (by repeat (first | with_reducible assumption | (rw [rl_u_s]; done) | (rw [rl_u_s]; rfl) | rw [rl_u_n (by first | with_reducible assumption | omega)])) (by first | rfl | with_reducible assumption) ?_
      refine o_callV2 hC rl_BW_good rl_Ns_nw (by exact hB.2.2.2.2.2) YX8_isSo IX8_isSo VX8_isSo (mX8_206 hC) (by rw [hB.1]; exact cm_X8_isSo l D ids H0 _ _ m _ _ _ t _ hq0.rf ht) (by exact hq0.1) rfl rfl (Nat.le_of_ble_eq_true rfl) (by rw [hB.2.1]; first | exact Nat.le_of_ble_eq_true rfl | (dsimp only; omega)) (by rw [hB.2.1]; first | exact Nat.le_of_ble_eq_true rfl | (dsimp only; omega)) (by rw [hB.2.1]; first | exact Nat.le_of_ble_eq_true rfl | (dsimp only; omega)) (by rw [hB.2.1]; first | exact Nat.le_of_ble_eq_true rfl | (dsimp only; omega)) dX8_holds_23 (fun v h_23 n_23 p_23 => ?_)
      obtain ⟨r23, rfl, rfl, rfl⟩ := p_23
      try dsimp only [Option.toList, List.cons_append, List.nil_append]
      refine o_if_eq (tgt := 33) hC dX8_holds_26 (by decide) (fun c_26 => ?_) (fun c_26 => ?_)
      · refine o_iconst (v := nI 0) hC dX8_holds_33 (by decide +kernel) ?_
        refine o_iret hC hB dX8_holds_34 (Nat.le_of_ble_eq_true rfl) (Nat.le_of_ble_eq_true rfl) ?_
        exact ⟨_, rfl, rfl, ⟨_, _, _, S, hu.dp (hq0) rfl rfl rfl rfl ⟨wrc, hrc6, hrc⟩, rfl, rfl, fun q a b => by first | exact rl_u_n (by omega) | exact (rl_u_n (by omega)).trans (rl_u_n (by omega)) | exact (dst q a b).trans (rl_u_n (by omega))⟩, (hq0).fr⟩
      · refine o_iconst (v := nI 1) hC dX8_holds_29 (by decide +kernel) ?_
        refine o_goto (tgt := 34) hC dX8_holds_30 (by decide) ?_
        refine o_iret hC hB dX8_holds_34 (Nat.le_of_ble_eq_true rfl) (Nat.le_of_ble_eq_true rfl) ?_
        exact ⟨_, rfl, rfl, ⟨_, _, _, S, hu.dp (hq0) rfl rfl rfl rfl ⟨wrc, hrc6, hrc⟩, rfl, rfl, fun q a b => by first | exact rl_u_n (by omega) | exact (rl_u_n (by omega)).trans (rl_u_n (by omega)) | exact (dst q a b).trans (rl_u_n (by omega))⟩, (hq0).fr⟩
    · exact absurd c_10 (by decide +kernel)

set_option maxHeartbeats 4000000 in
set_option maxRecDepth 100000 in
theorem cm_X8_made (l : Launch) (D : va_G) (ids : Nat → ClassId) (H0 : Heap) (h : rl_H) (n : Nat) (m : Nat) (T : md_T) (fu : Int32) (k : Nat) (S : md_A) (z : sh_S) (q : Int32) (hu : md_un ids h m T fu k S z) : rl_Met l (rl_e D ids H0) rl_BW rl_Ns yX8_made cX8_made 2 (some .int) ({ frames := 1, cells := 0, slots := 0, locals := 25 }) [.ref m, .int q] h n (fun v h' n' => ∃ r : Int32, v = some (.int r) ∧ n' = n ∧ mdx ids h' m T z (fun S' => S' = S) (∀ q : Nat, m + 12 ≤ q → q < m + 22 → h' q = h q) ∧ rl_fr h h' m (m + 23)) := by
  obtain ⟨hq, hs, ⟨hsc, hsc4⟩, hwf, ⟨hrr, hr36⟩, ⟨hnc, hn16⟩, hnw, hpr, hnv, hwv, wrc, hrc6, hrc⟩ := id hu
  have hq0 := hq.ob (nI 0, T.2) fu k hq.2.1
  have g0 := hq.1
  obtain ⟨-, gk, ⟨⟨cl, g12⟩, ⟨tu, g13, b13⟩, ⟨im, g14⟩, ⟨te, g15, b15⟩, ⟨ne, g16⟩, ⟨la, g17⟩, ⟨hn, g18⟩, ⟨hl, g19⟩, ⟨tp, g20⟩, ⟨gr, g21, b21⟩, ⟨it, g22⟩⟩, gf⟩ := id hq
  refine rl_Met.of (by decide +kernel) (Nat.le_of_ble_eq_true rfl) ?_
  intro X hC hB
  show rl_G X (rl_e D ids H0) 0 [some (.ref m), some (.int q)] [] h n 0 0
  refine o_aload_n hC dX8_made_0 (by rfl) ?_
  refine o_iconst (v := nI 0) hC dX8_made_1 (by decide +kernel) ?_
  refine o_putf hC (fX8_78 hC rfl) (fwX8 rfl rfl rfl (Or.inl rfl)) dX8_made_2 (by repeat (first | with_reducible assumption | (rw [rl_u_s]; done) | (rw [rl_u_s]; rfl) | rw [rl_u_n (by first | with_reducible assumption | omega)])) (Nat.le_of_ble_eq_true rfl) ?_
  try simp only [List.set_cons_zero, List.set_cons_succ]
  refine o_aload_n hC dX8_made_5 (by rfl) ?_
  refine o_iload_n hC dX8_made_6 (by rfl) ?_
  refine o_callV1 hC rl_BW_good rl_Ns_nw (by exact hB.2.2.2.2.2) YX8_isTuple IX8_isTuple VX8_isTuple (mX8_199 hC) (by rw [hB.1]; exact ct_X8_isTuple l D ids H0 _ _ m (m + 13) _ _ tu (by repeat (first | with_reducible assumption | (rw [rl_u_s]; done) | (rw [rl_u_s]; rfl) | rw [rl_u_n (by first | with_reducible assumption | omega)])) rfl (by repeat (first | with_reducible assumption | (rw [rl_u_s]; done) | (rw [rl_u_s]; rfl) | rw [rl_u_n (by first | with_reducible assumption | omega)]))) (by repeat (first | with_reducible assumption | (rw [rl_u_s]; done) | (rw [rl_u_s]; rfl) | rw [rl_u_n (by first | with_reducible assumption | omega)])) rfl rfl (Nat.le_of_ble_eq_true rfl) (by rw [hB.2.1]; first | exact Nat.le_of_ble_eq_true rfl | (dsimp only; omega)) (by rw [hB.2.1]; first | exact Nat.le_of_ble_eq_true rfl | (dsimp only; omega)) (by rw [hB.2.1]; first | exact Nat.le_of_ble_eq_true rfl | (dsimp only; omega)) (by rw [hB.2.1]; first | exact Nat.le_of_ble_eq_true rfl | (dsimp only; omega)) dX8_made_7 (fun v h_7 n_7 p_7 => ?_)
  obtain ⟨rfl, rfl, rfl⟩ := p_7
  try dsimp only [Option.toList, List.cons_append, List.nil_append]
  obtain ⟨t16, ht16, et16⟩ := b13 16 (by decide)
  by_cases hr : q < 0 ∨ tu 16 ≤ q
  · rw [if_pos hr]
    refine o_if_ne (tgt := 17) hC dX8_made_10 (by decide) (fun c_10 => ?_) (fun c_10 => ?_)
    · exact absurd rfl c_10
    · refine o_iconst (v := (-1 : Int32)) hC dX8_made_13 (by decide +kernel) ?_
      refine o_goto (tgt := 26) hC dX8_made_14 (by decide) ?_
      refine o_iret hC hB dX8_made_26 (Nat.le_of_ble_eq_true rfl) (Nat.le_of_ble_eq_true rfl) ?_
      exact ⟨_, rfl, rfl, ⟨_, _, _, S, hu.dp (hq0) rfl rfl rfl rfl ⟨wrc, hrc6, hrc⟩, rfl, rfl, fun q a b => by first | exact rl_u_n (by omega) | exact (rl_u_n (by omega)).trans (rl_u_n (by omega)) | exact (dst q a b).trans (rl_u_n (by omega))⟩, (hq0).fr⟩
  · rw [if_neg hr]
    obtain ⟨t, ht0, rfl⟩ := nI_of_lt (k := t16) (by omega) (fun e => hr (Or.inl e)) (fun e => hr (Or.inr (by rw [et16]; exact e)))
    have ht : t < 80 := by omega
    obtain ⟨g00, gk0, -, gf0⟩ := id hq0
    refine o_if_ne (tgt := 17) hC dX8_made_10 (by decide) (fun c_10 => ?_) (fun c_10 => ?_)
    · refine o_aload_n hC dX8_made_17 (by rfl) ?_
      refine o_iload_n hC dX8_made_18 (by rfl) ?_
      refine o_aload_n hC dX8_made_19 (by rfl) ?_
      refine o_getf hC (fX8_115 hC rfl) dX8_made_20 (by repeat (first | with_reducible assumption | (rw [rl_u_s]; done) | (rw [rl_u_s]; rfl) | rw [rl_u_n (by first | with_reducible assumption | omega)])) (by first | rfl | with_reducible assumption) ?_
      refine o_callV2 hC rl_BW_good rl_Ns_nw (by exact hB.2.2.2.2.2) YX8_first IX8_first VX8_first (mX8_202 hC) (by rw [hB.1]; exact cm_X8_first l D ids H0 _ _ m _ _ _ t _ hq0.rf ht) (by exact hq0.1) rfl rfl (Nat.le_of_ble_eq_true rfl) (by rw [hB.2.1]; first | exact Nat.le_of_ble_eq_true rfl | (dsimp only; omega)) (by rw [hB.2.1]; first | exact Nat.le_of_ble_eq_true rfl | (dsimp only; omega)) (by rw [hB.2.1]; first | exact Nat.le_of_ble_eq_true rfl | (dsimp only; omega)) (by rw [hB.2.1]; first | exact Nat.le_of_ble_eq_true rfl | (dsimp only; omega)) dX8_made_23 (fun v h_23 n_23 p_23 => ?_)
      obtain ⟨r23, rfl, rfl, rfl⟩ := p_23
      try dsimp only [Option.toList, List.cons_append, List.nil_append]
      refine o_iret hC hB dX8_made_26 (Nat.le_of_ble_eq_true rfl) (Nat.le_of_ble_eq_true rfl) ?_
      exact ⟨_, rfl, rfl, ⟨_, _, _, S, hu.dp (hq0) rfl rfl rfl rfl ⟨wrc, hrc6, hrc⟩, rfl, rfl, fun q a b => by first | exact rl_u_n (by omega) | exact (rl_u_n (by omega)).trans (rl_u_n (by omega)) | exact (dst q a b).trans (rl_u_n (by omega))⟩, (hq0).fr⟩
    · exact absurd c_10 (by decide +kernel)

set_option maxHeartbeats 4000000 in
set_option maxRecDepth 100000 in
theorem cm_X8_under (l : Launch) (D : va_G) (ids : Nat → ClassId) (H0 : Heap) (h : rl_H) (n : Nat) (m : Nat) (T : md_T) (fu : Int32) (k : Nat) (S : md_A) (z : sh_S) (q : Int32) (st : Int64) (hu : md_un ids h m T fu k S z) : rl_Met l (rl_e D ids H0) rl_BW rl_Ns yX8_under cX8_under 4 (some .int) ({ frames := 2, cells := 0, slots := 0, locals := 48 }) [.ref m, .int q, .long st] h n (fun v h' n' => ∃ r : Int32, v = some (.int r) ∧ n' = n ∧ mdx ids h' m T z (fun S' => S' = S) (∀ q : Nat, m + 12 ≤ q → q < m + 22 → h' q = h q) ∧ rl_fr h h' m (m + 23)) := by
  obtain ⟨hq, hs, ⟨hsc, hsc4⟩, hwf, ⟨hrr, hr36⟩, ⟨hnc, hn16⟩, hnw, hpr, hnv, hwv, wrc, hrc6, hrc⟩ := id hu
  have hq0 := hq.ob (nI 0, T.2) fu k hq.2.1
  have g0 := hq.1
  obtain ⟨-, gk, ⟨⟨cl, g12⟩, ⟨tu, g13, b13⟩, ⟨im, g14⟩, ⟨te, g15, b15⟩, ⟨ne, g16⟩, ⟨la, g17⟩, ⟨hn, g18⟩, ⟨hl, g19⟩, ⟨tp, g20⟩, ⟨gr, g21, b21⟩, ⟨it, g22⟩⟩, gf⟩ := id hq
  refine rl_Met.of (by decide +kernel) (Nat.le_of_ble_eq_true rfl) ?_
  intro X hC hB
  show rl_G X (rl_e D ids H0) 0 [some (.ref m), some (.int q), some (.long st), none] [] h n 0 0
  refine o_aload_n hC dX8_under_0 (by rfl) ?_
  refine o_iconst (v := nI 0) hC dX8_under_1 (by decide +kernel) ?_
  refine o_putf hC (fX8_78 hC rfl) (fwX8 rfl rfl rfl (Or.inl rfl)) dX8_under_2 (by repeat (first | with_reducible assumption | (rw [rl_u_s]; done) | (rw [rl_u_s]; rfl) | rw [rl_u_n (by first | with_reducible assumption | omega)])) (Nat.le_of_ble_eq_true rfl) ?_
  try simp only [List.set_cons_zero, List.set_cons_succ]
  refine o_aload_n hC dX8_under_5 (by rfl) ?_
  refine o_iload_n hC dX8_under_6 (by rfl) ?_
  refine o_callV1 hC rl_BW_good rl_Ns_nw (by exact hB.2.2.2.2.2) YX8_isTuple IX8_isTuple VX8_isTuple (mX8_199 hC) (by rw [hB.1]; exact ct_X8_isTuple l D ids H0 _ _ m (m + 13) _ _ tu (by repeat (first | with_reducible assumption | (rw [rl_u_s]; done) | (rw [rl_u_s]; rfl) | rw [rl_u_n (by first | with_reducible assumption | omega)])) rfl (by repeat (first | with_reducible assumption | (rw [rl_u_s]; done) | (rw [rl_u_s]; rfl) | rw [rl_u_n (by first | with_reducible assumption | omega)]))) (by repeat (first | with_reducible assumption | (rw [rl_u_s]; done) | (rw [rl_u_s]; rfl) | rw [rl_u_n (by first | with_reducible assumption | omega)])) rfl rfl (Nat.le_of_ble_eq_true rfl) (by rw [hB.2.1]; first | exact Nat.le_of_ble_eq_true rfl | (dsimp only; omega)) (by rw [hB.2.1]; first | exact Nat.le_of_ble_eq_true rfl | (dsimp only; omega)) (by rw [hB.2.1]; first | exact Nat.le_of_ble_eq_true rfl | (dsimp only; omega)) (by rw [hB.2.1]; first | exact Nat.le_of_ble_eq_true rfl | (dsimp only; omega)) dX8_under_7 (fun v h_7 n_7 p_7 => ?_)
  obtain ⟨rfl, rfl, rfl⟩ := p_7
  try dsimp only [Option.toList, List.cons_append, List.nil_append]
  obtain ⟨t16, ht16, et16⟩ := b13 16 (by decide)
  by_cases hr : q < 0 ∨ tu 16 ≤ q
  · rw [if_pos hr]
    refine o_if_ne (tgt := 15) hC dX8_under_10 (by decide) (fun c_10 => ?_) (fun c_10 => ?_)
    · exact absurd rfl c_10
    · refine o_iconst (v := (-1 : Int32)) hC dX8_under_13 (by decide +kernel) ?_
      refine o_iret hC hB dX8_under_14 (Nat.le_of_ble_eq_true rfl) (Nat.le_of_ble_eq_true rfl) ?_
      exact ⟨_, rfl, rfl, ⟨_, _, _, S, hu.dp (hq0) rfl rfl rfl rfl ⟨wrc, hrc6, hrc⟩, rfl, rfl, fun q a b => by first | exact rl_u_n (by omega) | exact (rl_u_n (by omega)).trans (rl_u_n (by omega)) | exact (dst q a b).trans (rl_u_n (by omega))⟩, (hq0).fr⟩
  · rw [if_neg hr]
    obtain ⟨t, ht0, rfl⟩ := nI_of_lt (k := t16) (by omega) (fun e => hr (Or.inl e)) (fun e => hr (Or.inr (by rw [et16]; exact e)))
    have ht : t < 80 := by omega
    obtain ⟨g00, gk0, -, gf0⟩ := id hq0
    refine o_if_ne (tgt := 15) hC dX8_under_10 (by decide) (fun c_10 => ?_) (fun c_10 => ?_)
    · refine o_lload_n hC dX8_under_15 (by rfl) ?_
      refine o_lconst (v := 0) hC dX8_under_16 (by decide +kernel) ?_
      refine o_lcmp hC dX8_under_17 ?_
      refine o_if_lt (tgt := 32) hC dX8_under_18 (by decide) (fun c_18 => ?_) (fun c_18 => ?_)
      · refine o_bipush (v := (-2 : Int32)) hC dX8_under_32 (by decide +kernel) ?_
        refine o_iret hC hB dX8_under_34 (Nat.le_of_ble_eq_true rfl) (Nat.le_of_ble_eq_true rfl) ?_
        exact ⟨_, rfl, rfl, ⟨_, _, _, S, hu.dp (hq0) rfl rfl rfl rfl ⟨wrc, hrc6, hrc⟩, rfl, rfl, fun q a b => by first | exact rl_u_n (by omega) | exact (rl_u_n (by omega)).trans (rl_u_n (by omega)) | exact (dst q a b).trans (rl_u_n (by omega))⟩, (hq0).fr⟩
      · refine o_lload_n hC dX8_under_21 (by rfl) ?_
        refine o_aload_n hC dX8_under_22 (by rfl) ?_
        refine o_getf hC (fX8_112 hC rfl) dX8_under_23 (by repeat (first | with_reducible assumption | (rw [rl_u_s]; done) | (rw [rl_u_s]; rfl) | rw [rl_u_n (by first | with_reducible assumption | omega)])) (by first | rfl | with_reducible assumption) ?_
        refine o_lshr hC dX8_under_26 ?_
        refine o_lconst (v := 0) hC dX8_under_27 (by decide +kernel) ?_
        refine o_lcmp hC dX8_under_28 ?_
        refine o_if_eq (tgt := 35) hC dX8_under_29 (by decide) (fun c_29 => ?_) (fun c_29 => ?_)
        · refine o_aload_n hC dX8_under_35 (by rfl) ?_
          refine o_iload_n hC dX8_under_36 (by rfl) ?_
          refine o_lload_n hC dX8_under_37 (by rfl) ?_
          refine o_callV2 hC rl_BW_good rl_Ns_nw (by exact hB.2.2.2.2.2) YX8_isSo IX8_isSo VX8_isSo (mX8_206 hC) (by rw [hB.1]; exact cm_X8_isSo l D ids H0 _ _ m _ _ _ t _ hq0.rf ht) (by exact hq0.1) rfl rfl (Nat.le_of_ble_eq_true rfl) (by rw [hB.2.1]; first | exact Nat.le_of_ble_eq_true rfl | (dsimp only; omega)) (by rw [hB.2.1]; first | exact Nat.le_of_ble_eq_true rfl | (dsimp only; omega)) (by rw [hB.2.1]; first | exact Nat.le_of_ble_eq_true rfl | (dsimp only; omega)) (by rw [hB.2.1]; first | exact Nat.le_of_ble_eq_true rfl | (dsimp only; omega)) dX8_under_38 (fun v h_38 n_38 p_38 => ?_)
          obtain ⟨r38, rfl, rfl, rfl⟩ := p_38
          try dsimp only [Option.toList, List.cons_append, List.nil_append]
          refine o_if_eq (tgt := 48) hC dX8_under_41 (by decide) (fun c_41 => ?_) (fun c_41 => ?_)
          · refine o_iconst (v := nI 0) hC dX8_under_48 (by decide +kernel) ?_
            refine o_iret hC hB dX8_under_49 (Nat.le_of_ble_eq_true rfl) (Nat.le_of_ble_eq_true rfl) ?_
            exact ⟨_, rfl, rfl, ⟨_, _, _, S, hu.dp (hq0) rfl rfl rfl rfl ⟨wrc, hrc6, hrc⟩, rfl, rfl, fun q a b => by first | exact rl_u_n (by omega) | exact (rl_u_n (by omega)).trans (rl_u_n (by omega)) | exact (dst q a b).trans (rl_u_n (by omega))⟩, (hq0).fr⟩
          · refine o_iconst (v := nI 1) hC dX8_under_44 (by decide +kernel) ?_
            refine o_goto (tgt := 49) hC dX8_under_45 (by decide) ?_
            refine o_iret hC hB dX8_under_49 (Nat.le_of_ble_eq_true rfl) (Nat.le_of_ble_eq_true rfl) ?_
            exact ⟨_, rfl, rfl, ⟨_, _, _, S, hu.dp (hq0) rfl rfl rfl rfl ⟨wrc, hrc6, hrc⟩, rfl, rfl, fun q a b => by first | exact rl_u_n (by omega) | exact (rl_u_n (by omega)).trans (rl_u_n (by omega)) | exact (dst q a b).trans (rl_u_n (by omega))⟩, (hq0).fr⟩
        · refine o_bipush (v := (-2 : Int32)) hC dX8_under_32 (by decide +kernel) ?_
          refine o_iret hC hB dX8_under_34 (Nat.le_of_ble_eq_true rfl) (Nat.le_of_ble_eq_true rfl) ?_
          exact ⟨_, rfl, rfl, ⟨_, _, _, S, hu.dp (hq0) rfl rfl rfl rfl ⟨wrc, hrc6, hrc⟩, rfl, rfl, fun q a b => by first | exact rl_u_n (by omega) | exact (rl_u_n (by omega)).trans (rl_u_n (by omega)) | exact (dst q a b).trans (rl_u_n (by omega))⟩, (hq0).fr⟩
    · exact absurd c_10 (by decide +kernel)

set_option maxHeartbeats 4000000 in
set_option maxRecDepth 100000 in
theorem cm_X8_cell (l : Launch) (D : va_G) (ids : Nat → ClassId) (H0 : Heap) (h : rl_H) (n : Nat) (m : Nat) (T : md_T) (fu : Int32) (k : Nat) (S : md_A) (z : sh_S) (q c : Int32) (hu : md_un ids h m T fu k S z) : rl_Met l (rl_e D ids H0) rl_BW rl_Ns yX8_cell cX8_cell 3 (some .int) ({ frames := 1, cells := 0, slots := 0, locals := 23 }) [.ref m, .int q, .int c] h n (fun v h' n' => ∃ r : Int32, v = some (.int r) ∧ n' = n ∧ mdx ids h' m T z (fun S' => S' = S) (∀ q : Nat, m + 12 ≤ q → q < m + 22 → h' q = h q) ∧ rl_fr h h' m (m + 23)) := by
  obtain ⟨hq, hs, ⟨hsc, hsc4⟩, hwf, ⟨hrr, hr36⟩, ⟨hnc, hn16⟩, hnw, hpr, hnv, hwv, wrc, hrc6, hrc⟩ := id hu
  have hq0 := hq.ob (nI 0, T.2) fu k hq.2.1
  have g0 := hq.1
  obtain ⟨-, gk, ⟨⟨cl, g12⟩, ⟨tu, g13, b13⟩, ⟨im, g14⟩, ⟨te, g15, b15⟩, ⟨ne, g16⟩, ⟨la, g17⟩, ⟨hn, g18⟩, ⟨hl, g19⟩, ⟨tp, g20⟩, ⟨gr, g21, b21⟩, ⟨it, g22⟩⟩, gf⟩ := id hq
  refine rl_Met.of (by decide +kernel) (Nat.le_of_ble_eq_true rfl) ?_
  intro X hC hB
  show rl_G X (rl_e D ids H0) 0 [some (.ref m), some (.int q), some (.int c)] [] h n 0 0
  refine o_aload_n hC dX8_cell_0 (by rfl) ?_
  refine o_iconst (v := nI 0) hC dX8_cell_1 (by decide +kernel) ?_
  refine o_putf hC (fX8_78 hC rfl) (fwX8 rfl rfl rfl (Or.inl rfl)) dX8_cell_2 (by repeat (first | with_reducible assumption | (rw [rl_u_s]; done) | (rw [rl_u_s]; rfl) | rw [rl_u_n (by first | with_reducible assumption | omega)])) (Nat.le_of_ble_eq_true rfl) ?_
  try simp only [List.set_cons_zero, List.set_cons_succ]
  refine o_aload_n hC dX8_cell_5 (by rfl) ?_
  refine o_iload_n hC dX8_cell_6 (by rfl) ?_
  refine o_callV1 hC rl_BW_good rl_Ns_nw (by exact hB.2.2.2.2.2) YX8_isTuple IX8_isTuple VX8_isTuple (mX8_199 hC) (by rw [hB.1]; exact ct_X8_isTuple l D ids H0 _ _ m (m + 13) _ _ tu (by repeat (first | with_reducible assumption | (rw [rl_u_s]; done) | (rw [rl_u_s]; rfl) | rw [rl_u_n (by first | with_reducible assumption | omega)])) rfl (by repeat (first | with_reducible assumption | (rw [rl_u_s]; done) | (rw [rl_u_s]; rfl) | rw [rl_u_n (by first | with_reducible assumption | omega)]))) (by repeat (first | with_reducible assumption | (rw [rl_u_s]; done) | (rw [rl_u_s]; rfl) | rw [rl_u_n (by first | with_reducible assumption | omega)])) rfl rfl (Nat.le_of_ble_eq_true rfl) (by rw [hB.2.1]; first | exact Nat.le_of_ble_eq_true rfl | (dsimp only; omega)) (by rw [hB.2.1]; first | exact Nat.le_of_ble_eq_true rfl | (dsimp only; omega)) (by rw [hB.2.1]; first | exact Nat.le_of_ble_eq_true rfl | (dsimp only; omega)) (by rw [hB.2.1]; first | exact Nat.le_of_ble_eq_true rfl | (dsimp only; omega)) dX8_cell_7 (fun v h_7 n_7 p_7 => ?_)
  obtain ⟨rfl, rfl, rfl⟩ := p_7
  try dsimp only [Option.toList, List.cons_append, List.nil_append]
  obtain ⟨t16, ht16, et16⟩ := b13 16 (by decide)
  by_cases hr : q < 0 ∨ tu 16 ≤ q
  · rw [if_pos hr]
    refine o_if_eq (tgt := 25) hC dX8_cell_10 (by decide) (fun c_10 => ?_) (fun c_10 => ?_)
    · refine o_aload_n hC dX8_cell_25 (by rfl) ?_
      refine o_iconst (v := nI 1) hC dX8_cell_26 (by decide +kernel) ?_
      refine o_putf hC (fX8_78 hC rfl) (fwX8 rfl rfl rfl (Or.inl rfl)) dX8_cell_27 (by repeat (first | with_reducible assumption | (rw [rl_u_s]; done) | (rw [rl_u_s]; rfl) | rw [rl_u_n (by first | with_reducible assumption | omega)])) (Nat.le_of_ble_eq_true rfl) ?_
      try simp only [List.set_cons_zero, List.set_cons_succ]
      refine o_iconst (v := nI 0) hC dX8_cell_30 (by decide +kernel) ?_
      refine o_iret hC hB dX8_cell_31 (Nat.le_of_ble_eq_true rfl) (Nat.le_of_ble_eq_true rfl) ?_
      first
      | exact ⟨_, rfl, rfl, ⟨_, _, _, S, hu.dp (hq0) rfl rfl rfl rfl ⟨wrc, hrc6, hrc⟩, rfl, rfl, fun q a b => by first | exact rl_u_n (by omega) | exact (rl_u_n (by omega)).trans (rl_u_n (by omega)) | exact (dst q a b).trans (rl_u_n (by omega))⟩, (hq0).fr⟩
      | exact ⟨_, rfl, rfl, ⟨_, _, _, S, hu.dp (hq0.ob (nI 1, T.2) fu k hq.2.1) rfl rfl rfl rfl ⟨wrc, hrc6, hrc⟩, rfl, rfl, fun q a b => by first | exact rl_u_n (by omega) | exact (rl_u_n (by omega)).trans (rl_u_n (by omega)) | exact (dst q a b).trans (rl_u_n (by omega))⟩, (hq0.ob (nI 1, T.2) fu k hq.2.1).fr⟩
    · exact absurd rfl c_10
  · rw [if_neg hr]
    obtain ⟨t, ht0, rfl⟩ := nI_of_lt (k := t16) (by omega) (fun e => hr (Or.inl e)) (fun e => hr (Or.inr (by rw [et16]; exact e)))
    have ht : t < 80 := by omega
    obtain ⟨g00, gk0, -, gf0⟩ := id hq0
    refine o_if_eq (tgt := 25) hC dX8_cell_10 (by decide) (fun c_10 => ?_) (fun c_10 => ?_)
    · refine o_aload_n hC dX8_cell_25 (by rfl) ?_
      refine o_iconst (v := nI 1) hC dX8_cell_26 (by decide +kernel) ?_
      refine o_putf hC (fX8_78 hC rfl) (fwX8 rfl rfl rfl (Or.inl rfl)) dX8_cell_27 (by repeat (first | with_reducible assumption | (rw [rl_u_s]; done) | (rw [rl_u_s]; rfl) | rw [rl_u_n (by first | with_reducible assumption | omega)])) (Nat.le_of_ble_eq_true rfl) ?_
      try simp only [List.set_cons_zero, List.set_cons_succ]
      refine o_iconst (v := nI 0) hC dX8_cell_30 (by decide +kernel) ?_
      refine o_iret hC hB dX8_cell_31 (Nat.le_of_ble_eq_true rfl) (Nat.le_of_ble_eq_true rfl) ?_
      first
      | exact ⟨_, rfl, rfl, ⟨_, _, _, S, hu.dp (hq0) rfl rfl rfl rfl ⟨wrc, hrc6, hrc⟩, rfl, rfl, fun q a b => by first | exact rl_u_n (by omega) | exact (rl_u_n (by omega)).trans (rl_u_n (by omega)) | exact (dst q a b).trans (rl_u_n (by omega))⟩, (hq0).fr⟩
      | exact ⟨_, rfl, rfl, ⟨_, _, _, S, hu.dp (hq0.ob (nI 1, T.2) fu k hq.2.1) rfl rfl rfl rfl ⟨wrc, hrc6, hrc⟩, rfl, rfl, fun q a b => by first | exact rl_u_n (by omega) | exact (rl_u_n (by omega)).trans (rl_u_n (by omega)) | exact (dst q a b).trans (rl_u_n (by omega))⟩, (hq0.ob (nI 1, T.2) fu k hq.2.1).fr⟩
    · refine o_iload_n hC dX8_cell_13 (by rfl) ?_
      refine o_if_lt (tgt := 25) hC dX8_cell_14 (by decide) (fun c_14 => ?_) (fun c_14 => ?_)
      · refine o_aload_n hC dX8_cell_25 (by rfl) ?_
        refine o_iconst (v := nI 1) hC dX8_cell_26 (by decide +kernel) ?_
        refine o_putf hC (fX8_78 hC rfl) (fwX8 rfl rfl rfl (Or.inl rfl)) dX8_cell_27 (by repeat (first | with_reducible assumption | (rw [rl_u_s]; done) | (rw [rl_u_s]; rfl) | rw [rl_u_n (by first | with_reducible assumption | omega)])) (Nat.le_of_ble_eq_true rfl) ?_
        try simp only [List.set_cons_zero, List.set_cons_succ]
        refine o_iconst (v := nI 0) hC dX8_cell_30 (by decide +kernel) ?_
        refine o_iret hC hB dX8_cell_31 (Nat.le_of_ble_eq_true rfl) (Nat.le_of_ble_eq_true rfl) ?_
        first
        | exact ⟨_, rfl, rfl, ⟨_, _, _, S, hu.dp (hq0) rfl rfl rfl rfl ⟨wrc, hrc6, hrc⟩, rfl, rfl, fun q a b => by first | exact rl_u_n (by omega) | exact (rl_u_n (by omega)).trans (rl_u_n (by omega)) | exact (dst q a b).trans (rl_u_n (by omega))⟩, (hq0).fr⟩
        | exact ⟨_, rfl, rfl, ⟨_, _, _, S, hu.dp (hq0.ob (nI 1, T.2) fu k hq.2.1) rfl rfl rfl rfl ⟨wrc, hrc6, hrc⟩, rfl, rfl, fun q a b => by first | exact rl_u_n (by omega) | exact (rl_u_n (by omega)).trans (rl_u_n (by omega)) | exact (dst q a b).trans (rl_u_n (by omega))⟩, (hq0.ob (nI 1, T.2) fu k hq.2.1).fr⟩
      · refine o_iload_n hC dX8_cell_17 (by rfl) ?_
        refine o_aload_n hC dX8_cell_18 (by rfl) ?_
        refine o_getf hC (fX8_196 hC rfl) dX8_cell_19 (by repeat (first | with_reducible assumption | (rw [rl_u_s]; done) | (rw [rl_u_s]; rfl) | rw [rl_u_n (by first | with_reducible assumption | omega)])) (by first | rfl | with_reducible assumption) ?_
        refine o_icmp_lt (tgt := 32) hC dX8_cell_22 (by decide) (fun c_22 => ?_) (fun c_22 => ?_)
        · obtain ⟨c0, hc0, rfl⟩ := nI_of_lt (k := wrc) (by omega) c_14 (fun e => absurd c_22 (by rw [hrc]; exact Int32.not_lt.mpr e))
          refine o_aload_n hC dX8_cell_32 (by rfl) ?_
          refine o_bipush (v := nI 16) hC dX8_cell_33 (by decide +kernel) ?_
          refine o_iload_n hC dX8_cell_35 (by rfl) ?_
          refine o_iload_n hC dX8_cell_36 (by rfl) ?_
          refine o_callV3 hC rl_BW_good rl_Ns_nw (by exact hB.2.2.2.2.2) YX8_cellAt IX8_cellAt VX8_cellAt (mX8_138 hC) (by rw [hB.1]; exact cm_X8_cellAt l D ids H0 _ _ m _ _ _ 16 t c0 hq0.rf (by omega)) (by exact hq0.1) rfl rfl (Nat.le_of_ble_eq_true rfl) (by rw [hB.2.1]; first | exact Nat.le_of_ble_eq_true rfl | (dsimp only; omega)) (by rw [hB.2.1]; first | exact Nat.le_of_ble_eq_true rfl | (dsimp only; omega)) (by rw [hB.2.1]; first | exact Nat.le_of_ble_eq_true rfl | (dsimp only; omega)) (by rw [hB.2.1]; first | exact Nat.le_of_ble_eq_true rfl | (dsimp only; omega)) dX8_cell_37 (fun v h_37 n_37 p_37 => ?_)
          obtain ⟨r37, rfl, rfl, rfl⟩ := p_37
          try dsimp only [Option.toList, List.cons_append, List.nil_append]
          refine o_iret hC hB dX8_cell_40 (Nat.le_of_ble_eq_true rfl) (Nat.le_of_ble_eq_true rfl) ?_
          first
          | exact ⟨_, rfl, rfl, ⟨_, _, _, S, hu.dp (hq0) rfl rfl rfl rfl ⟨wrc, hrc6, hrc⟩, rfl, rfl, fun q a b => by first | exact rl_u_n (by omega) | exact (rl_u_n (by omega)).trans (rl_u_n (by omega)) | exact (dst q a b).trans (rl_u_n (by omega))⟩, (hq0).fr⟩
          | exact ⟨_, rfl, rfl, ⟨_, _, _, S, hu.dp (hq0.ob (nI 1, T.2) fu k hq.2.1) rfl rfl rfl rfl ⟨wrc, hrc6, hrc⟩, rfl, rfl, fun q a b => by first | exact rl_u_n (by omega) | exact (rl_u_n (by omega)).trans (rl_u_n (by omega)) | exact (dst q a b).trans (rl_u_n (by omega))⟩, (hq0.ob (nI 1, T.2) fu k hq.2.1).fr⟩
        · refine o_aload_n hC dX8_cell_25 (by rfl) ?_
          refine o_iconst (v := nI 1) hC dX8_cell_26 (by decide +kernel) ?_
          refine o_putf hC (fX8_78 hC rfl) (fwX8 rfl rfl rfl (Or.inl rfl)) dX8_cell_27 (by repeat (first | with_reducible assumption | (rw [rl_u_s]; done) | (rw [rl_u_s]; rfl) | rw [rl_u_n (by first | with_reducible assumption | omega)])) (Nat.le_of_ble_eq_true rfl) ?_
          try simp only [List.set_cons_zero, List.set_cons_succ]
          refine o_iconst (v := nI 0) hC dX8_cell_30 (by decide +kernel) ?_
          refine o_iret hC hB dX8_cell_31 (Nat.le_of_ble_eq_true rfl) (Nat.le_of_ble_eq_true rfl) ?_
          first
          | exact ⟨_, rfl, rfl, ⟨_, _, _, S, hu.dp (hq0) rfl rfl rfl rfl ⟨wrc, hrc6, hrc⟩, rfl, rfl, fun q a b => by first | exact rl_u_n (by omega) | exact (rl_u_n (by omega)).trans (rl_u_n (by omega)) | exact (dst q a b).trans (rl_u_n (by omega))⟩, (hq0).fr⟩
          | exact ⟨_, rfl, rfl, ⟨_, _, _, S, hu.dp (hq0.ob (nI 1, T.2) fu k hq.2.1) rfl rfl rfl rfl ⟨wrc, hrc6, hrc⟩, rfl, rfl, fun q a b => by first | exact rl_u_n (by omega) | exact (rl_u_n (by omega)).trans (rl_u_n (by omega)) | exact (dst q a b).trans (rl_u_n (by omega))⟩, (hq0.ob (nI 1, T.2) fu k hq.2.1).fr⟩

set_option maxHeartbeats 4000000 in
set_option maxRecDepth 100000 in
theorem cm_X8_way (l : Launch) (D : va_G) (ids : Nat → ClassId) (H0 : Heap) (h : rl_H) (n : Nat) (m : Nat) (T : md_T) (fu : Int32) (k : Nat) (S : md_A) (z : sh_S) (q kk w : Int32) (hu : md_un ids h m T fu k S z) : rl_Met l (rl_e D ids H0) rl_BW rl_Ns yX8_way cX8_way 5 (some .long) ({ frames := 1, cells := 0, slots := 0, locals := 21 }) [.ref m, .int q, .int kk, .int w] h n (fun v h' n' => ∃ r : Int64, v = some (.long r) ∧ n' = n ∧ mdx ids h' m T z (fun S' => S' = S) (∀ q : Nat, m + 12 ≤ q → q < m + 22 → h' q = h q) ∧ rl_fr h h' m (m + 23)) := by
  obtain ⟨hq, hs, ⟨hsc, hsc4⟩, hwf, ⟨hrr, hr36⟩, ⟨hnc, hn16⟩, hnw, hpr, hnv, hwv, wrc, hrc6, hrc⟩ := id hu
  have hq0 := hq.ob (nI 0, T.2) fu k hq.2.1
  have g0 := hq.1
  obtain ⟨-, gk, ⟨⟨cl, g12⟩, ⟨tu, g13, b13⟩, ⟨im, g14⟩, ⟨te, g15, b15⟩, ⟨ne, g16⟩, ⟨la, g17⟩, ⟨hn, g18⟩, ⟨hl, g19⟩, ⟨tp, g20⟩, ⟨gr, g21, b21⟩, ⟨it, g22⟩⟩, gf⟩ := id hq
  refine rl_Met.of (by decide +kernel) (Nat.le_of_ble_eq_true rfl) ?_
  intro X hC hB
  show rl_G X (rl_e D ids H0) 0 [some (.ref m), some (.int q), some (.int kk), some (.int w), none] [] h n 0 0
  refine o_aload_n hC dX8_way_0 (by rfl) ?_
  refine o_iconst (v := nI 0) hC dX8_way_1 (by decide +kernel) ?_
  refine o_putf hC (fX8_78 hC rfl) (fwX8 rfl rfl rfl (Or.inl rfl)) dX8_way_2 (by repeat (first | with_reducible assumption | (rw [rl_u_s]; done) | (rw [rl_u_s]; rfl) | rw [rl_u_n (by first | with_reducible assumption | omega)])) (Nat.le_of_ble_eq_true rfl) ?_
  try simp only [List.set_cons_zero, List.set_cons_succ]
  refine o_aload_n hC dX8_way_5 (by rfl) ?_
  refine o_iload_n hC dX8_way_6 (by rfl) ?_
  refine o_callV1 hC rl_BW_good rl_Ns_nw (by exact hB.2.2.2.2.2) YX8_isTuple IX8_isTuple VX8_isTuple (mX8_199 hC) (by rw [hB.1]; exact ct_X8_isTuple l D ids H0 _ _ m (m + 13) _ _ tu (by repeat (first | with_reducible assumption | (rw [rl_u_s]; done) | (rw [rl_u_s]; rfl) | rw [rl_u_n (by first | with_reducible assumption | omega)])) rfl (by repeat (first | with_reducible assumption | (rw [rl_u_s]; done) | (rw [rl_u_s]; rfl) | rw [rl_u_n (by first | with_reducible assumption | omega)]))) (by repeat (first | with_reducible assumption | (rw [rl_u_s]; done) | (rw [rl_u_s]; rfl) | rw [rl_u_n (by first | with_reducible assumption | omega)])) rfl rfl (Nat.le_of_ble_eq_true rfl) (by rw [hB.2.1]; first | exact Nat.le_of_ble_eq_true rfl | (dsimp only; omega)) (by rw [hB.2.1]; first | exact Nat.le_of_ble_eq_true rfl | (dsimp only; omega)) (by rw [hB.2.1]; first | exact Nat.le_of_ble_eq_true rfl | (dsimp only; omega)) (by rw [hB.2.1]; first | exact Nat.le_of_ble_eq_true rfl | (dsimp only; omega)) dX8_way_7 (fun v h_7 n_7 p_7 => ?_)
  obtain ⟨rfl, rfl, rfl⟩ := p_7
  try dsimp only [Option.toList, List.cons_append, List.nil_append]
  obtain ⟨t16, ht16, et16⟩ := b13 16 (by decide)
  by_cases hr : q < 0 ∨ tu 16 ≤ q
  · rw [if_pos hr]
    refine o_if_eq (tgt := 31) hC dX8_way_10 (by decide) (fun c_10 => ?_) (fun c_10 => ?_)
    · refine o_aload_n hC dX8_way_31 (by rfl) ?_
      refine o_iconst (v := nI 1) hC dX8_way_32 (by decide +kernel) ?_
      refine o_putf hC (fX8_78 hC rfl) (fwX8 rfl rfl rfl (Or.inl rfl)) dX8_way_33 (by repeat (first | with_reducible assumption | (rw [rl_u_s]; done) | (rw [rl_u_s]; rfl) | rw [rl_u_n (by first | with_reducible assumption | omega)])) (Nat.le_of_ble_eq_true rfl) ?_
      try simp only [List.set_cons_zero, List.set_cons_succ]
      refine o_lconst (v := 0) hC dX8_way_36 (by decide +kernel) ?_
      refine o_lret hC hB dX8_way_37 (Nat.le_of_ble_eq_true rfl) (Nat.le_of_ble_eq_true rfl) ?_
      first
      | exact ⟨_, rfl, rfl, ⟨_, _, _, S, hu.dp (hq0) rfl rfl rfl rfl ⟨wrc, hrc6, hrc⟩, rfl, rfl, fun q a b => by first | exact rl_u_n (by omega) | exact (rl_u_n (by omega)).trans (rl_u_n (by omega)) | exact (dst q a b).trans (rl_u_n (by omega))⟩, (hq0).fr⟩
      | exact ⟨_, rfl, rfl, ⟨_, _, _, S, hu.dp (hq0.ob (nI 1, T.2) fu k hq.2.1) rfl rfl rfl rfl ⟨wrc, hrc6, hrc⟩, rfl, rfl, fun q a b => by first | exact rl_u_n (by omega) | exact (rl_u_n (by omega)).trans (rl_u_n (by omega)) | exact (dst q a b).trans (rl_u_n (by omega))⟩, (hq0.ob (nI 1, T.2) fu k hq.2.1).fr⟩
      | exact ⟨_, rfl, rfl, ⟨_, _, _, S, hu.dp (hq0.ob (nI 2, T.2) fu k hq.2.1) rfl rfl rfl rfl ⟨wrc, hrc6, hrc⟩, rfl, rfl, fun q a b => by first | exact rl_u_n (by omega) | exact (rl_u_n (by omega)).trans (rl_u_n (by omega)) | exact (dst q a b).trans (rl_u_n (by omega))⟩, (hq0.ob (nI 2, T.2) fu k hq.2.1).fr⟩
    · exact absurd rfl c_10
  · rw [if_neg hr]
    obtain ⟨t, ht0, rfl⟩ := nI_of_lt (k := t16) (by omega) (fun e => hr (Or.inl e)) (fun e => hr (Or.inr (by rw [et16]; exact e)))
    have ht : t < 80 := by omega
    obtain ⟨g00, gk0, -, gf0⟩ := id hq0
    refine o_if_eq (tgt := 31) hC dX8_way_10 (by decide) (fun c_10 => ?_) (fun c_10 => ?_)
    · refine o_aload_n hC dX8_way_31 (by rfl) ?_
      refine o_iconst (v := nI 1) hC dX8_way_32 (by decide +kernel) ?_
      refine o_putf hC (fX8_78 hC rfl) (fwX8 rfl rfl rfl (Or.inl rfl)) dX8_way_33 (by repeat (first | with_reducible assumption | (rw [rl_u_s]; done) | (rw [rl_u_s]; rfl) | rw [rl_u_n (by first | with_reducible assumption | omega)])) (Nat.le_of_ble_eq_true rfl) ?_
      try simp only [List.set_cons_zero, List.set_cons_succ]
      refine o_lconst (v := 0) hC dX8_way_36 (by decide +kernel) ?_
      refine o_lret hC hB dX8_way_37 (Nat.le_of_ble_eq_true rfl) (Nat.le_of_ble_eq_true rfl) ?_
      first
      | exact ⟨_, rfl, rfl, ⟨_, _, _, S, hu.dp (hq0) rfl rfl rfl rfl ⟨wrc, hrc6, hrc⟩, rfl, rfl, fun q a b => by first | exact rl_u_n (by omega) | exact (rl_u_n (by omega)).trans (rl_u_n (by omega)) | exact (dst q a b).trans (rl_u_n (by omega))⟩, (hq0).fr⟩
      | exact ⟨_, rfl, rfl, ⟨_, _, _, S, hu.dp (hq0.ob (nI 1, T.2) fu k hq.2.1) rfl rfl rfl rfl ⟨wrc, hrc6, hrc⟩, rfl, rfl, fun q a b => by first | exact rl_u_n (by omega) | exact (rl_u_n (by omega)).trans (rl_u_n (by omega)) | exact (dst q a b).trans (rl_u_n (by omega))⟩, (hq0.ob (nI 1, T.2) fu k hq.2.1).fr⟩
      | exact ⟨_, rfl, rfl, ⟨_, _, _, S, hu.dp (hq0.ob (nI 2, T.2) fu k hq.2.1) rfl rfl rfl rfl ⟨wrc, hrc6, hrc⟩, rfl, rfl, fun q a b => by first | exact rl_u_n (by omega) | exact (rl_u_n (by omega)).trans (rl_u_n (by omega)) | exact (dst q a b).trans (rl_u_n (by omega))⟩, (hq0.ob (nI 2, T.2) fu k hq.2.1).fr⟩
    · refine o_iload_n hC dX8_way_13 (by rfl) ?_
      refine o_if_lt (tgt := 31) hC dX8_way_14 (by decide) (fun c_14 => ?_) (fun c_14 => ?_)
      · refine o_aload_n hC dX8_way_31 (by rfl) ?_
        refine o_iconst (v := nI 1) hC dX8_way_32 (by decide +kernel) ?_
        refine o_putf hC (fX8_78 hC rfl) (fwX8 rfl rfl rfl (Or.inl rfl)) dX8_way_33 (by repeat (first | with_reducible assumption | (rw [rl_u_s]; done) | (rw [rl_u_s]; rfl) | rw [rl_u_n (by first | with_reducible assumption | omega)])) (Nat.le_of_ble_eq_true rfl) ?_
        try simp only [List.set_cons_zero, List.set_cons_succ]
        refine o_lconst (v := 0) hC dX8_way_36 (by decide +kernel) ?_
        refine o_lret hC hB dX8_way_37 (Nat.le_of_ble_eq_true rfl) (Nat.le_of_ble_eq_true rfl) ?_
        first
        | exact ⟨_, rfl, rfl, ⟨_, _, _, S, hu.dp (hq0) rfl rfl rfl rfl ⟨wrc, hrc6, hrc⟩, rfl, rfl, fun q a b => by first | exact rl_u_n (by omega) | exact (rl_u_n (by omega)).trans (rl_u_n (by omega)) | exact (dst q a b).trans (rl_u_n (by omega))⟩, (hq0).fr⟩
        | exact ⟨_, rfl, rfl, ⟨_, _, _, S, hu.dp (hq0.ob (nI 1, T.2) fu k hq.2.1) rfl rfl rfl rfl ⟨wrc, hrc6, hrc⟩, rfl, rfl, fun q a b => by first | exact rl_u_n (by omega) | exact (rl_u_n (by omega)).trans (rl_u_n (by omega)) | exact (dst q a b).trans (rl_u_n (by omega))⟩, (hq0.ob (nI 1, T.2) fu k hq.2.1).fr⟩
        | exact ⟨_, rfl, rfl, ⟨_, _, _, S, hu.dp (hq0.ob (nI 2, T.2) fu k hq.2.1) rfl rfl rfl rfl ⟨wrc, hrc6, hrc⟩, rfl, rfl, fun q a b => by first | exact rl_u_n (by omega) | exact (rl_u_n (by omega)).trans (rl_u_n (by omega)) | exact (dst q a b).trans (rl_u_n (by omega))⟩, (hq0.ob (nI 2, T.2) fu k hq.2.1).fr⟩
      · refine o_iload_n hC dX8_way_17 (by rfl) ?_
        refine o_aload_n hC dX8_way_18 (by rfl) ?_
        refine o_getf hC (fX8_53 hC rfl) dX8_way_19 (by repeat (first | with_reducible assumption | (rw [rl_u_s]; done) | (rw [rl_u_s]; rfl) | rw [rl_u_n (by first | with_reducible assumption | omega)])) (by first | rfl | with_reducible assumption) ?_
        refine o_sipush (v := nI 1280) hC dX8_way_22 (by decide +kernel) ?_
        refine o_iload_n hC dX8_way_25 (by rfl) ?_
        refine o_iadd hC dX8_way_26 ?_
        try rw [nI_add]
        refine o_ialdN (t0 := 0) hC rfl dX8_way_27 (by repeat (first | with_reducible assumption | (rw [rl_u_s]; done) | (rw [rl_u_s]; rfl) | rw [rl_u_n (by first | with_reducible assumption | omega)])) (by omega) (by decide) ?_
        refine o_icmp_lt (tgt := 38) hC dX8_way_28 (by decide) (fun c_28 => ?_) (fun c_28 => ?_)
        · refine o_iload_n hC dX8_way_38 (by rfl) ?_
          refine o_if_lt (tgt := 47) hC dX8_way_39 (by decide) (fun c_39 => ?_) (fun c_39 => ?_)
          · refine o_aload_n hC dX8_way_47 (by rfl) ?_
            refine o_iconst (v := nI 2) hC dX8_way_48 (by decide +kernel) ?_
            refine o_putf hC (fX8_78 hC rfl) (fwX8 rfl rfl rfl (Or.inl rfl)) dX8_way_49 (by repeat (first | with_reducible assumption | (rw [rl_u_s]; done) | (rw [rl_u_s]; rfl) | rw [rl_u_n (by first | with_reducible assumption | omega)])) (Nat.le_of_ble_eq_true rfl) ?_
            try simp only [List.set_cons_zero, List.set_cons_succ]
            refine o_lconst (v := 0) hC dX8_way_52 (by decide +kernel) ?_
            refine o_lret hC hB dX8_way_53 (Nat.le_of_ble_eq_true rfl) (Nat.le_of_ble_eq_true rfl) ?_
            first
            | exact ⟨_, rfl, rfl, ⟨_, _, _, S, hu.dp (hq0) rfl rfl rfl rfl ⟨wrc, hrc6, hrc⟩, rfl, rfl, fun q a b => by first | exact rl_u_n (by omega) | exact (rl_u_n (by omega)).trans (rl_u_n (by omega)) | exact (dst q a b).trans (rl_u_n (by omega))⟩, (hq0).fr⟩
            | exact ⟨_, rfl, rfl, ⟨_, _, _, S, hu.dp (hq0.ob (nI 1, T.2) fu k hq.2.1) rfl rfl rfl rfl ⟨wrc, hrc6, hrc⟩, rfl, rfl, fun q a b => by first | exact rl_u_n (by omega) | exact (rl_u_n (by omega)).trans (rl_u_n (by omega)) | exact (dst q a b).trans (rl_u_n (by omega))⟩, (hq0.ob (nI 1, T.2) fu k hq.2.1).fr⟩
            | exact ⟨_, rfl, rfl, ⟨_, _, _, S, hu.dp (hq0.ob (nI 2, T.2) fu k hq.2.1) rfl rfl rfl rfl ⟨wrc, hrc6, hrc⟩, rfl, rfl, fun q a b => by first | exact rl_u_n (by omega) | exact (rl_u_n (by omega)).trans (rl_u_n (by omega)) | exact (dst q a b).trans (rl_u_n (by omega))⟩, (hq0.ob (nI 2, T.2) fu k hq.2.1).fr⟩
          · refine o_iload_n hC dX8_way_42 (by rfl) ?_
            refine o_iconst (v := nI 1) hC dX8_way_43 (by decide +kernel) ?_
            refine o_icmp_le (tgt := 54) hC dX8_way_44 (by decide) (fun c_44 => ?_) (fun c_44 => ?_)
            · obtain ⟨kt, hkt, ekt⟩ := b15 (1280 + t) (by omega)
              obtain ⟨k0, hk0, rfl⟩ := nI_of_lt (k := kt) (by omega) c_14 (fun e => absurd c_28 (by rw [ekt]; exact Int32.not_lt.mpr e))
              refine o_sipush (v := nI 1280) hC dX8_way_54 (by decide +kernel) ?_
              refine o_iload_n hC dX8_way_57 (by rfl) ?_
              refine o_iadd hC dX8_way_58 ?_
              try rw [nI_add]
              refine o_istore hC dX8_way_59 (Nat.le_of_ble_eq_true rfl) ?_
              refine o_iload_n hC dX8_way_61 (by rfl) ?_
              refine o_if_ne (tgt := 80) hC dX8_way_62 (by decide) (fun c_62 => ?_) (fun c_62 => ?_)
              · refine o_aload_n hC dX8_way_80 (by rfl) ?_
                refine o_getf hC (fX8_60 hC rfl) dX8_way_81 (by repeat (first | with_reducible assumption | (rw [rl_u_s]; done) | (rw [rl_u_s]; rfl) | rw [rl_u_n (by first | with_reducible assumption | omega)])) (by first | rfl | with_reducible assumption) ?_
                refine o_bipush (v := nI 12) hC dX8_way_84 (by decide +kernel) ?_
                refine o_iload hC dX8_way_86 (by rfl) ?_
                refine o_imul hC dX8_way_88 ?_
                try rw [nI_mul]
                refine o_iload_n hC dX8_way_89 (by rfl) ?_
                refine o_iadd hC dX8_way_90 ?_
                try rw [nI_add]
                refine o_laldN (t0 := 1) hC rfl dX8_way_91 (by repeat (first | with_reducible assumption | (rw [rl_u_s]; done) | (rw [rl_u_s]; rfl) | rw [rl_u_n (by first | with_reducible assumption | omega)])) (by omega) (by decide) ?_
                refine o_lret hC hB dX8_way_92 (Nat.le_of_ble_eq_true rfl) (Nat.le_of_ble_eq_true rfl) ?_
                first
                | exact ⟨_, rfl, rfl, ⟨_, _, _, S, hu.dp (hq0) rfl rfl rfl rfl ⟨wrc, hrc6, hrc⟩, rfl, rfl, fun q a b => by first | exact rl_u_n (by omega) | exact (rl_u_n (by omega)).trans (rl_u_n (by omega)) | exact (dst q a b).trans (rl_u_n (by omega))⟩, (hq0).fr⟩
                | exact ⟨_, rfl, rfl, ⟨_, _, _, S, hu.dp (hq0.ob (nI 1, T.2) fu k hq.2.1) rfl rfl rfl rfl ⟨wrc, hrc6, hrc⟩, rfl, rfl, fun q a b => by first | exact rl_u_n (by omega) | exact (rl_u_n (by omega)).trans (rl_u_n (by omega)) | exact (dst q a b).trans (rl_u_n (by omega))⟩, (hq0.ob (nI 1, T.2) fu k hq.2.1).fr⟩
                | exact ⟨_, rfl, rfl, ⟨_, _, _, S, hu.dp (hq0.ob (nI 2, T.2) fu k hq.2.1) rfl rfl rfl rfl ⟨wrc, hrc6, hrc⟩, rfl, rfl, fun q a b => by first | exact rl_u_n (by omega) | exact (rl_u_n (by omega)).trans (rl_u_n (by omega)) | exact (dst q a b).trans (rl_u_n (by omega))⟩, (hq0.ob (nI 2, T.2) fu k hq.2.1).fr⟩
              · refine o_aload_n hC dX8_way_65 (by rfl) ?_
                refine o_getf hC (fX8_56 hC rfl) dX8_way_66 (by repeat (first | with_reducible assumption | (rw [rl_u_s]; done) | (rw [rl_u_s]; rfl) | rw [rl_u_n (by first | with_reducible assumption | omega)])) (by first | rfl | with_reducible assumption) ?_
                refine o_bipush (v := nI 12) hC dX8_way_69 (by decide +kernel) ?_
                refine o_iload hC dX8_way_71 (by rfl) ?_
                refine o_imul hC dX8_way_73 ?_
                try rw [nI_mul]
                refine o_iload_n hC dX8_way_74 (by rfl) ?_
                refine o_iadd hC dX8_way_75 ?_
                try rw [nI_add]
                refine o_laldN (t0 := 1) hC rfl dX8_way_76 (by repeat (first | with_reducible assumption | (rw [rl_u_s]; done) | (rw [rl_u_s]; rfl) | rw [rl_u_n (by first | with_reducible assumption | omega)])) (by omega) (by decide) ?_
                refine o_goto (tgt := 92) hC dX8_way_77 (by decide) ?_
                refine o_lret hC hB dX8_way_92 (Nat.le_of_ble_eq_true rfl) (Nat.le_of_ble_eq_true rfl) ?_
                first
                | exact ⟨_, rfl, rfl, ⟨_, _, _, S, hu.dp (hq0) rfl rfl rfl rfl ⟨wrc, hrc6, hrc⟩, rfl, rfl, fun q a b => by first | exact rl_u_n (by omega) | exact (rl_u_n (by omega)).trans (rl_u_n (by omega)) | exact (dst q a b).trans (rl_u_n (by omega))⟩, (hq0).fr⟩
                | exact ⟨_, rfl, rfl, ⟨_, _, _, S, hu.dp (hq0.ob (nI 1, T.2) fu k hq.2.1) rfl rfl rfl rfl ⟨wrc, hrc6, hrc⟩, rfl, rfl, fun q a b => by first | exact rl_u_n (by omega) | exact (rl_u_n (by omega)).trans (rl_u_n (by omega)) | exact (dst q a b).trans (rl_u_n (by omega))⟩, (hq0.ob (nI 1, T.2) fu k hq.2.1).fr⟩
                | exact ⟨_, rfl, rfl, ⟨_, _, _, S, hu.dp (hq0.ob (nI 2, T.2) fu k hq.2.1) rfl rfl rfl rfl ⟨wrc, hrc6, hrc⟩, rfl, rfl, fun q a b => by first | exact rl_u_n (by omega) | exact (rl_u_n (by omega)).trans (rl_u_n (by omega)) | exact (dst q a b).trans (rl_u_n (by omega))⟩, (hq0.ob (nI 2, T.2) fu k hq.2.1).fr⟩
            · refine o_aload_n hC dX8_way_47 (by rfl) ?_
              refine o_iconst (v := nI 2) hC dX8_way_48 (by decide +kernel) ?_
              refine o_putf hC (fX8_78 hC rfl) (fwX8 rfl rfl rfl (Or.inl rfl)) dX8_way_49 (by repeat (first | with_reducible assumption | (rw [rl_u_s]; done) | (rw [rl_u_s]; rfl) | rw [rl_u_n (by first | with_reducible assumption | omega)])) (Nat.le_of_ble_eq_true rfl) ?_
              try simp only [List.set_cons_zero, List.set_cons_succ]
              refine o_lconst (v := 0) hC dX8_way_52 (by decide +kernel) ?_
              refine o_lret hC hB dX8_way_53 (Nat.le_of_ble_eq_true rfl) (Nat.le_of_ble_eq_true rfl) ?_
              first
              | exact ⟨_, rfl, rfl, ⟨_, _, _, S, hu.dp (hq0) rfl rfl rfl rfl ⟨wrc, hrc6, hrc⟩, rfl, rfl, fun q a b => by first | exact rl_u_n (by omega) | exact (rl_u_n (by omega)).trans (rl_u_n (by omega)) | exact (dst q a b).trans (rl_u_n (by omega))⟩, (hq0).fr⟩
              | exact ⟨_, rfl, rfl, ⟨_, _, _, S, hu.dp (hq0.ob (nI 1, T.2) fu k hq.2.1) rfl rfl rfl rfl ⟨wrc, hrc6, hrc⟩, rfl, rfl, fun q a b => by first | exact rl_u_n (by omega) | exact (rl_u_n (by omega)).trans (rl_u_n (by omega)) | exact (dst q a b).trans (rl_u_n (by omega))⟩, (hq0.ob (nI 1, T.2) fu k hq.2.1).fr⟩
              | exact ⟨_, rfl, rfl, ⟨_, _, _, S, hu.dp (hq0.ob (nI 2, T.2) fu k hq.2.1) rfl rfl rfl rfl ⟨wrc, hrc6, hrc⟩, rfl, rfl, fun q a b => by first | exact rl_u_n (by omega) | exact (rl_u_n (by omega)).trans (rl_u_n (by omega)) | exact (dst q a b).trans (rl_u_n (by omega))⟩, (hq0.ob (nI 2, T.2) fu k hq.2.1).fr⟩
        · refine o_aload_n hC dX8_way_31 (by rfl) ?_
          refine o_iconst (v := nI 1) hC dX8_way_32 (by decide +kernel) ?_
          refine o_putf hC (fX8_78 hC rfl) (fwX8 rfl rfl rfl (Or.inl rfl)) dX8_way_33 (by repeat (first | with_reducible assumption | (rw [rl_u_s]; done) | (rw [rl_u_s]; rfl) | rw [rl_u_n (by first | with_reducible assumption | omega)])) (Nat.le_of_ble_eq_true rfl) ?_
          try simp only [List.set_cons_zero, List.set_cons_succ]
          refine o_lconst (v := 0) hC dX8_way_36 (by decide +kernel) ?_
          refine o_lret hC hB dX8_way_37 (Nat.le_of_ble_eq_true rfl) (Nat.le_of_ble_eq_true rfl) ?_
          first
          | exact ⟨_, rfl, rfl, ⟨_, _, _, S, hu.dp (hq0) rfl rfl rfl rfl ⟨wrc, hrc6, hrc⟩, rfl, rfl, fun q a b => by first | exact rl_u_n (by omega) | exact (rl_u_n (by omega)).trans (rl_u_n (by omega)) | exact (dst q a b).trans (rl_u_n (by omega))⟩, (hq0).fr⟩
          | exact ⟨_, rfl, rfl, ⟨_, _, _, S, hu.dp (hq0.ob (nI 1, T.2) fu k hq.2.1) rfl rfl rfl rfl ⟨wrc, hrc6, hrc⟩, rfl, rfl, fun q a b => by first | exact rl_u_n (by omega) | exact (rl_u_n (by omega)).trans (rl_u_n (by omega)) | exact (dst q a b).trans (rl_u_n (by omega))⟩, (hq0.ob (nI 1, T.2) fu k hq.2.1).fr⟩
          | exact ⟨_, rfl, rfl, ⟨_, _, _, S, hu.dp (hq0.ob (nI 2, T.2) fu k hq.2.1) rfl rfl rfl rfl ⟨wrc, hrc6, hrc⟩, rfl, rfl, fun q a b => by first | exact rl_u_n (by omega) | exact (rl_u_n (by omega)).trans (rl_u_n (by omega)) | exact (dst q a b).trans (rl_u_n (by omega))⟩, (hq0.ob (nI 2, T.2) fu k hq.2.1).fr⟩

set_option maxHeartbeats 4000000 in
set_option maxRecDepth 100000 in
theorem cm_X8_forward (l : Launch) (D : va_G) (ids : Nat → ClassId) (H0 : Heap) (h : rl_H) (n : Nat) (m : Nat) (T : md_T) (fu : Int32) (k : Nat) (S : md_A) (z : sh_S) (q : Int32) (hu : md_un ids h m T fu k S z) : rl_Met l (rl_e D ids H0) rl_BW rl_Ns yX8_forward cX8_forward 4 (some .int) ({ frames := 2, cells := 0, slots := 0, locals := 48 }) [.ref m, .int q] h n (fun v h' n' => ∃ r : Int32, v = some (.int r) ∧ n' = n ∧ mdx ids h' m T z (fun S' => S' = S) (∀ q : Nat, m + 12 ≤ q → q < m + 22 → h' q = h q) ∧ rl_fr h h' m (m + 23)) := by
  obtain ⟨hq, hs, ⟨hsc, hsc4⟩, hwf, ⟨hrr, hr36⟩, ⟨hnc, hn16⟩, hnw, hpr, hnv, hwv, wrc, hrc6, hrc⟩ := id hu
  have hq0 := hq.ob (nI 0, T.2) fu k hq.2.1
  have g0 := hq.1
  obtain ⟨-, gk, ⟨⟨cl, g12⟩, ⟨tu, g13, b13⟩, ⟨im, g14⟩, ⟨te, g15, b15⟩, ⟨ne, g16⟩, ⟨la, g17⟩, ⟨hn, g18⟩, ⟨hl, g19⟩, ⟨tp, g20⟩, ⟨gr, g21, b21⟩, ⟨it, g22⟩⟩, gf⟩ := id hq
  refine rl_Met.of (by decide +kernel) (Nat.le_of_ble_eq_true rfl) ?_
  intro X hC hB
  show rl_G X (rl_e D ids H0) 0 [some (.ref m), some (.int q), none, none] [] h n 0 0
  refine o_aload_n hC dX8_forward_0 (by rfl) ?_
  refine o_iconst (v := nI 0) hC dX8_forward_1 (by decide +kernel) ?_
  refine o_putf hC (fX8_78 hC rfl) (fwX8 rfl rfl rfl (Or.inl rfl)) dX8_forward_2 (by repeat (first | with_reducible assumption | (rw [rl_u_s]; done) | (rw [rl_u_s]; rfl) | rw [rl_u_n (by first | with_reducible assumption | omega)])) (Nat.le_of_ble_eq_true rfl) ?_
  try simp only [List.set_cons_zero, List.set_cons_succ]
  refine o_iload_n hC dX8_forward_5 (by rfl) ?_
  refine o_if_lt (tgt := 17) hC dX8_forward_6 (by decide) (fun c_6 => ?_) (fun c_6 => ?_)
  · refine o_iconst (v := (-1 : Int32)) hC dX8_forward_17 (by decide +kernel) ?_
    refine o_iret hC hB dX8_forward_18 (Nat.le_of_ble_eq_true rfl) (Nat.le_of_ble_eq_true rfl) ?_
    exact ⟨_, rfl, rfl, ⟨_, _, _, S, hu.dp (hq0) rfl rfl rfl rfl ⟨wrc, hrc6, hrc⟩, rfl, rfl, fun q a b => by first | exact rl_u_n (by omega) | exact (rl_u_n (by omega)).trans (rl_u_n (by omega)) | exact (dst q a b).trans (rl_u_n (by omega))⟩, (hq0).fr⟩
  · refine o_iload_n hC dX8_forward_9 (by rfl) ?_
    refine o_aload_n hC dX8_forward_10 (by rfl) ?_
    refine o_getf hC (fX8_112 hC rfl) dX8_forward_11 (by repeat (first | with_reducible assumption | (rw [rl_u_s]; done) | (rw [rl_u_s]; rfl) | rw [rl_u_n (by first | with_reducible assumption | omega)])) (by first | rfl | with_reducible assumption) ?_
    refine o_icmp_lt (tgt := 19) hC dX8_forward_14 (by decide) (fun c_14 => ?_) (fun c_14 => ?_)
    · refine o_iconst (v := nI 0) hC dX8_forward_19 (by decide +kernel) ?_
      refine o_istore_n hC dX8_forward_20 (Nat.le_of_ble_eq_true rfl) ?_
      refine o_iconst (v := nI 0) hC dX8_forward_21 (by decide +kernel) ?_
      refine o_istore_n hC dX8_forward_22 (Nat.le_of_ble_eq_true rfl) ?_
      have loop : ∀ (mm t : Nat) (c : Int32), t + mm = 80 → rl_G X (rl_e D ids H0) 23 [some (.ref m), some (.int q), some (.int c), some (.int (nI t))] [] (rl_u h m (md_ob m (nI 0, T.2) fu k)) n 0 0 := by
        intro mm
        induction mm with
        | zero =>
          intro t c hm
          refine o_iload_n hC dX8_forward_23 (by rfl) ?_
          refine o_aload_n hC dX8_forward_24 (by rfl) ?_
          refine o_getf hC (fX8_46 hC rfl) dX8_forward_25 (by repeat (first | with_reducible assumption | (rw [rl_u_s]; done) | (rw [rl_u_s]; rfl) | rw [rl_u_n (by first | with_reducible assumption | omega)])) (by first | rfl | with_reducible assumption) ?_
          refine o_bipush (v := nI 16) hC dX8_forward_28 (by decide +kernel) ?_
          obtain ⟨t16, ht16, et16⟩ := b13 16 (by decide)
          refine o_ialdN (t0 := 0) (k := 16) hC rfl dX8_forward_30 (by repeat (first | with_reducible assumption | (rw [rl_u_s]; done) | (rw [rl_u_s]; rfl) | rw [rl_u_n (by first | with_reducible assumption | omega)])) (by decide) (by decide) ?_
          rw [et16]
          refine o_icmp_ge (tgt := 73) hC dX8_forward_31 (by decide) (fun c_31 => ?_) (fun c_31 => ?_)
          · refine o_iload_n hC dX8_forward_73 (by rfl) ?_
            refine o_iret hC hB dX8_forward_74 (Nat.le_of_ble_eq_true rfl) (Nat.le_of_ble_eq_true rfl) ?_
            exact ⟨_, rfl, rfl, ⟨_, _, _, S, hu.dp (hq0) rfl rfl rfl rfl ⟨wrc, hrc6, hrc⟩, rfl, rfl, fun q a b => by first | exact rl_u_n (by omega) | exact (rl_u_n (by omega)).trans (rl_u_n (by omega)) | exact (dst q a b).trans (rl_u_n (by omega))⟩, (hq0).fr⟩
          · exact absurd (nI_le (by omega) (by omega)) c_31
        | succ mm ih =>
          intro t c hm
          refine o_iload_n hC dX8_forward_23 (by rfl) ?_
          refine o_aload_n hC dX8_forward_24 (by rfl) ?_
          refine o_getf hC (fX8_46 hC rfl) dX8_forward_25 (by repeat (first | with_reducible assumption | (rw [rl_u_s]; done) | (rw [rl_u_s]; rfl) | rw [rl_u_n (by first | with_reducible assumption | omega)])) (by first | rfl | with_reducible assumption) ?_
          refine o_bipush (v := nI 16) hC dX8_forward_28 (by decide +kernel) ?_
          obtain ⟨t16, ht16, et16⟩ := b13 16 (by decide)
          refine o_ialdN (t0 := 0) (k := 16) hC rfl dX8_forward_30 (by repeat (first | with_reducible assumption | (rw [rl_u_s]; done) | (rw [rl_u_s]; rfl) | rw [rl_u_n (by first | with_reducible assumption | omega)])) (by decide) (by decide) ?_
          rw [et16]
          refine o_icmp_ge (tgt := 73) hC dX8_forward_31 (by decide) (fun c_31 => ?_) (fun c_31 => ?_)
          · refine o_iload_n hC dX8_forward_73 (by rfl) ?_
            refine o_iret hC hB dX8_forward_74 (Nat.le_of_ble_eq_true rfl) (Nat.le_of_ble_eq_true rfl) ?_
            exact ⟨_, rfl, rfl, ⟨_, _, _, S, hu.dp (hq0) rfl rfl rfl rfl ⟨wrc, hrc6, hrc⟩, rfl, rfl, fun q a b => by first | exact rl_u_n (by omega) | exact (rl_u_n (by omega)).trans (rl_u_n (by omega)) | exact (dst q a b).trans (rl_u_n (by omega))⟩, (hq0).fr⟩
          · refine o_iload_n hC dX8_forward_34 (by rfl) ?_
            refine o_aload_n hC dX8_forward_35 (by rfl) ?_
            refine o_iload_n hC dX8_forward_36 (by rfl) ?_
            refine o_aload_n hC dX8_forward_37 (by rfl) ?_
            refine o_getf hC (fX8_115 hC rfl) dX8_forward_38 (by repeat (first | with_reducible assumption | (rw [rl_u_s]; done) | (rw [rl_u_s]; rfl) | rw [rl_u_n (by first | with_reducible assumption | omega)])) (by first | rfl | with_reducible assumption) ?_
            refine o_callV2 hC rl_BW_good rl_Ns_nw (by exact hB.2.2.2.2.2) YX8_isSo IX8_isSo VX8_isSo (mX8_206 hC) (by rw [hB.1]; exact cm_X8_isSo l D ids H0 _ _ m _ _ _ t _ hq0.rf (by omega)) (by exact hq0.1) rfl rfl (Nat.le_of_ble_eq_true rfl) (by rw [hB.2.1]; first | exact Nat.le_of_ble_eq_true rfl | (dsimp only; omega)) (by rw [hB.2.1]; first | exact Nat.le_of_ble_eq_true rfl | (dsimp only; omega)) (by rw [hB.2.1]; first | exact Nat.le_of_ble_eq_true rfl | (dsimp only; omega)) (by rw [hB.2.1]; first | exact Nat.le_of_ble_eq_true rfl | (dsimp only; omega)) dX8_forward_41 (fun v h_41 n_41 p_41 => ?_)
            obtain ⟨r41, rfl, rfl, rfl⟩ := p_41
            try dsimp only [Option.toList, List.cons_append, List.nil_append]
            refine o_aload_n hC dX8_forward_44 (by rfl) ?_
            refine o_iload_n hC dX8_forward_45 (by rfl) ?_
            refine o_aload_n hC dX8_forward_46 (by rfl) ?_
            refine o_getf hC (fX8_115 hC rfl) dX8_forward_47 (by repeat (first | with_reducible assumption | (rw [rl_u_s]; done) | (rw [rl_u_s]; rfl) | rw [rl_u_n (by first | with_reducible assumption | omega)])) (by first | rfl | with_reducible assumption) ?_
            refine o_lconst (v := 1) hC dX8_forward_50 (by decide +kernel) ?_
            refine o_iload_n hC dX8_forward_51 (by rfl) ?_
            refine o_lshl hC dX8_forward_52 ?_
            refine o_lxor hC dX8_forward_53 ?_
            refine o_callV2 hC rl_BW_good rl_Ns_nw (by exact hB.2.2.2.2.2) YX8_isSo IX8_isSo VX8_isSo (mX8_206 hC) (by rw [hB.1]; exact cm_X8_isSo l D ids H0 _ _ m _ _ _ t _ hq0.rf (by omega)) (by exact hq0.1) rfl rfl (Nat.le_of_ble_eq_true rfl) (by rw [hB.2.1]; first | exact Nat.le_of_ble_eq_true rfl | (dsimp only; omega)) (by rw [hB.2.1]; first | exact Nat.le_of_ble_eq_true rfl | (dsimp only; omega)) (by rw [hB.2.1]; first | exact Nat.le_of_ble_eq_true rfl | (dsimp only; omega)) (by rw [hB.2.1]; first | exact Nat.le_of_ble_eq_true rfl | (dsimp only; omega)) dX8_forward_54 (fun v h_54 n_54 p_54 => ?_)
            obtain ⟨r54, rfl, rfl, rfl⟩ := p_54
            try dsimp only [Option.toList, List.cons_append, List.nil_append]
            refine o_icmp_eq (tgt := 64) hC dX8_forward_57 (by decide) (fun c_57 => ?_) (fun c_57 => ?_)
            · refine o_iconst (v := nI 0) hC dX8_forward_64 (by decide +kernel) ?_
              refine o_iadd hC dX8_forward_65 ?_
              refine o_istore_n hC dX8_forward_66 (Nat.le_of_ble_eq_true rfl) ?_
              refine o_iinc hC dX8_forward_67 (by rfl) (rl_inc _) (Nat.le_of_ble_eq_true rfl) ?_
              refine o_goto (tgt := 23) hC dX8_forward_70 (by decide) ?_
              exact ih (t + 1) _ (by omega)
            · refine o_iconst (v := nI 1) hC dX8_forward_60 (by decide +kernel) ?_
              refine o_goto (tgt := 65) hC dX8_forward_61 (by decide) ?_
              refine o_iadd hC dX8_forward_65 ?_
              refine o_istore_n hC dX8_forward_66 (Nat.le_of_ble_eq_true rfl) ?_
              refine o_iinc hC dX8_forward_67 (by rfl) (rl_inc _) (Nat.le_of_ble_eq_true rfl) ?_
              refine o_goto (tgt := 23) hC dX8_forward_70 (by decide) ?_
              exact ih (t + 1) _ (by omega)
      exact loop 80 0 _ (by omega)
    · refine o_iconst (v := (-1 : Int32)) hC dX8_forward_17 (by decide +kernel) ?_
      refine o_iret hC hB dX8_forward_18 (Nat.le_of_ble_eq_true rfl) (Nat.le_of_ble_eq_true rfl) ?_
      exact ⟨_, rfl, rfl, ⟨_, _, _, S, hu.dp (hq0) rfl rfl rfl rfl ⟨wrc, hrc6, hrc⟩, rfl, rfl, fun q a b => by first | exact rl_u_n (by omega) | exact (rl_u_n (by omega)).trans (rl_u_n (by omega)) | exact (dst q a b).trans (rl_u_n (by omega))⟩, (hq0).fr⟩
