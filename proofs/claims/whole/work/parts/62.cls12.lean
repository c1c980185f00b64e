/-! RowLineage in every state: ways, holds, made, under, forward, count, matters, blame, told -/

set_option maxHeartbeats 4000000 in
set_option maxRecDepth 100000 in
theorem ct_X7_asNumber (l : Launch) (D : va_G) (ids : Nat → ClassId) (H0 : Heap) (h : rl_H) (n : Nat) (q : Int32)  : rl_Met l (rl_e D ids H0) rl_BW rl_Ns yX7_asNumber cX7_asNumber 1 (some .int) ({ frames := 0, cells := 0, slots := 0, locals := 0 }) [.int q] h n (fun v h' n' => ∃ r : Int32, v = some (.int r) ∧ h' = h ∧ n' = n) := by
  refine rl_Met.of (by decide +kernel) (Nat.le_of_ble_eq_true rfl) ?_
  intro X hC hB
  show rl_G X (rl_e D ids H0) 0 [some (.int q)] [] h n 0 0
  refine o_iload_n hC dX7_asNumber_0 (by rfl) ?_
  refine o_if_eq (tgt := 8) hC dX7_asNumber_1 (by decide) (fun c_1 => ?_) (fun c_1 => ?_)
  · refine o_iconst (v := nI 0) hC dX7_asNumber_8 (by decide +kernel) ?_
    refine o_iret hC hB dX7_asNumber_9 (Nat.le_of_ble_eq_true rfl) (Nat.le_of_ble_eq_true rfl) ?_
    exact ⟨_, rfl, rfl, rfl⟩
  · refine o_iconst (v := nI 1) hC dX7_asNumber_4 (by decide +kernel) ?_
    refine o_goto (tgt := 9) hC dX7_asNumber_5 (by decide) ?_
    refine o_iret hC hB dX7_asNumber_9 (Nat.le_of_ble_eq_true rfl) (Nat.le_of_ble_eq_true rfl) ?_
    exact ⟨_, rfl, rfl, rfl⟩

set_option maxHeartbeats 4000000 in
set_option maxRecDepth 100000 in
theorem cg_X7_ways (l : Launch) (D : va_G) (ids : Nat → ClassId) (H0 : Heap) (h : rl_H) (n : Nat) (x : Nat) (s : cl_S) (c : cl_N) (q : Int32) (hc : cl_at ids h x s c) : rl_Met l (rl_e D ids H0) rl_BW rl_Ns yX7_ways cX7_ways 3 (some .int) ({ frames := 3, cells := 0, slots := 0, locals := 64 }) [.ref x, .int q] h n (fun v h' n' => ∃ r : Int32, v = some (.int r) ∧ h' = h ∧ n' = n) := by
  obtain ⟨c1, c2, c3, ⟨pn, c4, c5⟩, ⟨pt, c6, c7⟩, c8, c9, c10, c11, c12, c13, c14, c15⟩ := id hc
  refine rl_Met.of (by decide +kernel) (Nat.le_of_ble_eq_true rfl) ?_
  intro X hC hB
  show rl_G X (rl_e D ids H0) 0 [some (.ref x), some (.int q), none] [] h n 0 0
  refine o_aload_n hC dX7_ways_0 (by rfl) ?_
  refine o_iload_n hC dX7_ways_1 (by rfl) ?_
  refine o_callV1 hC rl_BW_good rl_Ns_nw (by exact hB.2.2.2.2.2) YX7_resultTuple IX7_resultTuple VX7_resultTuple (mX7_141 hC) (by rw [hB.1]; exact cg_X7_resultTuple l D ids H0 _ _ x s c _ hc) (by exact c1) rfl rfl (Nat.le_of_ble_eq_true rfl) (by rw [hB.2.1]; first | exact Nat.le_of_ble_eq_true rfl | (dsimp only; omega)) (by rw [hB.2.1]; first | exact Nat.le_of_ble_eq_true rfl | (dsimp only; omega)) (by rw [hB.2.1]; first | exact Nat.le_of_ble_eq_true rfl | (dsimp only; omega)) (by rw [hB.2.1]; first | exact Nat.le_of_ble_eq_true rfl | (dsimp only; omega)) dX7_ways_2 (fun v h_2 n_2 p_2 => ?_)
  obtain ⟨zv, rfl, rfl, rfl, hz⟩ := p_2
  try dsimp only [Option.toList, List.cons_append, List.nil_append]
  rcases hz with rfl | ⟨j, i, hj, hi, hrs, rfl⟩
  · try dsimp only [Option.toList, List.cons_append, List.nil_append]
    refine o_astore_nN hC dX7_ways_5 (Nat.le_of_ble_eq_true rfl) ?_
    refine o_aload_nN hC dX7_ways_6 (by rfl) ?_
    refine o_ifnonnullN hC dX7_ways_7 ?_
    refine o_iconst (v := (-1 : Int32)) hC dX7_ways_10 (by decide +kernel) ?_
    refine o_goto (tgt := 21) hC dX7_ways_11 (by decide) ?_
    refine o_iret hC hB dX7_ways_21 (Nat.le_of_ble_eq_true rfl) (Nat.le_of_ble_eq_true rfl) ?_
    exact ⟨_, rfl, rfl, rfl⟩
  · try dsimp only [Option.toList, List.cons_append, List.nil_append]
    obtain ⟨wd, sz, P, S, t1, ⟨tf, t2, t3⟩, t4, t5, t6, t7⟩ := c13 j (by omega)
    obtain ⟨e1, e2, e3⟩ := t5 i hi
    obtain ⟨w1, w2, w3, w4⟩ := id e3
    refine o_astore_n hC dX7_ways_5 (Nat.le_of_ble_eq_true rfl) ?_
    refine o_aload_n hC dX7_ways_6 (by rfl) ?_
    refine o_ifnonnull (tgt := 14) hC dX7_ways_7 (by decide) ?_
    refine o_aload_n hC dX7_ways_14 (by rfl) ?_
    refine o_getf hC (fX7_160 hC rfl) dX7_ways_15 (by repeat (first | with_reducible assumption | (rw [rl_u_s]; done) | (rw [rl_u_s]; rfl) | rw [rl_u_n (by first | with_reducible assumption | omega)])) (by first | rfl | with_reducible assumption) ?_
    refine o_getf hC (fX7_163 hC rfl) dX7_ways_18 (by repeat (first | with_reducible assumption | (rw [rl_u_s]; done) | (rw [rl_u_s]; rfl) | rw [rl_u_n (by first | with_reducible assumption | omega)])) (by first | rfl | with_reducible assumption) ?_
    refine o_iret hC hB dX7_ways_21 (Nat.le_of_ble_eq_true rfl) (Nat.le_of_ble_eq_true rfl) ?_
    exact ⟨_, rfl, rfl, rfl⟩

set_option maxHeartbeats 4000000 in
set_option maxRecDepth 100000 in
theorem cg_X7_holds (l : Launch) (D : va_G) (ids : Nat → ClassId) (H0 : Heap) (h : rl_H) (n : Nat) (x : Nat) (s : cl_S) (c : cl_N) (q : Int32) (hc : cl_at ids h x s c) : rl_Met l (rl_e D ids H0) rl_BW rl_Ns yX7_holds cX7_holds 3 (some .int) ({ frames := 3, cells := 0, slots := 0, locals := 64 }) [.ref x, .int q] h n (fun v h' n' => ∃ r : Int32, v = some (.int r) ∧ h' = h ∧ n' = n) := by
  obtain ⟨c1, c2, c3, ⟨pn, c4, c5⟩, ⟨pt, c6, c7⟩, c8, c9, c10, c11, c12, c13, c14, c15⟩ := id hc
  refine rl_Met.of (by decide +kernel) (Nat.le_of_ble_eq_true rfl) ?_
  intro X hC hB
  show rl_G X (rl_e D ids H0) 0 [some (.ref x), some (.int q), none] [] h n 0 0
  refine o_aload_n hC dX7_holds_0 (by rfl) ?_
  refine o_iload_n hC dX7_holds_1 (by rfl) ?_
  refine o_callV1 hC rl_BW_good rl_Ns_nw (by exact hB.2.2.2.2.2) YX7_resultTuple IX7_resultTuple VX7_resultTuple (mX7_141 hC) (by rw [hB.1]; exact cg_X7_resultTuple l D ids H0 _ _ x s c _ hc) (by exact c1) rfl rfl (Nat.le_of_ble_eq_true rfl) (by rw [hB.2.1]; first | exact Nat.le_of_ble_eq_true rfl | (dsimp only; omega)) (by rw [hB.2.1]; first | exact Nat.le_of_ble_eq_true rfl | (dsimp only; omega)) (by rw [hB.2.1]; first | exact Nat.le_of_ble_eq_true rfl | (dsimp only; omega)) (by rw [hB.2.1]; first | exact Nat.le_of_ble_eq_true rfl | (dsimp only; omega)) dX7_holds_2 (fun v h_2 n_2 p_2 => ?_)
  obtain ⟨zv, rfl, rfl, rfl, hz⟩ := p_2
  try dsimp only [Option.toList, List.cons_append, List.nil_append]
  rcases hz with rfl | ⟨j, i, hj, hi, hrs, rfl⟩
  · try dsimp only [Option.toList, List.cons_append, List.nil_append]
    refine o_astore_nN hC dX7_holds_5 (Nat.le_of_ble_eq_true rfl) ?_
    refine o_aload_nN hC dX7_holds_6 (by rfl) ?_
    refine o_ifnonnullN hC dX7_holds_7 ?_
    refine o_iconst (v := (-1 : Int32)) hC dX7_holds_10 (by decide +kernel) ?_
    refine o_goto (tgt := 28) hC dX7_holds_11 (by decide) ?_
    refine o_iret hC hB dX7_holds_28 (Nat.le_of_ble_eq_true rfl) (Nat.le_of_ble_eq_true rfl) ?_
    exact ⟨_, rfl, rfl, rfl⟩
  · try dsimp only [Option.toList, List.cons_append, List.nil_append]
    obtain ⟨wd, sz, P, S, t1, ⟨tf, t2, t3⟩, t4, t5, t6, t7⟩ := c13 j (by omega)
    obtain ⟨e1, e2, e3⟩ := t5 i hi
    obtain ⟨w1, w2, w3, w4⟩ := id e3
    refine o_astore_n hC dX7_holds_5 (Nat.le_of_ble_eq_true rfl) ?_
    refine o_aload_n hC dX7_holds_6 (by rfl) ?_
    refine o_ifnonnull (tgt := 14) hC dX7_holds_7 (by decide) ?_
    refine o_aload_n hC dX7_holds_14 (by rfl) ?_
    refine o_getf hC (fX7_160 hC rfl) dX7_holds_15 (by repeat (first | with_reducible assumption | (rw [rl_u_s]; done) | (rw [rl_u_s]; rfl) | rw [rl_u_n (by first | with_reducible assumption | omega)])) (by first | rfl | with_reducible assumption) ?_
    refine o_aload_n hC dX7_holds_18 (by rfl) ?_
    refine o_getf hC (fX7_71 hC rfl) dX7_holds_19 (by repeat (first | with_reducible assumption | (rw [rl_u_s]; done) | (rw [rl_u_s]; rfl) | rw [rl_u_n (by first | with_reducible assumption | omega)])) (by first | rfl | with_reducible assumption) ?_
    refine o_callV1 hC rl_BW_good rl_Ns_nw (by exact hB.2.2.2.2.2) YX6_holdsWith IX6_holdsWith VX6_holdsWith (mX7_183 hC) (by rw [hB.1]; exact ct_X6_holdsWith l D ids H0 _ _ (c.1 j + 1 + 2 + 5 * i + 2) _ _ _ _ e3) (by exact e3.1) rfl rfl (Nat.le_of_ble_eq_true rfl) (by rw [hB.2.1]; first | exact Nat.le_of_ble_eq_true rfl | (dsimp only; omega)) (by rw [hB.2.1]; first | exact Nat.le_of_ble_eq_true rfl | (dsimp only; omega)) (by rw [hB.2.1]; first | exact Nat.le_of_ble_eq_true rfl | (dsimp only; omega)) (by rw [hB.2.1]; first | exact Nat.le_of_ble_eq_true rfl | (dsimp only; omega)) dX7_holds_22 (fun v h_22 n_22 p_22 => ?_)
    obtain ⟨rfl, rfl, rfl⟩ := p_22
    try dsimp only [Option.toList, List.cons_append, List.nil_append]
    refine o_callS1 hC rl_BW_good rl_Ns_nw (by exact hB.2.2.2.2.2) YX7_asNumber SX7_asNumber (mX7_187 hC) (by rw [hB.1]; exact ct_X7_asNumber l D ids H0 _ _ _) (Nat.le_of_ble_eq_true rfl) (by rw [hB.2.1]; first | exact Nat.le_of_ble_eq_true rfl | (dsimp only; omega)) (by rw [hB.2.1]; first | exact Nat.le_of_ble_eq_true rfl | (dsimp only; omega)) (by rw [hB.2.1]; first | exact Nat.le_of_ble_eq_true rfl | (dsimp only; omega)) (by rw [hB.2.1]; first | exact Nat.le_of_ble_eq_true rfl | (dsimp only; omega)) dX7_holds_25 (fun v h_25 n_25 p_25 => ?_)
    obtain ⟨an25, rfl, rfl, rfl⟩ := p_25
    try dsimp only [Option.toList, List.cons_append, List.nil_append]
    refine o_iret hC hB dX7_holds_28 (Nat.le_of_ble_eq_true rfl) (Nat.le_of_ble_eq_true rfl) ?_
    exact ⟨_, rfl, rfl, rfl⟩

set_option maxHeartbeats 4000000 in
set_option maxRecDepth 100000 in
theorem cg_X7_made (l : Launch) (D : va_G) (ids : Nat → ClassId) (H0 : Heap) (h : rl_H) (n : Nat) (x : Nat) (s : cl_S) (c : cl_N) (q : Int32) (hc : cl_at ids h x s c) : rl_Met l (rl_e D ids H0) rl_BW rl_Ns yX7_made cX7_made 3 (some .int) ({ frames := 3, cells := 0, slots := 0, locals := 64 }) [.ref x, .int q] h n (fun v h' n' => ∃ r : Int32, v = some (.int r) ∧ h' = h ∧ n' = n) := by
  obtain ⟨c1, c2, c3, ⟨pn, c4, c5⟩, ⟨pt, c6, c7⟩, c8, c9, c10, c11, c12, c13, c14, c15⟩ := id hc
  refine rl_Met.of (by decide +kernel) (Nat.le_of_ble_eq_true rfl) ?_
  intro X hC hB
  show rl_G X (rl_e D ids H0) 0 [some (.ref x), some (.int q), none] [] h n 0 0
  refine o_aload_n hC dX7_made_0 (by rfl) ?_
  refine o_iload_n hC dX7_made_1 (by rfl) ?_
  refine o_callV1 hC rl_BW_good rl_Ns_nw (by exact hB.2.2.2.2.2) YX7_resultTuple IX7_resultTuple VX7_resultTuple (mX7_141 hC) (by rw [hB.1]; exact cg_X7_resultTuple l D ids H0 _ _ x s c _ hc) (by exact c1) rfl rfl (Nat.le_of_ble_eq_true rfl) (by rw [hB.2.1]; first | exact Nat.le_of_ble_eq_true rfl | (dsimp only; omega)) (by rw [hB.2.1]; first | exact Nat.le_of_ble_eq_true rfl | (dsimp only; omega)) (by rw [hB.2.1]; first | exact Nat.le_of_ble_eq_true rfl | (dsimp only; omega)) (by rw [hB.2.1]; first | exact Nat.le_of_ble_eq_true rfl | (dsimp only; omega)) dX7_made_2 (fun v h_2 n_2 p_2 => ?_)
  obtain ⟨zv, rfl, rfl, rfl, hz⟩ := p_2
  try dsimp only [Option.toList, List.cons_append, List.nil_append]
  rcases hz with rfl | ⟨j, i, hj, hi, hrs, rfl⟩
  · try dsimp only [Option.toList, List.cons_append, List.nil_append]
    refine o_astore_nN hC dX7_made_5 (Nat.le_of_ble_eq_true rfl) ?_
    refine o_aload_nN hC dX7_made_6 (by rfl) ?_
    refine o_ifnonnullN hC dX7_made_7 ?_
    refine o_iconst (v := (-1 : Int32)) hC dX7_made_10 (by decide +kernel) ?_
    refine o_goto (tgt := 25) hC dX7_made_11 (by decide) ?_
    refine o_iret hC hB dX7_made_25 (Nat.le_of_ble_eq_true rfl) (Nat.le_of_ble_eq_true rfl) ?_
    exact ⟨_, rfl, rfl, rfl⟩
  · try dsimp only [Option.toList, List.cons_append, List.nil_append]
    obtain ⟨wd, sz, P, S, t1, ⟨tf, t2, t3⟩, t4, t5, t6, t7⟩ := c13 j (by omega)
    obtain ⟨e1, e2, e3⟩ := t5 i hi
    obtain ⟨w1, w2, w3, w4⟩ := id e3
    refine o_astore_n hC dX7_made_5 (Nat.le_of_ble_eq_true rfl) ?_
    refine o_aload_n hC dX7_made_6 (by rfl) ?_
    refine o_ifnonnull (tgt := 14) hC dX7_made_7 (by decide) ?_
    refine o_aload_n hC dX7_made_14 (by rfl) ?_
    refine o_getf hC (fX7_160 hC rfl) dX7_made_15 (by repeat (first | with_reducible assumption | (rw [rl_u_s]; done) | (rw [rl_u_s]; rfl) | rw [rl_u_n (by first | with_reducible assumption | omega)])) (by first | rfl | with_reducible assumption) ?_
    refine o_aload_n hC dX7_made_18 (by rfl) ?_
    refine o_getf hC (fX7_71 hC rfl) dX7_made_19 (by repeat (first | with_reducible assumption | (rw [rl_u_s]; done) | (rw [rl_u_s]; rfl) | rw [rl_u_n (by first | with_reducible assumption | omega)])) (by first | rfl | with_reducible assumption) ?_
    refine o_callV1 hC rl_BW_good rl_Ns_nw (by exact hB.2.2.2.2.2) YX6_firstThatHolds IX6_firstThatHolds VX6_firstThatHolds (mX7_191 hC) (by rw [hB.1]; exact ct_X6_firstThatHolds l D ids H0 _ _ (c.1 j + 1 + 2 + 5 * i + 2) _ _ _ _ e3) (by exact e3.1) rfl rfl (Nat.le_of_ble_eq_true rfl) (by rw [hB.2.1]; first | exact Nat.le_of_ble_eq_true rfl | (dsimp only; omega)) (by rw [hB.2.1]; first | exact Nat.le_of_ble_eq_true rfl | (dsimp only; omega)) (by rw [hB.2.1]; first | exact Nat.le_of_ble_eq_true rfl | (dsimp only; omega)) (by rw [hB.2.1]; first | exact Nat.le_of_ble_eq_true rfl | (dsimp only; omega)) dX7_made_22 (fun v h_22 n_22 p_22 => ?_)
    obtain ⟨rfl, rfl, rfl⟩ := p_22
    try dsimp only [Option.toList, List.cons_append, List.nil_append]
    refine o_iret hC hB dX7_made_25 (Nat.le_of_ble_eq_true rfl) (Nat.le_of_ble_eq_true rfl) ?_
    exact ⟨_, rfl, rfl, rfl⟩

set_option maxHeartbeats 4000000 in
set_option maxRecDepth 100000 in
theorem cg_X7_under (l : Launch) (D : va_G) (ids : Nat → ClassId) (H0 : Heap) (h : rl_H) (n : Nat) (x : Nat) (s : cl_S) (c : cl_N) (q : Int32) (st : Int64) (hc : cl_at ids h x s c) : rl_Met l (rl_e D ids H0) rl_BW rl_Ns yX7_under cX7_under 5 (some .int) ({ frames := 3, cells := 0, slots := 0, locals := 64 }) [.ref x, .int q, .long st] h n (fun v h' n' => ∃ r : Int32, v = some (.int r) ∧ h' = h ∧ n' = n) := by
  obtain ⟨c1, c2, c3, ⟨pn, c4, c5⟩, ⟨pt, c6, c7⟩, c8, c9, c10, c11, c12, c13, c14, c15⟩ := id hc
  obtain ⟨s1, s2, s3, s4, s5, s6, s7⟩ := id c2
  refine rl_Met.of (by decide +kernel) (Nat.le_of_ble_eq_true rfl) ?_
  intro X hC hB
  show rl_G X (rl_e D ids H0) 0 [some (.ref x), some (.int q), some (.long st), none, none] [] h n 0 0
  refine o_aload_n hC dX7_under_0 (by rfl) ?_
  refine o_iload_n hC dX7_under_1 (by rfl) ?_
  refine o_callV1 hC rl_BW_good rl_Ns_nw (by exact hB.2.2.2.2.2) YX7_resultTuple IX7_resultTuple VX7_resultTuple (mX7_141 hC) (by rw [hB.1]; exact cg_X7_resultTuple l D ids H0 _ _ x s c _ hc) (by exact c1) rfl rfl (Nat.le_of_ble_eq_true rfl) (by rw [hB.2.1]; first | exact Nat.le_of_ble_eq_true rfl | (dsimp only; omega)) (by rw [hB.2.1]; first | exact Nat.le_of_ble_eq_true rfl | (dsimp only; omega)) (by rw [hB.2.1]; first | exact Nat.le_of_ble_eq_true rfl | (dsimp only; omega)) (by rw [hB.2.1]; first | exact Nat.le_of_ble_eq_true rfl | (dsimp only; omega)) dX7_under_2 (fun v h_2 n_2 p_2 => ?_)
  obtain ⟨zv, rfl, rfl, rfl, hz⟩ := p_2
  try dsimp only [Option.toList, List.cons_append, List.nil_append]
  rcases hz with rfl | ⟨j, i, hj, hi, hrs, rfl⟩
  · try dsimp only [Option.toList, List.cons_append, List.nil_append]
    refine o_astoreN hC dX7_under_5 (Nat.le_of_ble_eq_true rfl) ?_
    refine o_aloadN hC dX7_under_7 (by rfl) ?_
    refine o_ifnonnullN hC dX7_under_9 ?_
    refine o_iconst (v := (-1 : Int32)) hC dX7_under_12 (by decide +kernel) ?_
    refine o_iret hC hB dX7_under_13 (Nat.le_of_ble_eq_true rfl) (Nat.le_of_ble_eq_true rfl) ?_
    exact ⟨_, rfl, rfl, rfl⟩
  · try dsimp only [Option.toList, List.cons_append, List.nil_append]
    obtain ⟨wd, sz, P, S, t1, ⟨tf, t2, t3⟩, t4, t5, t6, t7⟩ := c13 j (by omega)
    obtain ⟨e1, e2, e3⟩ := t5 i hi
    obtain ⟨w1, w2, w3, w4⟩ := id e3
    refine o_astore hC dX7_under_5 (Nat.le_of_ble_eq_true rfl) ?_
    refine o_aload hC dX7_under_7 (by rfl) ?_
    refine o_ifnonnull (tgt := 14) hC dX7_under_9 (by decide) ?_
    refine o_lload_n hC dX7_under_14 (by rfl) ?_
    refine o_aload_n hC dX7_under_15 (by rfl) ?_
    refine o_getf hC (fX7_10 hC rfl) dX7_under_16 (by repeat (first | with_reducible assumption | (rw [rl_u_s]; done) | (rw [rl_u_s]; rfl) | rw [rl_u_n (by first | with_reducible assumption | omega)])) (by first | rfl | with_reducible assumption) ?_
    refine o_getf hC (fX7_64 hC rfl) dX7_under_19 (by repeat (first | with_reducible assumption | (rw [rl_u_s]; done) | (rw [rl_u_s]; rfl) | rw [rl_u_n (by first | with_reducible assumption | omega)])) (by first | rfl | with_reducible assumption) ?_
    refine o_lushr hC dX7_under_22 ?_
    refine o_lconst (v := 0) hC dX7_under_23 (by decide +kernel) ?_
    refine o_lcmp hC dX7_under_24 ?_
    refine o_if_eq (tgt := 31) hC dX7_under_25 (by decide) (fun c_25 => ?_) (fun c_25 => ?_)
    · refine o_aload hC dX7_under_31 (by rfl) ?_
      refine o_getf hC (fX7_160 hC rfl) dX7_under_33 (by repeat (first | with_reducible assumption | (rw [rl_u_s]; done) | (rw [rl_u_s]; rfl) | rw [rl_u_n (by first | with_reducible assumption | omega)])) (by first | rfl | with_reducible assumption) ?_
      refine o_lload_n hC dX7_under_36 (by rfl) ?_
      refine o_callV1 hC rl_BW_good rl_Ns_nw (by exact hB.2.2.2.2.2) YX6_holdsWith IX6_holdsWith VX6_holdsWith (mX7_183 hC) (by rw [hB.1]; exact ct_X6_holdsWith l D ids H0 _ _ (c.1 j + 1 + 2 + 5 * i + 2) _ _ _ _ e3) (by exact e3.1) rfl rfl (Nat.le_of_ble_eq_true rfl) (by rw [hB.2.1]; first | exact Nat.le_of_ble_eq_true rfl | (dsimp only; omega)) (by rw [hB.2.1]; first | exact Nat.le_of_ble_eq_true rfl | (dsimp only; omega)) (by rw [hB.2.1]; first | exact Nat.le_of_ble_eq_true rfl | (dsimp only; omega)) (by rw [hB.2.1]; first | exact Nat.le_of_ble_eq_true rfl | (dsimp only; omega)) dX7_under_37 (fun v h_37 n_37 p_37 => ?_)
      obtain ⟨rfl, rfl, rfl⟩ := p_37
      try dsimp only [Option.toList, List.cons_append, List.nil_append]
      refine o_callS1 hC rl_BW_good rl_Ns_nw (by exact hB.2.2.2.2.2) YX7_asNumber SX7_asNumber (mX7_187 hC) (by rw [hB.1]; exact ct_X7_asNumber l D ids H0 _ _ _) (Nat.le_of_ble_eq_true rfl) (by rw [hB.2.1]; first | exact Nat.le_of_ble_eq_true rfl | (dsimp only; omega)) (by rw [hB.2.1]; first | exact Nat.le_of_ble_eq_true rfl | (dsimp only; omega)) (by rw [hB.2.1]; first | exact Nat.le_of_ble_eq_true rfl | (dsimp only; omega)) (by rw [hB.2.1]; first | exact Nat.le_of_ble_eq_true rfl | (dsimp only; omega)) dX7_under_40 (fun v h_40 n_40 p_40 => ?_)
      obtain ⟨an40, rfl, rfl, rfl⟩ := p_40
      try dsimp only [Option.toList, List.cons_append, List.nil_append]
      refine o_iret hC hB dX7_under_43 (Nat.le_of_ble_eq_true rfl) (Nat.le_of_ble_eq_true rfl) ?_
      exact ⟨_, rfl, rfl, rfl⟩
    · refine o_bipush (v := (-2 : Int32)) hC dX7_under_28 (by decide +kernel) ?_
      refine o_iret hC hB dX7_under_30 (Nat.le_of_ble_eq_true rfl) (Nat.le_of_ble_eq_true rfl) ?_
      exact ⟨_, rfl, rfl, rfl⟩

set_option maxHeartbeats 4000000 in
set_option maxRecDepth 100000 in
theorem cg_X7_count (l : Launch) (D : va_G) (ids : Nat → ClassId) (H0 : Heap) (h : rl_H) (n : Nat) (x : Nat) (s : cl_S) (c : cl_N) (q : Int32) (hc : cl_at ids h x s c) : rl_Met l (rl_e D ids H0) rl_BW rl_Ns yX7_count cX7_count 4 (some .int) ({ frames := 14, cells := 0, slots := 0, locals := 424 }) [.ref x, .int q] h n (fun v h' n' => ∃ r : Int32, v = some (.int r) ∧ h' = h ∧ n' = n) := by
  obtain ⟨c1, c2, c3, ⟨pn, c4, c5⟩, ⟨pt, c6, c7⟩, c8, c9, c10, c11, c12, c13, c14, c15⟩ := id hc
  refine rl_Met.of (by decide +kernel) (Nat.le_of_ble_eq_true rfl) ?_
  intro X hC hB
  show rl_G X (rl_e D ids H0) 0 [some (.ref x), some (.int q), none, none] [] h n 0 0
  refine o_aload_n hC dX7_count_0 (by rfl) ?_
  refine o_iload_n hC dX7_count_1 (by rfl) ?_
  refine o_callV1 hC rl_BW_good rl_Ns_nw (by exact hB.2.2.2.2.2) YX7_resultTuple IX7_resultTuple VX7_resultTuple (mX7_141 hC) (by rw [hB.1]; exact cg_X7_resultTuple l D ids H0 _ _ x s c _ hc) (by exact c1) rfl rfl (Nat.le_of_ble_eq_true rfl) (by rw [hB.2.1]; first | exact Nat.le_of_ble_eq_true rfl | (dsimp only; omega)) (by rw [hB.2.1]; first | exact Nat.le_of_ble_eq_true rfl | (dsimp only; omega)) (by rw [hB.2.1]; first | exact Nat.le_of_ble_eq_true rfl | (dsimp only; omega)) (by rw [hB.2.1]; first | exact Nat.le_of_ble_eq_true rfl | (dsimp only; omega)) dX7_count_2 (fun v h_2 n_2 p_2 => ?_)
  obtain ⟨zv, rfl, rfl, rfl, hz⟩ := p_2
  try dsimp only [Option.toList, List.cons_append, List.nil_append]
  rcases hz with rfl | ⟨j, i, hj, hi, hrs, rfl⟩
  · try dsimp only [Option.toList, List.cons_append, List.nil_append]
    refine o_astore_nN hC dX7_count_5 (Nat.le_of_ble_eq_true rfl) ?_
    refine o_aload_nN hC dX7_count_6 (by rfl) ?_
    refine o_ifnonnullN hC dX7_count_7 ?_
    refine o_iconst (v := (-1 : Int32)) hC dX7_count_10 (by decide +kernel) ?_
    refine o_iret hC hB dX7_count_11 (Nat.le_of_ble_eq_true rfl) (Nat.le_of_ble_eq_true rfl) ?_
    exact ⟨_, rfl, rfl, rfl⟩
  · try dsimp only [Option.toList, List.cons_append, List.nil_append]
    obtain ⟨wd, sz, P, S, t1, ⟨tf, t2, t3⟩, t4, t5, t6, t7⟩ := c13 j (by omega)
    obtain ⟨e1, e2, e3⟩ := t5 i hi
    obtain ⟨w1, w2, w3, w4⟩ := id e3
    refine o_astore_n hC dX7_count_5 (Nat.le_of_ble_eq_true rfl) ?_
    refine o_aload_n hC dX7_count_6 (by rfl) ?_
    refine o_ifnonnull (tgt := 12) hC dX7_count_7 (by decide) ?_
    refine o_aload_n hC dX7_count_12 (by rfl) ?_
    refine o_getf hC (fX7_160 hC rfl) dX7_count_13 (by repeat (first | with_reducible assumption | (rw [rl_u_s]; done) | (rw [rl_u_s]; rfl) | rw [rl_u_n (by first | with_reducible assumption | omega)])) (by first | rfl | with_reducible assumption) ?_
    refine o_callV0 hC rl_BW_good rl_Ns_nw (by exact hB.2.2.2.2.2) YX6_rowsOfTerms IX6_rowsOfTerms VX6_rowsOfTerms (mX7_199 hC) (by rw [hB.1]; exact ct_X6_rowsOfTerms l D ids H0 _ _ (c.1 j + 1 + 2 + 5 * i + 2) _ _ _ e3) (by exact e3.1) rfl rfl (Nat.le_of_ble_eq_true rfl) (by rw [hB.2.1]; first | exact Nat.le_of_ble_eq_true rfl | (dsimp only; omega)) (by rw [hB.2.1]; first | exact Nat.le_of_ble_eq_true rfl | (dsimp only; omega)) (by rw [hB.2.1]; first | exact Nat.le_of_ble_eq_true rfl | (dsimp only; omega)) (by rw [hB.2.1]; first | exact Nat.le_of_ble_eq_true rfl | (dsimp only; omega)) dX7_count_16 (fun v h_16 n_16 p_16 => ?_)
    obtain ⟨rfl, rfl, rfl⟩ := p_16
    try dsimp only [Option.toList, List.cons_append, List.nil_append]
    refine o_callS1 hC rl_BW_good rl_Ns_nw (by exact hB.2.2.2.2.2) YJ13_bitCount_95d88 SJ13_bitCount_95d88 (mX7_203 hC) (by rw [hB.1]; exact ct_J13_bitCount_95d88 l D ids H0 _ _ _) (Nat.le_of_ble_eq_true rfl) (by rw [hB.2.1]; first | exact Nat.le_of_ble_eq_true rfl | (dsimp only; omega)) (by rw [hB.2.1]; first | exact Nat.le_of_ble_eq_true rfl | (dsimp only; omega)) (by rw [hB.2.1]; first | exact Nat.le_of_ble_eq_true rfl | (dsimp only; omega)) (by rw [hB.2.1]; first | exact Nat.le_of_ble_eq_true rfl | (dsimp only; omega)) dX7_count_19 (fun v h_19 n_19 p_19 => ?_)
    obtain ⟨rfl, rfl, rfl⟩ := p_19
    try dsimp only [Option.toList, List.cons_append, List.nil_append]
    refine o_istore_n hC dX7_count_22 (Nat.le_of_ble_eq_true rfl) ?_
    refine o_iload_n hC dX7_count_23 (by rfl) ?_
    refine o_bipush (v := nI 16) hC dX7_count_24 (by decide +kernel) ?_
    refine o_icmp_le (tgt := 32) hC dX7_count_26 (by decide) (fun c_26 => ?_) (fun c_26 => ?_)
    · refine o_iconst (v := nI 1) hC dX7_count_32 (by decide +kernel) ?_
      refine o_iload_n hC dX7_count_33 (by rfl) ?_
      refine o_ishl hC dX7_count_34 ?_
      refine o_aload_n hC dX7_count_35 (by rfl) ?_
      refine o_getf hC (fX7_160 hC rfl) dX7_count_36 (by repeat (first | with_reducible assumption | (rw [rl_u_s]; done) | (rw [rl_u_s]; rfl) | rw [rl_u_n (by first | with_reducible assumption | omega)])) (by first | rfl | with_reducible assumption) ?_
      refine o_iconst (v := nI 0) hC dX7_count_39 (by decide +kernel) ?_
      refine o_lconst (v := 0) hC dX7_count_40 (by decide +kernel) ?_
      refine o_lconst (v := 0) hC dX7_count_41 (by decide +kernel) ?_
      refine o_iload_n hC dX7_count_42 (by rfl) ?_
      refine o_callS5 hC rl_BW_good rl_Ns_nw (by exact hB.2.2.2.2.2) YX7_setsWithNone SX7_setsWithNone (mX7_208 hC) (by rw [hB.1]; exact ct_X7_setsWithNone l D ids H0 _ _ (c.1 j + 1 + 2 + 5 * i + 2) _ _ _ _ e3 _ 0 _ _ (Nat.zero_add _)) (Nat.le_of_ble_eq_true rfl) (by rw [hB.2.1]; first | exact Nat.le_of_ble_eq_true rfl | (dsimp only; omega)) (by rw [hB.2.1]; first | exact Nat.le_of_ble_eq_true rfl | (dsimp only; omega)) (by rw [hB.2.1]; first | exact Nat.le_of_ble_eq_true rfl | (dsimp only; omega)) (by rw [hB.2.1]; first | exact Nat.le_of_ble_eq_true rfl | (dsimp only; omega)) dX7_count_43 (fun v h_43 n_43 p_43 => ?_)
      obtain ⟨sw43, rfl, rfl, rfl⟩ := p_43
      try dsimp only [Option.toList, List.cons_append, List.nil_append]
      refine o_isub hC dX7_count_46 ?_
      refine o_iret hC hB dX7_count_47 (Nat.le_of_ble_eq_true rfl) (Nat.le_of_ble_eq_true rfl) ?_
      exact ⟨_, rfl, rfl, rfl⟩
    · refine o_bipush (v := (-4 : Int32)) hC dX7_count_29 (by decide +kernel) ?_
      refine o_iret hC hB dX7_count_31 (Nat.le_of_ble_eq_true rfl) (Nat.le_of_ble_eq_true rfl) ?_
      exact ⟨_, rfl, rfl, rfl⟩

set_option maxHeartbeats 4000000 in
set_option maxRecDepth 100000 in
theorem cg_X7_leastDropsToBreak (l : Launch) (D : va_G) (ids : Nat → ClassId) (H0 : Heap) (h : rl_H) (n : Nat) (x : Nat) (s : cl_S) (c : cl_N) (w k : Nat) (f g : Nat → Int64) (hc : cl_at ids h x s c) (hw : ws_at ids h w f g k) : rl_Met l (rl_e D ids H0) rl_BW rl_Ns yX7_leastDropsToBreak cX7_leastDropsToBreak 3 (some .int) ({ frames := 14, cells := 0, slots := 0, locals := 374 }) [.ref x, .ref w] h n (fun v h' n' => ∃ r : Int32, v = some (.int r) ∧ h' = h ∧ n' = n) := by
  obtain ⟨c1, c2, c3, ⟨pn, c4, c5⟩, ⟨pt, c6, c7⟩, c8, c9, c10, c11, c12, c13, c14, c15⟩ := id hc
  refine rl_Met.of (by decide +kernel) (Nat.le_of_ble_eq_true rfl) ?_
  intro X hC hB
  have loop : ∀ (m t : Nat), t + m = 13 → rl_G X (rl_e D ids H0) 2 [some (.ref x), some (.ref w), some (.int (nI t))] [] h n 0 0 := by
    intro m
    induction m with
    | zero =>
      intro t hm
      refine o_iload_n hC dX7_leastDropsToBreak_2 (by rfl) ?_
      refine o_bipush (v := nI 12) hC dX7_leastDropsToBreak_3 (by decide +kernel) ?_
      refine o_icmp_gt (tgt := 28) hC dX7_leastDropsToBreak_5 (by decide) (fun c_5 => ?_) (fun c_5 => ?_)
      · refine o_iconst (v := (-1 : Int32)) hC dX7_leastDropsToBreak_28 (by decide +kernel) ?_
        refine o_iret hC hB dX7_leastDropsToBreak_29 (Nat.le_of_ble_eq_true rfl) (Nat.le_of_ble_eq_true rfl) ?_
        exact ⟨_, rfl, rfl, rfl⟩
      · exact absurd (nI_lt (by omega) (by omega)) c_5
    | succ m ih =>
      intro t hm
      refine o_iload_n hC dX7_leastDropsToBreak_2 (by rfl) ?_
      refine o_bipush (v := nI 12) hC dX7_leastDropsToBreak_3 (by decide +kernel) ?_
      refine o_icmp_gt (tgt := 28) hC dX7_leastDropsToBreak_5 (by decide) (fun c_5 => ?_) (fun c_5 => ?_)
      · exact absurd c_5 (nI_nlt (by omega) (by omega))
      · refine o_aload_n hC dX7_leastDropsToBreak_8 (by rfl) ?_
        refine o_aload_n hC dX7_leastDropsToBreak_9 (by rfl) ?_
        refine o_getf hC (fX7_71 hC rfl) dX7_leastDropsToBreak_10 (by repeat (first | with_reducible assumption | (rw [rl_u_s]; done) | (rw [rl_u_s]; rfl) | rw [rl_u_n (by first | with_reducible assumption | omega)])) (by first | rfl | with_reducible assumption) ?_
        refine o_iload_n hC dX7_leastDropsToBreak_13 (by rfl) ?_
        refine o_callS3 hC rl_BW_good rl_Ns_nw (by exact hB.2.2.2.2.2) YX7_canBreak SX7_canBreak (mX7_255 hC) (by rw [hB.1]; exact ct_X7_canBreak l D ids H0 _ _ w k f g hw t _ (by omega)) (Nat.le_of_ble_eq_true rfl) (by rw [hB.2.1]; first | exact Nat.le_of_ble_eq_true rfl | (dsimp only; omega)) (by rw [hB.2.1]; first | exact Nat.le_of_ble_eq_true rfl | (dsimp only; omega)) (by rw [hB.2.1]; first | exact Nat.le_of_ble_eq_true rfl | (dsimp only; omega)) (by rw [hB.2.1]; first | exact Nat.le_of_ble_eq_true rfl | (dsimp only; omega)) dX7_leastDropsToBreak_14 (fun v h_14 n_14 p_14 => ?_)
        obtain ⟨cb, rfl, rfl, rfl, -⟩ := p_14
        try dsimp only [Option.toList, List.cons_append, List.nil_append]
        refine o_if_eq (tgt := 22) hC dX7_leastDropsToBreak_17 (by decide) (fun c_17 => ?_) (fun c_17 => ?_)
        · refine o_iinc hC dX7_leastDropsToBreak_22 (by rfl) (rl_inc _) (Nat.le_of_ble_eq_true rfl) ?_
          refine o_goto (tgt := 2) hC dX7_leastDropsToBreak_25 (by decide) ?_
          exact ih (t + 1) (by omega)
        · refine o_iload_n hC dX7_leastDropsToBreak_20 (by rfl) ?_
          refine o_iret hC hB dX7_leastDropsToBreak_21 (Nat.le_of_ble_eq_true rfl) (Nat.le_of_ble_eq_true rfl) ?_
          exact ⟨_, rfl, rfl, rfl⟩
  show rl_G X (rl_e D ids H0) 0 [some (.ref x), some (.ref w), none] [] h n 0 0
  refine o_iconst (v := nI 0) hC dX7_leastDropsToBreak_0 (by decide +kernel) ?_
  refine o_istore_n hC dX7_leastDropsToBreak_1 (Nat.le_of_ble_eq_true rfl) ?_
  exact loop 13 0 (by omega)

set_option maxHeartbeats 4000000 in
set_option maxRecDepth 100000 in
theorem cg_X7_blame (l : Launch) (D : va_G) (ids : Nat → ClassId) (H0 : Heap) (h : rl_H) (n : Nat) (x : Nat) (s : cl_S) (c : cl_N) (q : Int32) (hc : cl_at ids h x s c) : rl_Met l (rl_e D ids H0) rl_BW rl_Ns yX7_blame cX7_blame 5 (some .int) ({ frames := 15, cells := 0, slots := 0, locals := 396 }) [.ref x, .int q] h n (fun v h' n' => ∃ r : Int32, v = some (.int r) ∧ h' = h ∧ n' = n) := by
  obtain ⟨c1, c2, c3, ⟨pn, c4, c5⟩, ⟨pt, c6, c7⟩, c8, c9, c10, c11, c12, c13, c14, c15⟩ := id hc
  refine rl_Met.of (by decide +kernel) (Nat.le_of_ble_eq_true rfl) ?_
  intro X hC hB
  show rl_G X (rl_e D ids H0) 0 [some (.ref x), some (.int q), none, none, none] [] h n 0 0
  refine o_aload_n hC dX7_blame_0 (by rfl) ?_
  refine o_iload_n hC dX7_blame_1 (by rfl) ?_
  refine o_callV1 hC rl_BW_good rl_Ns_nw (by exact hB.2.2.2.2.2) YX7_resultTuple IX7_resultTuple VX7_resultTuple (mX7_141 hC) (by rw [hB.1]; exact cg_X7_resultTuple l D ids H0 _ _ x s c _ hc) (by exact c1) rfl rfl (Nat.le_of_ble_eq_true rfl) (by rw [hB.2.1]; first | exact Nat.le_of_ble_eq_true rfl | (dsimp only; omega)) (by rw [hB.2.1]; first | exact Nat.le_of_ble_eq_true rfl | (dsimp only; omega)) (by rw [hB.2.1]; first | exact Nat.le_of_ble_eq_true rfl | (dsimp only; omega)) (by rw [hB.2.1]; first | exact Nat.le_of_ble_eq_true rfl | (dsimp only; omega)) dX7_blame_2 (fun v h_2 n_2 p_2 => ?_)
  obtain ⟨zv, rfl, rfl, rfl, hz⟩ := p_2
  try dsimp only [Option.toList, List.cons_append, List.nil_append]
  rcases hz with rfl | ⟨j, i, hj, hi, hrs, rfl⟩
  · try dsimp only [Option.toList, List.cons_append, List.nil_append]
    refine o_astore_nN hC dX7_blame_5 (Nat.le_of_ble_eq_true rfl) ?_
    refine o_aload_nN hC dX7_blame_6 (by rfl) ?_
    refine o_ifnonnullN hC dX7_blame_7 ?_
    refine o_iconst (v := (-1 : Int32)) hC dX7_blame_10 (by decide +kernel) ?_
    refine o_iret hC hB dX7_blame_11 (Nat.le_of_ble_eq_true rfl) (Nat.le_of_ble_eq_true rfl) ?_
    exact ⟨_, rfl, rfl, rfl⟩
  · try dsimp only [Option.toList, List.cons_append, List.nil_append]
    obtain ⟨wd, sz, P, S, t1, ⟨tf, t2, t3⟩, t4, t5, t6, t7⟩ := c13 j (by omega)
    obtain ⟨e1, e2, e3⟩ := t5 i hi
    obtain ⟨w1, w2, w3, w4⟩ := id e3
    refine o_astore_n hC dX7_blame_5 (Nat.le_of_ble_eq_true rfl) ?_
    refine o_aload_n hC dX7_blame_6 (by rfl) ?_
    refine o_ifnonnull (tgt := 12) hC dX7_blame_7 (by decide) ?_
    refine o_aload_n hC dX7_blame_12 (by rfl) ?_
    refine o_getf hC (fX7_160 hC rfl) dX7_blame_13 (by repeat (first | with_reducible assumption | (rw [rl_u_s]; done) | (rw [rl_u_s]; rfl) | rw [rl_u_n (by first | with_reducible assumption | omega)])) (by first | rfl | with_reducible assumption) ?_
    refine o_aload_n hC dX7_blame_16 (by rfl) ?_
    refine o_getf hC (fX7_71 hC rfl) dX7_blame_17 (by repeat (first | with_reducible assumption | (rw [rl_u_s]; done) | (rw [rl_u_s]; rfl) | rw [rl_u_n (by first | with_reducible assumption | omega)])) (by first | rfl | with_reducible assumption) ?_
    refine o_callV1 hC rl_BW_good rl_Ns_nw (by exact hB.2.2.2.2.2) YX6_holdsWith IX6_holdsWith VX6_holdsWith (mX7_183 hC) (by rw [hB.1]; exact ct_X6_holdsWith l D ids H0 _ _ (c.1 j + 1 + 2 + 5 * i + 2) _ _ _ _ e3) (by exact e3.1) rfl rfl (Nat.le_of_ble_eq_true rfl) (by rw [hB.2.1]; first | exact Nat.le_of_ble_eq_true rfl | (dsimp only; omega)) (by rw [hB.2.1]; first | exact Nat.le_of_ble_eq_true rfl | (dsimp only; omega)) (by rw [hB.2.1]; first | exact Nat.le_of_ble_eq_true rfl | (dsimp only; omega)) (by rw [hB.2.1]; first | exact Nat.le_of_ble_eq_true rfl | (dsimp only; omega)) dX7_blame_20 (fun v h_20 n_20 p_20 => ?_)
    obtain ⟨rfl, rfl, rfl⟩ := p_20
    try dsimp only [Option.toList, List.cons_append, List.nil_append]
    refine o_istore_n hC dX7_blame_23 (Nat.le_of_ble_eq_true rfl) ?_
    refine o_iload_n hC dX7_blame_24 (by rfl) ?_
    refine o_if_eq (tgt := 32) hC dX7_blame_25 (by decide) (fun c_25 => ?_) (fun c_25 => ?_)
    · refine o_aload_n hC dX7_blame_32 (by rfl) ?_
      refine o_getf hC (fX7_160 hC rfl) dX7_blame_33 (by repeat (first | with_reducible assumption | (rw [rl_u_s]; done) | (rw [rl_u_s]; rfl) | rw [rl_u_n (by first | with_reducible assumption | omega)])) (by first | rfl | with_reducible assumption) ?_
      refine o_aload_n hC dX7_blame_36 (by rfl) ?_
      refine o_getf hC (fX7_71 hC rfl) dX7_blame_37 (by repeat (first | with_reducible assumption | (rw [rl_u_s]; done) | (rw [rl_u_s]; rfl) | rw [rl_u_n (by first | with_reducible assumption | omega)])) (by first | rfl | with_reducible assumption) ?_
      refine o_callV1 hC rl_BW_good rl_Ns_nw (by exact hB.2.2.2.2.2) YX6_leastDropsToHold IX6_leastDropsToHold VX6_leastDropsToHold (mX7_216 hC) (by rw [hB.1]; exact ct_X6_leastDropsToHold l D ids H0 _ _ (c.1 j + 1 + 2 + 5 * i + 2) _ _ _ _ e3) (by exact e3.1) rfl rfl (Nat.le_of_ble_eq_true rfl) (by rw [hB.2.1]; first | exact Nat.le_of_ble_eq_true rfl | (dsimp only; omega)) (by rw [hB.2.1]; first | exact Nat.le_of_ble_eq_true rfl | (dsimp only; omega)) (by rw [hB.2.1]; first | exact Nat.le_of_ble_eq_true rfl | (dsimp only; omega)) (by rw [hB.2.1]; first | exact Nat.le_of_ble_eq_true rfl | (dsimp only; omega)) dX7_blame_40 (fun v h_40 n_40 p_40 => ?_)
      obtain ⟨ld, rfl, rfl, rfl⟩ := p_40
      try dsimp only [Option.toList, List.cons_append, List.nil_append]
      refine o_istore hC dX7_blame_43 (Nat.le_of_ble_eq_true rfl) ?_
      refine o_iload hC dX7_blame_45 (by rfl) ?_
      refine o_iconst (v := (-1 : Int32)) hC dX7_blame_47 (by decide +kernel) ?_
      refine o_icmp_ne (tgt := 53) hC dX7_blame_48 (by decide) (fun c_48 => ?_) (fun c_48 => ?_)
      · refine o_aload_n hC dX7_blame_53 (by rfl) ?_
        refine o_getf hC (fX7_160 hC rfl) dX7_blame_54 (by repeat (first | with_reducible assumption | (rw [rl_u_s]; done) | (rw [rl_u_s]; rfl) | rw [rl_u_n (by first | with_reducible assumption | omega)])) (by first | rfl | with_reducible assumption) ?_
        refine o_callV0 hC rl_BW_good rl_Ns_nw (by exact hB.2.2.2.2.2) YX6_rowsOfTerms IX6_rowsOfTerms VX6_rowsOfTerms (mX7_199 hC) (by rw [hB.1]; exact ct_X6_rowsOfTerms l D ids H0 _ _ (c.1 j + 1 + 2 + 5 * i + 2) _ _ _ e3) (by exact e3.1) rfl rfl (Nat.le_of_ble_eq_true rfl) (by rw [hB.2.1]; first | exact Nat.le_of_ble_eq_true rfl | (dsimp only; omega)) (by rw [hB.2.1]; first | exact Nat.le_of_ble_eq_true rfl | (dsimp only; omega)) (by rw [hB.2.1]; first | exact Nat.le_of_ble_eq_true rfl | (dsimp only; omega)) (by rw [hB.2.1]; first | exact Nat.le_of_ble_eq_true rfl | (dsimp only; omega)) dX7_blame_57 (fun v h_57 n_57 p_57 => ?_)
        obtain ⟨rfl, rfl, rfl⟩ := p_57
        try dsimp only [Option.toList, List.cons_append, List.nil_append]
        refine o_callS1 hC rl_BW_good rl_Ns_nw (by exact hB.2.2.2.2.2) YJ13_bitCount_95d88 SJ13_bitCount_95d88 (mX7_203 hC) (by rw [hB.1]; exact ct_J13_bitCount_95d88 l D ids H0 _ _ _) (Nat.le_of_ble_eq_true rfl) (by rw [hB.2.1]; first | exact Nat.le_of_ble_eq_true rfl | (dsimp only; omega)) (by rw [hB.2.1]; first | exact Nat.le_of_ble_eq_true rfl | (dsimp only; omega)) (by rw [hB.2.1]; first | exact Nat.le_of_ble_eq_true rfl | (dsimp only; omega)) (by rw [hB.2.1]; first | exact Nat.le_of_ble_eq_true rfl | (dsimp only; omega)) dX7_blame_60 (fun v h_60 n_60 p_60 => ?_)
        obtain ⟨rfl, rfl, rfl⟩ := p_60
        try dsimp only [Option.toList, List.cons_append, List.nil_append]
        refine o_bipush (v := nI 16) hC dX7_blame_63 (by decide +kernel) ?_
        refine o_icmp_le (tgt := 71) hC dX7_blame_65 (by decide) (fun c_65 => ?_) (fun c_65 => ?_)
        · refine o_iload_n hC dX7_blame_71 (by rfl) ?_
          refine o_if_eq (tgt := 86) hC dX7_blame_72 (by decide) (fun c_72 => ?_) (fun c_72 => ?_)
          · refine o_iload hC dX7_blame_86 (by rfl) ?_
            refine o_iret hC hB dX7_blame_88 (Nat.le_of_ble_eq_true rfl) (Nat.le_of_ble_eq_true rfl) ?_
            exact ⟨_, rfl, rfl, rfl⟩
          · refine o_aload_n hC dX7_blame_75 (by rfl) ?_
            refine o_aload_n hC dX7_blame_76 (by rfl) ?_
            refine o_getf hC (fX7_160 hC rfl) dX7_blame_77 (by repeat (first | with_reducible assumption | (rw [rl_u_s]; done) | (rw [rl_u_s]; rfl) | rw [rl_u_n (by first | with_reducible assumption | omega)])) (by first | rfl | with_reducible assumption) ?_
            refine o_callV1 hC rl_BW_good rl_Ns_nw (by exact hB.2.2.2.2.2) YX7_leastDropsToBreak IX7_leastDropsToBreak VX7_leastDropsToBreak (mX7_219 hC) (by rw [hB.1]; exact cg_X7_leastDropsToBreak l D ids H0 _ _ x s c (c.1 j + 1 + 2 + 5 * i + 2) _ _ _ hc e3) (by exact c1) rfl rfl (Nat.le_of_ble_eq_true rfl) (by rw [hB.2.1]; first | exact Nat.le_of_ble_eq_true rfl | (dsimp only; omega)) (by rw [hB.2.1]; first | exact Nat.le_of_ble_eq_true rfl | (dsimp only; omega)) (by rw [hB.2.1]; first | exact Nat.le_of_ble_eq_true rfl | (dsimp only; omega)) (by rw [hB.2.1]; first | exact Nat.le_of_ble_eq_true rfl | (dsimp only; omega)) dX7_blame_80 (fun v h_80 n_80 p_80 => ?_)
            obtain ⟨lb, rfl, rfl, rfl⟩ := p_80
            try dsimp only [Option.toList, List.cons_append, List.nil_append]
            refine o_goto (tgt := 88) hC dX7_blame_83 (by decide) ?_
            refine o_iret hC hB dX7_blame_88 (Nat.le_of_ble_eq_true rfl) (Nat.le_of_ble_eq_true rfl) ?_
            exact ⟨_, rfl, rfl, rfl⟩
        · refine o_bipush (v := (-4 : Int32)) hC dX7_blame_68 (by decide +kernel) ?_
          refine o_iret hC hB dX7_blame_70 (Nat.le_of_ble_eq_true rfl) (Nat.le_of_ble_eq_true rfl) ?_
          exact ⟨_, rfl, rfl, rfl⟩
      · refine o_iconst (v := (-1 : Int32)) hC dX7_blame_51 (by decide +kernel) ?_
        refine o_iret hC hB dX7_blame_52 (Nat.le_of_ble_eq_true rfl) (Nat.le_of_ble_eq_true rfl) ?_
        exact ⟨_, rfl, rfl, rfl⟩
    · refine o_iconst (v := nI 0) hC dX7_blame_28 (by decide +kernel) ?_
      refine o_goto (tgt := 43) hC dX7_blame_29 (by decide) ?_
      refine o_istore hC dX7_blame_43 (Nat.le_of_ble_eq_true rfl) ?_
      refine o_iload hC dX7_blame_45 (by rfl) ?_
      refine o_iconst (v := (-1 : Int32)) hC dX7_blame_47 (by decide +kernel) ?_
      refine o_icmp_ne (tgt := 53) hC dX7_blame_48 (by decide) (fun c_48 => ?_) (fun c_48 => ?_)
      · refine o_aload_n hC dX7_blame_53 (by rfl) ?_
        refine o_getf hC (fX7_160 hC rfl) dX7_blame_54 (by repeat (first | with_reducible assumption | (rw [rl_u_s]; done) | (rw [rl_u_s]; rfl) | rw [rl_u_n (by first | with_reducible assumption | omega)])) (by first | rfl | with_reducible assumption) ?_
        refine o_callV0 hC rl_BW_good rl_Ns_nw (by exact hB.2.2.2.2.2) YX6_rowsOfTerms IX6_rowsOfTerms VX6_rowsOfTerms (mX7_199 hC) (by rw [hB.1]; exact ct_X6_rowsOfTerms l D ids H0 _ _ (c.1 j + 1 + 2 + 5 * i + 2) _ _ _ e3) (by exact e3.1) rfl rfl (Nat.le_of_ble_eq_true rfl) (by rw [hB.2.1]; first | exact Nat.le_of_ble_eq_true rfl | (dsimp only; omega)) (by rw [hB.2.1]; first | exact Nat.le_of_ble_eq_true rfl | (dsimp only; omega)) (by rw [hB.2.1]; first | exact Nat.le_of_ble_eq_true rfl | (dsimp only; omega)) (by rw [hB.2.1]; first | exact Nat.le_of_ble_eq_true rfl | (dsimp only; omega)) dX7_blame_57 (fun v h_57 n_57 p_57 => ?_)
        obtain ⟨rfl, rfl, rfl⟩ := p_57
        try dsimp only [Option.toList, List.cons_append, List.nil_append]
        refine o_callS1 hC rl_BW_good rl_Ns_nw (by exact hB.2.2.2.2.2) YJ13_bitCount_95d88 SJ13_bitCount_95d88 (mX7_203 hC) (by rw [hB.1]; exact ct_J13_bitCount_95d88 l D ids H0 _ _ _) (Nat.le_of_ble_eq_true rfl) (by rw [hB.2.1]; first | exact Nat.le_of_ble_eq_true rfl | (dsimp only; omega)) (by rw [hB.2.1]; first | exact Nat.le_of_ble_eq_true rfl | (dsimp only; omega)) (by rw [hB.2.1]; first | exact Nat.le_of_ble_eq_true rfl | (dsimp only; omega)) (by rw [hB.2.1]; first | exact Nat.le_of_ble_eq_true rfl | (dsimp only; omega)) dX7_blame_60 (fun v h_60 n_60 p_60 => ?_)
        obtain ⟨rfl, rfl, rfl⟩ := p_60
        try dsimp only [Option.toList, List.cons_append, List.nil_append]
        refine o_bipush (v := nI 16) hC dX7_blame_63 (by decide +kernel) ?_
        refine o_icmp_le (tgt := 71) hC dX7_blame_65 (by decide) (fun c_65 => ?_) (fun c_65 => ?_)
        · refine o_iload_n hC dX7_blame_71 (by rfl) ?_
          refine o_if_eq (tgt := 86) hC dX7_blame_72 (by decide) (fun c_72 => ?_) (fun c_72 => ?_)
          · refine o_iload hC dX7_blame_86 (by rfl) ?_
            refine o_iret hC hB dX7_blame_88 (Nat.le_of_ble_eq_true rfl) (Nat.le_of_ble_eq_true rfl) ?_
            exact ⟨_, rfl, rfl, rfl⟩
          · refine o_aload_n hC dX7_blame_75 (by rfl) ?_
            refine o_aload_n hC dX7_blame_76 (by rfl) ?_
            refine o_getf hC (fX7_160 hC rfl) dX7_blame_77 (by repeat (first | with_reducible assumption | (rw [rl_u_s]; done) | (rw [rl_u_s]; rfl) | rw [rl_u_n (by first | with_reducible assumption | omega)])) (by first | rfl | with_reducible assumption) ?_
            refine o_callV1 hC rl_BW_good rl_Ns_nw (by exact hB.2.2.2.2.2) YX7_leastDropsToBreak IX7_leastDropsToBreak VX7_leastDropsToBreak (mX7_219 hC) (by rw [hB.1]; exact cg_X7_leastDropsToBreak l D ids H0 _ _ x s c (c.1 j + 1 + 2 + 5 * i + 2) _ _ _ hc e3) (by exact c1) rfl rfl (Nat.le_of_ble_eq_true rfl) (by rw [hB.2.1]; first | exact Nat.le_of_ble_eq_true rfl | (dsimp only; omega)) (by rw [hB.2.1]; first | exact Nat.le_of_ble_eq_true rfl | (dsimp only; omega)) (by rw [hB.2.1]; first | exact Nat.le_of_ble_eq_true rfl | (dsimp only; omega)) (by rw [hB.2.1]; first | exact Nat.le_of_ble_eq_true rfl | (dsimp only; omega)) dX7_blame_80 (fun v h_80 n_80 p_80 => ?_)
            obtain ⟨lb, rfl, rfl, rfl⟩ := p_80
            try dsimp only [Option.toList, List.cons_append, List.nil_append]
            refine o_goto (tgt := 88) hC dX7_blame_83 (by decide) ?_
            refine o_iret hC hB dX7_blame_88 (Nat.le_of_ble_eq_true rfl) (Nat.le_of_ble_eq_true rfl) ?_
            exact ⟨_, rfl, rfl, rfl⟩
        · refine o_bipush (v := (-4 : Int32)) hC dX7_blame_68 (by decide +kernel) ?_
          refine o_iret hC hB dX7_blame_70 (Nat.le_of_ble_eq_true rfl) (Nat.le_of_ble_eq_true rfl) ?_
          exact ⟨_, rfl, rfl, rfl⟩
      · refine o_iconst (v := (-1 : Int32)) hC dX7_blame_51 (by decide +kernel) ?_
        refine o_iret hC hB dX7_blame_52 (Nat.le_of_ble_eq_true rfl) (Nat.le_of_ble_eq_true rfl) ?_
        exact ⟨_, rfl, rfl, rfl⟩

set_option maxHeartbeats 4000000 in
set_option maxRecDepth 100000 in
theorem cg_X7_forward (l : Launch) (D : va_G) (ids : Nat → ClassId) (H0 : Heap) (h : rl_H) (n : Nat) (x : Nat) (s : cl_S) (c : cl_N) (q : Int32) (hc : cl_at ids h x s c) : rl_Met l (rl_e D ids H0) rl_BW rl_Ns yX7_forward cX7_forward 6 (some .int) ({ frames := 2, cells := 0, slots := 0, locals := 45 }) [.ref x, .int q] h n (fun v h' n' => ∃ r : Int32, v = some (.int r) ∧ h' = h ∧ n' = n) := by
  obtain ⟨c1, c2, c3, ⟨pn, c4, c5⟩, ⟨pt, c6, c7⟩, c8, c9, c10, c11, c12, c13, c14, c15⟩ := id hc
  refine rl_Met.of (by decide +kernel) (Nat.le_of_ble_eq_true rfl) ?_
  intro X hC hB
  show rl_G X (rl_e D ids H0) 0 [some (.ref x), some (.int q), none, none, none, none] [] h n 0 0
  refine o_aload_n hC dX7_forward_0 (by rfl) ?_
  refine o_getf hC (fX7_10 hC rfl) dX7_forward_1 (by repeat (first | with_reducible assumption | (rw [rl_u_s]; done) | (rw [rl_u_s]; rfl) | rw [rl_u_n (by first | with_reducible assumption | omega)])) (by first | rfl | with_reducible assumption) ?_
  refine o_iload_n hC dX7_forward_4 (by rfl) ?_
  refine o_callV1 hC rl_BW_good rl_Ns_nw (by exact hB.2.2.2.2.2) YX3_isRow IX3_isRow VX3_isRow (mX7_178 hC) (by rw [hB.1]; exact ct_X3_isRow l D ids H0 _ _ (x + 1) _ _ _ _ _ _ c2) (by exact c2.1) rfl rfl (Nat.le_of_ble_eq_true rfl) (by rw [hB.2.1]; first | exact Nat.le_of_ble_eq_true rfl | (dsimp only; omega)) (by rw [hB.2.1]; first | exact Nat.le_of_ble_eq_true rfl | (dsimp only; omega)) (by rw [hB.2.1]; first | exact Nat.le_of_ble_eq_true rfl | (dsimp only; omega)) (by rw [hB.2.1]; first | exact Nat.le_of_ble_eq_true rfl | (dsimp only; omega)) dX7_forward_5 (fun v h_5 n_5 p_5 => ?_)
  obtain ⟨rfl, rfl, rfl⟩ := p_5
  try dsimp only [Option.toList, List.cons_append, List.nil_append]
  by_cases hr : q < 0 ∨ nI s.2.2.2.2 ≤ q
  · rw [if_pos hr]
    refine o_if_ne (tgt := 13) hC dX7_forward_8 (by decide) (fun c_8 => ?_) (fun c_8 => ?_)
    · exact absurd rfl c_8
    · refine o_iconst (v := (-1 : Int32)) hC dX7_forward_11 (by decide +kernel) ?_
      refine o_iret hC hB dX7_forward_12 (Nat.le_of_ble_eq_true rfl) (Nat.le_of_ble_eq_true rfl) ?_
      exact ⟨_, rfl, rfl, rfl⟩
  · rw [if_neg hr]
    refine o_if_ne (tgt := 13) hC dX7_forward_8 (by decide) (fun c_8 => ?_) (fun c_8 => ?_)
    · refine o_aload_n hC dX7_forward_13 (by rfl) ?_
      refine o_aload_n hC dX7_forward_14 (by rfl) ?_
      refine o_getf hC (fX7_49 hC rfl) dX7_forward_15 (by repeat (first | with_reducible assumption | (rw [rl_u_s]; done) | (rw [rl_u_s]; rfl) | rw [rl_u_n (by first | with_reducible assumption | omega)])) (by first | rfl | with_reducible assumption) ?_
      refine o_callV1 hC rl_BW_good rl_Ns_nw (by exact hB.2.2.2.2.2) YX7_tableOf IX7_tableOf VX7_tableOf (mX7_127 hC) (by rw [hB.1]; exact cg_X7_tableOf l D ids H0 _ _ x s c _ hc) (by exact c1) rfl rfl (Nat.le_of_ble_eq_true rfl) (by rw [hB.2.1]; first | exact Nat.le_of_ble_eq_true rfl | (dsimp only; omega)) (by rw [hB.2.1]; first | exact Nat.le_of_ble_eq_true rfl | (dsimp only; omega)) (by rw [hB.2.1]; first | exact Nat.le_of_ble_eq_true rfl | (dsimp only; omega)) (by rw [hB.2.1]; first | exact Nat.le_of_ble_eq_true rfl | (dsimp only; omega)) dX7_forward_18 (fun v h_18 n_18 p_18 => ?_)
      obtain ⟨z18, rfl, rfl, rfl, hz⟩ := p_18
      try dsimp only [Option.toList, List.cons_append, List.nil_append]
      rcases hz with ⟨rfl, -⟩ | ⟨j, hj, e, rfl⟩
      · try dsimp only [Option.toList, List.cons_append, List.nil_append]
        refine o_astore_n hC dX7_forward_21 (Nat.le_of_ble_eq_true rfl) ?_
        refine o_iconst (v := nI 0) hC dX7_forward_22 (by decide +kernel) ?_
        refine o_istore_n hC dX7_forward_23 (Nat.le_of_ble_eq_true rfl) ?_
        refine o_iconst (v := nI 0) hC dX7_forward_24 (by decide +kernel) ?_
        refine o_istore hC dX7_forward_25 (Nat.le_of_ble_eq_true rfl) ?_
        refine o_iload hC dX7_forward_27 (by rfl) ?_
        refine o_aload_n hC dX7_forward_29 (by rfl) ?_
        refine o_getf hC (fX7_138 hC rfl) dX7_forward_30 (by repeat (first | with_reducible assumption | (rw [rl_u_s]; done) | (rw [rl_u_s]; rfl) | rw [rl_u_n (by first | with_reducible assumption | omega)])) (by first | rfl | with_reducible assumption) ?_
        refine o_icmp_ge (tgt := 82) hC dX7_forward_33 (by decide) (fun c_33 => ?_) (fun c_33 => ?_)
        · refine o_iload_n hC dX7_forward_82 (by rfl) ?_
          refine o_iret hC hB dX7_forward_83 (Nat.le_of_ble_eq_true rfl) (Nat.le_of_ble_eq_true rfl) ?_
          exact ⟨_, rfl, rfl, rfl⟩
        · exact absurd (nI_le (Nat.le_refl _) (by decide)) c_33
      · try dsimp only [Option.toList, List.cons_append, List.nil_append]
        obtain ⟨wd, sz, P, S, t1, ⟨tf, t2, t3⟩, t4, t5, t6, t7⟩ := c13 j (by omega)
        have loop : ∀ (m t : Nat) (ch : Int32) (o5 : Option Value), t + m = sz → rl_G X (rl_e D ids H0) 27 [some (.ref x), some (.int q), some (.ref (c.1 j + 1)), some (.int ch), some (.int (nI t)), o5] [] h_18 n_18 0 0 := by
          intro m
          induction m with
          | zero =>
            intro t ch o5 hm
            refine o_iload hC dX7_forward_27 (by rfl) ?_
            refine o_aload_n hC dX7_forward_29 (by rfl) ?_
            refine o_getf hC (fX7_138 hC rfl) dX7_forward_30 (by repeat (first | with_reducible assumption | (rw [rl_u_s]; done) | (rw [rl_u_s]; rfl) | rw [rl_u_n (by first | with_reducible assumption | omega)])) (by first | rfl | with_reducible assumption) ?_
            refine o_icmp_ge (tgt := 82) hC dX7_forward_33 (by decide) (fun c_33 => ?_) (fun c_33 => ?_)
            · refine o_iload_n hC dX7_forward_82 (by rfl) ?_
              refine o_iret hC hB dX7_forward_83 (Nat.le_of_ble_eq_true rfl) (Nat.le_of_ble_eq_true rfl) ?_
              exact ⟨_, rfl, rfl, rfl⟩
            · exact absurd (nI_le (by omega) (by omega)) c_33
          | succ m ih =>
            intro t ch o5 hm
            have hb := t4 t (by omega)
            obtain ⟨e1, e2, e3⟩ := t5 (P t) hb
            refine o_iload hC dX7_forward_27 (by rfl) ?_
            refine o_aload_n hC dX7_forward_29 (by rfl) ?_
            refine o_getf hC (fX7_138 hC rfl) dX7_forward_30 (by repeat (first | with_reducible assumption | (rw [rl_u_s]; done) | (rw [rl_u_s]; rfl) | rw [rl_u_n (by first | with_reducible assumption | omega)])) (by first | rfl | with_reducible assumption) ?_
            refine o_icmp_ge (tgt := 82) hC dX7_forward_33 (by decide) (fun c_33 => ?_) (fun c_33 => ?_)
            · exact absurd c_33 (nI_ge (by omega) (by omega))
            · refine o_aload_n hC dX7_forward_36 (by rfl) ?_
              refine o_getf hC (fX7_195 hC rfl) dX7_forward_37 (by repeat (first | with_reducible assumption | (rw [rl_u_s]; done) | (rw [rl_u_s]; rfl) | rw [rl_u_n (by first | with_reducible assumption | omega)])) (by first | rfl | with_reducible assumption) ?_
              refine o_iload hC dX7_forward_40 (by rfl) ?_
              refine o_aaldN (t0 := 3) (k := t) hC rfl dX7_forward_42 t2 (by omega) (by decide) ?_
              rw [t3 _ (by omega)]
              show rl_G X _ _ _ (.ref _ :: _) _ _ _ _
              refine o_getf hC (fX7_160 hC rfl) dX7_forward_43 (by repeat (first | with_reducible assumption | (rw [rl_u_s]; done) | (rw [rl_u_s]; rfl) | rw [rl_u_n (by first | with_reducible assumption | omega)])) (by first | rfl | with_reducible assumption) ?_
              refine o_astore hC dX7_forward_46 (Nat.le_of_ble_eq_true rfl) ?_
              refine o_aload hC dX7_forward_48 (by rfl) ?_
              refine o_aload_n hC dX7_forward_50 (by rfl) ?_
              refine o_getf hC (fX7_71 hC rfl) dX7_forward_51 (by repeat (first | with_reducible assumption | (rw [rl_u_s]; done) | (rw [rl_u_s]; rfl) | rw [rl_u_n (by first | with_reducible assumption | omega)])) (by first | rfl | with_reducible assumption) ?_
              refine o_callV1 hC rl_BW_good rl_Ns_nw (by exact hB.2.2.2.2.2) YX6_holdsWith IX6_holdsWith VX6_holdsWith (mX7_183 hC) (by rw [hB.1]; exact ct_X6_holdsWith l D ids H0 _ _ (c.1 j + 1 + 2 + 5 * P t + 2) _ _ _ _ e3) (by exact e3.1) rfl rfl (Nat.le_of_ble_eq_true rfl) (by rw [hB.2.1]; first | exact Nat.le_of_ble_eq_true rfl | (dsimp only; omega)) (by rw [hB.2.1]; first | exact Nat.le_of_ble_eq_true rfl | (dsimp only; omega)) (by rw [hB.2.1]; first | exact Nat.le_of_ble_eq_true rfl | (dsimp only; omega)) (by rw [hB.2.1]; first | exact Nat.le_of_ble_eq_true rfl | (dsimp only; omega)) dX7_forward_54 (fun v h_54 n_54 p_54 => ?_)
              obtain ⟨rfl, rfl, rfl⟩ := p_54
              try dsimp only [Option.toList, List.cons_append, List.nil_append]
              refine o_aload hC dX7_forward_57 (by rfl) ?_
              refine o_aload_n hC dX7_forward_59 (by rfl) ?_
              refine o_getf hC (fX7_71 hC rfl) dX7_forward_60 (by repeat (first | with_reducible assumption | (rw [rl_u_s]; done) | (rw [rl_u_s]; rfl) | rw [rl_u_n (by first | with_reducible assumption | omega)])) (by first | rfl | with_reducible assumption) ?_
              refine o_lconst (v := 1) hC dX7_forward_63 (by decide +kernel) ?_
              refine o_iload_n hC dX7_forward_64 (by rfl) ?_
              refine o_lshl hC dX7_forward_65 ?_
              refine o_lxor hC dX7_forward_66 ?_
              refine o_callV1 hC rl_BW_good rl_Ns_nw (by exact hB.2.2.2.2.2) YX6_holdsWith IX6_holdsWith VX6_holdsWith (mX7_183 hC) (by rw [hB.1]; exact ct_X6_holdsWith l D ids H0 _ _ (c.1 j + 1 + 2 + 5 * P t + 2) _ _ _ _ e3) (by exact e3.1) rfl rfl (Nat.le_of_ble_eq_true rfl) (by rw [hB.2.1]; first | exact Nat.le_of_ble_eq_true rfl | (dsimp only; omega)) (by rw [hB.2.1]; first | exact Nat.le_of_ble_eq_true rfl | (dsimp only; omega)) (by rw [hB.2.1]; first | exact Nat.le_of_ble_eq_true rfl | (dsimp only; omega)) (by rw [hB.2.1]; first | exact Nat.le_of_ble_eq_true rfl | (dsimp only; omega)) dX7_forward_67 (fun v h_67 n_67 p_67 => ?_)
              obtain ⟨rfl, rfl, rfl⟩ := p_67
              try dsimp only [Option.toList, List.cons_append, List.nil_append]
              refine o_icmp_eq (tgt := 76) hC dX7_forward_70 (by decide) (fun c_70 => ?_) (fun c_70 => ?_)
              · refine o_iinc hC dX7_forward_76 (by rfl) (rl_inc _) (Nat.le_of_ble_eq_true rfl) ?_
                refine o_goto (tgt := 27) hC dX7_forward_79 (by decide) ?_
                exact ih (t + 1) _ _ (by omega)
              · refine o_iinc hC dX7_forward_73 (by rfl) rfl (Nat.le_of_ble_eq_true rfl) ?_
                refine o_iinc hC dX7_forward_76 (by rfl) (rl_inc _) (Nat.le_of_ble_eq_true rfl) ?_
                refine o_goto (tgt := 27) hC dX7_forward_79 (by decide) ?_
                exact ih (t + 1) _ _ (by omega)
        refine o_astore_n hC dX7_forward_21 (Nat.le_of_ble_eq_true rfl) ?_
        refine o_iconst (v := nI 0) hC dX7_forward_22 (by decide +kernel) ?_
        refine o_istore_n hC dX7_forward_23 (Nat.le_of_ble_eq_true rfl) ?_
        refine o_iconst (v := nI 0) hC dX7_forward_24 (by decide +kernel) ?_
        refine o_istore hC dX7_forward_25 (Nat.le_of_ble_eq_true rfl) ?_
        exact loop sz 0 _ _ (by omega)
    · exact absurd c_8 (by decide +kernel)

set_option maxHeartbeats 4000000 in
set_option maxRecDepth 100000 in
theorem cg_X7_told (l : Launch) (D : va_G) (ids : Nat → ClassId) (H0 : Heap) (h : rl_H) (n : Nat) (x : Nat) (s : cl_S) (c : cl_N) (w : Int32) (hc : cl_at ids h x s c) : rl_Met l (rl_e D ids H0) rl_BW rl_Ns yX7_told cX7_told 2 (some .int) ({ frames := 3, cells := 0, slots := 0, locals := 69 }) [.ref x, .int w] h n (fun v h' n' => ∃ r : Int32, v = some (.int r) ∧ h' = h ∧ n' = n) := by
  obtain ⟨c1, c2, c3, ⟨pn, c4, c5⟩, ⟨pt, c6, c7⟩, c8, c9, c10, c11, c12, c13, c14, c15⟩ := id hc
  refine rl_Met.of (by decide +kernel) (Nat.le_of_ble_eq_true rfl) ?_
  intro X hC hB
  show rl_G X (rl_e D ids H0) 0 [some (.ref x), some (.int w)] [] h n 0 0
  refine o_iload_n hC dX7_told_0 (by rfl) ?_
  obtain ⟨h2, h3, h4, h5, h6, h7, h8⟩ := id c2
  by_cases hw : w < 0 ∨ nI 5 < w
  · refine o_tableOut (tgt := 97) hC dX7_told_1 (rl_out (by decide) hw) (by decide) ?_
    refine o_bipush (v := (-2 : Int32)) hC dX7_told_97 (by decide +kernel) ?_
    refine o_iret hC hB dX7_told_99 (Nat.le_of_ble_eq_true rfl) (Nat.le_of_ble_eq_true rfl) ?_
    exact ⟨_, rfl, rfl, rfl⟩
  · obtain ⟨j, hj, rfl⟩ := rl_inn (by decide) hw
    rcases (show j = 0 ∨ j = 1 ∨ j = 2 ∨ j = 3 ∨ j = 4 ∨ j = 5 by omega) with rfl | rfl | rfl | rfl | rfl | rfl
    · refine o_tableIn (off := 39) (tgt := 40) hC dX7_told_1 (by decide +kernel) (by decide +kernel) (by decide +kernel) (by decide) ?_
      refine o_aload_n hC dX7_told_40 (by rfl) ?_
      refine o_getf hC (fX7_10 hC rfl) dX7_told_41 (by repeat (first | with_reducible assumption | (rw [rl_u_s]; done) | (rw [rl_u_s]; rfl) | rw [rl_u_n (by first | with_reducible assumption | omega)])) (by first | rfl | with_reducible assumption) ?_
      refine o_getf hC (fX7_53 hC rfl) dX7_told_44 (by repeat (first | with_reducible assumption | (rw [rl_u_s]; done) | (rw [rl_u_s]; rfl) | rw [rl_u_n (by first | with_reducible assumption | omega)])) (by first | rfl | with_reducible assumption) ?_
      refine o_iret hC hB dX7_told_47 (Nat.le_of_ble_eq_true rfl) (Nat.le_of_ble_eq_true rfl) ?_
      exact ⟨_, rfl, rfl, rfl⟩
    · refine o_tableIn (off := 47) (tgt := 48) hC dX7_told_1 (by decide +kernel) (by decide +kernel) (by decide +kernel) (by decide) ?_
      refine o_aload_n hC dX7_told_48 (by rfl) ?_
      refine o_getf hC (fX7_10 hC rfl) dX7_told_49 (by repeat (first | with_reducible assumption | (rw [rl_u_s]; done) | (rw [rl_u_s]; rfl) | rw [rl_u_n (by first | with_reducible assumption | omega)])) (by first | rfl | with_reducible assumption) ?_
      refine o_getf hC (fX7_64 hC rfl) dX7_told_52 (by repeat (first | with_reducible assumption | (rw [rl_u_s]; done) | (rw [rl_u_s]; rfl) | rw [rl_u_n (by first | with_reducible assumption | omega)])) (by first | rfl | with_reducible assumption) ?_
      refine o_iret hC hB dX7_told_55 (Nat.le_of_ble_eq_true rfl) (Nat.le_of_ble_eq_true rfl) ?_
      exact ⟨_, rfl, rfl, rfl⟩
    · refine o_tableIn (off := 55) (tgt := 56) hC dX7_told_1 (by decide +kernel) (by decide +kernel) (by decide +kernel) (by decide) ?_
      refine o_aload_n hC dX7_told_56 (by rfl) ?_
      refine o_getf hC (fX7_78 hC rfl) dX7_told_57 (by repeat (first | with_reducible assumption | (rw [rl_u_s]; done) | (rw [rl_u_s]; rfl) | rw [rl_u_n (by first | with_reducible assumption | omega)])) (by first | rfl | with_reducible assumption) ?_
      refine o_iret hC hB dX7_told_60 (Nat.le_of_ble_eq_true rfl) (Nat.le_of_ble_eq_true rfl) ?_
      exact ⟨_, rfl, rfl, rfl⟩
    · refine o_tableIn (off := 60) (tgt := 61) hC dX7_told_1 (by decide +kernel) (by decide +kernel) (by decide +kernel) (by decide) ?_
      refine o_aload_n hC dX7_told_61 (by rfl) ?_
      refine o_aload_n hC dX7_told_62 (by rfl) ?_
      refine o_getf hC (fX7_49 hC rfl) dX7_told_63 (by repeat (first | with_reducible assumption | (rw [rl_u_s]; done) | (rw [rl_u_s]; rfl) | rw [rl_u_n (by first | with_reducible assumption | omega)])) (by first | rfl | with_reducible assumption) ?_
      refine o_callV1 hC rl_BW_good rl_Ns_nw (by exact hB.2.2.2.2.2) YX7_tableOf IX7_tableOf VX7_tableOf (mX7_127 hC) (by rw [hB.1]; exact cg_X7_tableOf l D ids H0 _ _ x s c _ hc) (by exact c1) rfl rfl (Nat.le_of_ble_eq_true rfl) (by rw [hB.2.1]; first | exact Nat.le_of_ble_eq_true rfl | (dsimp only; omega)) (by rw [hB.2.1]; first | exact Nat.le_of_ble_eq_true rfl | (dsimp only; omega)) (by rw [hB.2.1]; first | exact Nat.le_of_ble_eq_true rfl | (dsimp only; omega)) (by rw [hB.2.1]; first | exact Nat.le_of_ble_eq_true rfl | (dsimp only; omega)) dX7_told_66 (fun v h_66 n_66 p_66 => ?_)
      obtain ⟨z66, rfl, rfl, rfl, hz⟩ := p_66
      try dsimp only [Option.toList, List.cons_append, List.nil_append]
      rcases hz with ⟨rfl, -⟩ | ⟨j, hj, e, rfl⟩
      · try dsimp only [Option.toList, List.cons_append, List.nil_append]
        refine o_getf hC (fX7_138 hC rfl) dX7_told_69 (by repeat (first | with_reducible assumption | (rw [rl_u_s]; done) | (rw [rl_u_s]; rfl) | rw [rl_u_n (by first | with_reducible assumption | omega)])) (by first | rfl | with_reducible assumption) ?_
        refine o_iret hC hB dX7_told_72 (Nat.le_of_ble_eq_true rfl) (Nat.le_of_ble_eq_true rfl) ?_
        exact ⟨_, rfl, rfl, rfl⟩
      · try dsimp only [Option.toList, List.cons_append, List.nil_append]
        obtain ⟨wd, sz, P, S, ht⟩ := c13 j (by omega)
        have t1 := ht.1
        refine o_getf hC (fX7_138 hC rfl) dX7_told_69 (by repeat (first | with_reducible assumption | (rw [rl_u_s]; done) | (rw [rl_u_s]; rfl) | rw [rl_u_n (by first | with_reducible assumption | omega)])) (by first | rfl | with_reducible assumption) ?_
        refine o_iret hC hB dX7_told_72 (Nat.le_of_ble_eq_true rfl) (Nat.le_of_ble_eq_true rfl) ?_
        exact ⟨_, rfl, rfl, rfl⟩
    · refine o_tableIn (off := 72) (tgt := 73) hC dX7_told_1 (by decide +kernel) (by decide +kernel) (by decide +kernel) (by decide) ?_
      refine o_aload_n hC dX7_told_73 (by rfl) ?_
      refine o_aload_n hC dX7_told_74 (by rfl) ?_
      refine o_getf hC (fX7_49 hC rfl) dX7_told_75 (by repeat (first | with_reducible assumption | (rw [rl_u_s]; done) | (rw [rl_u_s]; rfl) | rw [rl_u_n (by first | with_reducible assumption | omega)])) (by first | rfl | with_reducible assumption) ?_
      refine o_callV1 hC rl_BW_good rl_Ns_nw (by exact hB.2.2.2.2.2) YX7_tableOf IX7_tableOf VX7_tableOf (mX7_127 hC) (by rw [hB.1]; exact cg_X7_tableOf l D ids H0 _ _ x s c _ hc) (by exact c1) rfl rfl (Nat.le_of_ble_eq_true rfl) (by rw [hB.2.1]; first | exact Nat.le_of_ble_eq_true rfl | (dsimp only; omega)) (by rw [hB.2.1]; first | exact Nat.le_of_ble_eq_true rfl | (dsimp only; omega)) (by rw [hB.2.1]; first | exact Nat.le_of_ble_eq_true rfl | (dsimp only; omega)) (by rw [hB.2.1]; first | exact Nat.le_of_ble_eq_true rfl | (dsimp only; omega)) dX7_told_78 (fun v h_78 n_78 p_78 => ?_)
      obtain ⟨z78, rfl, rfl, rfl, hz⟩ := p_78
      try dsimp only [Option.toList, List.cons_append, List.nil_append]
      rcases hz with ⟨rfl, -⟩ | ⟨j, hj, e, rfl⟩
      · try dsimp only [Option.toList, List.cons_append, List.nil_append]
        refine o_aload_n hC dX7_told_81 (by rfl) ?_
        refine o_getf hC (fX7_71 hC rfl) dX7_told_82 (by repeat (first | with_reducible assumption | (rw [rl_u_s]; done) | (rw [rl_u_s]; rfl) | rw [rl_u_n (by first | with_reducible assumption | omega)])) (by first | rfl | with_reducible assumption) ?_
        refine o_callV1 hC rl_BW_good rl_Ns_nw (by exact hB.2.2.2.2.2) YX4_howManyHold IX4_howManyHold VX4_howManyHold (mX7_223 hC) (by rw [hB.1]; exact fr_X4_howManyHold l D ids H0 _ _ (x + 65) _ _ _ c8) (by exact c8) rfl rfl (Nat.le_of_ble_eq_true rfl) (by rw [hB.2.1]; first | exact Nat.le_of_ble_eq_true rfl | (dsimp only; omega)) (by rw [hB.2.1]; first | exact Nat.le_of_ble_eq_true rfl | (dsimp only; omega)) (by rw [hB.2.1]; first | exact Nat.le_of_ble_eq_true rfl | (dsimp only; omega)) (by rw [hB.2.1]; first | exact Nat.le_of_ble_eq_true rfl | (dsimp only; omega)) dX7_told_85 (fun v h_85 n_85 p_85 => ?_)
        obtain ⟨rfl, rfl, rfl⟩ := p_85
        try dsimp only [Option.toList, List.cons_append, List.nil_append]
        refine o_iret hC hB dX7_told_88 (Nat.le_of_ble_eq_true rfl) (Nat.le_of_ble_eq_true rfl) ?_
        exact ⟨_, rfl, rfl, rfl⟩
      · try dsimp only [Option.toList, List.cons_append, List.nil_append]
        obtain ⟨wd, sz, P, S, ht⟩ := c13 j (by omega)
        have t1 := ht.1
        refine o_aload_n hC dX7_told_81 (by rfl) ?_
        refine o_getf hC (fX7_71 hC rfl) dX7_told_82 (by repeat (first | with_reducible assumption | (rw [rl_u_s]; done) | (rw [rl_u_s]; rfl) | rw [rl_u_n (by first | with_reducible assumption | omega)])) (by first | rfl | with_reducible assumption) ?_
        refine o_callV1 hC rl_BW_good rl_Ns_nw (by exact hB.2.2.2.2.2) YX4_howManyHold IX4_howManyHold VX4_howManyHold (mX7_223 hC) (by rw [hB.1]; exact ct_X4_howManyHold l D ids H0 _ _ (c.1 j + 1) sz wd P S _ ht) (by exact t1) rfl rfl (Nat.le_of_ble_eq_true rfl) (by rw [hB.2.1]; first | exact Nat.le_of_ble_eq_true rfl | (dsimp only; omega)) (by rw [hB.2.1]; first | exact Nat.le_of_ble_eq_true rfl | (dsimp only; omega)) (by rw [hB.2.1]; first | exact Nat.le_of_ble_eq_true rfl | (dsimp only; omega)) (by rw [hB.2.1]; first | exact Nat.le_of_ble_eq_true rfl | (dsimp only; omega)) dX7_told_85 (fun v h_85 n_85 p_85 => ?_)
        obtain ⟨rfl, rfl, rfl⟩ := p_85
        try dsimp only [Option.toList, List.cons_append, List.nil_append]
        refine o_iret hC hB dX7_told_88 (Nat.le_of_ble_eq_true rfl) (Nat.le_of_ble_eq_true rfl) ?_
        exact ⟨_, rfl, rfl, rfl⟩
    · refine o_tableIn (off := 88) (tgt := 89) hC dX7_told_1 (by decide +kernel) (by decide +kernel) (by decide +kernel) (by decide) ?_
      refine o_aload_n hC dX7_told_89 (by rfl) ?_
      refine o_getf hC (fX7_71 hC rfl) dX7_told_90 (by repeat (first | with_reducible assumption | (rw [rl_u_s]; done) | (rw [rl_u_s]; rfl) | rw [rl_u_n (by first | with_reducible assumption | omega)])) (by first | rfl | with_reducible assumption) ?_
      refine o_callS1 hC rl_BW_good rl_Ns_nw (by exact hB.2.2.2.2.2) YJ13_bitCount_95d88 SJ13_bitCount_95d88 (mX7_203 hC) (by rw [hB.1]; exact ct_J13_bitCount_95d88 l D ids H0 h n _) (Nat.le_of_ble_eq_true rfl) (by rw [hB.2.1]; first | exact Nat.le_of_ble_eq_true rfl | (dsimp only; omega)) (by rw [hB.2.1]; first | exact Nat.le_of_ble_eq_true rfl | (dsimp only; omega)) (by rw [hB.2.1]; first | exact Nat.le_of_ble_eq_true rfl | (dsimp only; omega)) (by rw [hB.2.1]; first | exact Nat.le_of_ble_eq_true rfl | (dsimp only; omega)) dX7_told_93 (fun v h_93 n_93 p_93 => ?_)
      obtain ⟨rfl, rfl, rfl⟩ := p_93
      try dsimp only [Option.toList, List.cons_append, List.nil_append]
      refine o_iret hC hB dX7_told_96 (Nat.le_of_ble_eq_true rfl) (Nat.le_of_ble_eq_true rfl) ?_
      exact ⟨_, rfl, rfl, rfl⟩
