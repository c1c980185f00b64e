/-! a fresh RowLineage: what each call answers -/
theorem rl_n0 (x : Int32) : x < 0 ∨ nI 0 ≤ x := by
  by_cases h : x < 0
  · exact Or.inl h
  · exact Or.inr (by rw [nI_0]; exact Int32.not_lt.mp h)

set_option maxHeartbeats 4000000 in
set_option maxRecDepth 100000 in
theorem ct_X7_isNode (l : Launch) (D : va_G) (ids : Nat → ClassId) (H0 : Heap) (h : rl_H) (n : Nat) (x : Nat) (a0 a1 a2 a3 a4 a5 : Value) (nc rs : Int32) (pr : Int64) (q : Int32) (h1 : h x = some (.inr (7, [a0, a1, a2, a3, a4, a5, .int nc, .int rs, .long pr]))) : rl_Met l (rl_e D ids H0) rl_BW rl_Ns yX7_isNode cX7_isNode 2 (some .boolean) ({ frames := 0, cells := 0, slots := 0, locals := 0 }) [.ref x, .int q] h n (fun v h' n' => v = some (.int (if q < 0 ∨ nc ≤ q then nI 0 else nI 1)) ∧ h' = h ∧ n' = n) := by
  refine rl_Met.of (by decide +kernel) (Nat.le_of_ble_eq_true rfl) ?_
  intro X hC hB
  show rl_G X (rl_e D ids H0) 0 [some (.ref x), some (.int q)] [] h n 0 0
  refine o_iload_n hC dX7_isNode_0 (by rfl) ?_
  refine o_if_lt (tgt := 16) hC dX7_isNode_1 (by decide) (fun c_1 => ?_) (fun c_1 => ?_)
  · refine o_iconst (v := nI 0) hC dX7_isNode_16 (by decide +kernel) ?_
    refine o_zret hC hB dX7_isNode_17 (by first | rfl | decide +kernel) (Nat.le_of_ble_eq_true rfl) (Nat.le_of_ble_eq_true rfl) ?_
    refine ⟨?_, rfl, rfl⟩
    first | rw [if_pos (Or.inl c_1)] | rw [if_pos (Or.inr c_9)] | rw [if_neg (fun q => q.elim c_1 c_9)]
  · refine o_iload_n hC dX7_isNode_4 (by rfl) ?_
    refine o_aload_n hC dX7_isNode_5 (by rfl) ?_
    refine o_getf hC (fX7_78 hC rfl) dX7_isNode_6 (by repeat (first | with_reducible assumption | (rw [rl_u_s]; done) | (rw [rl_u_s]; rfl) | rw [rl_u_n (by first | with_reducible assumption | omega)])) (by first | rfl | with_reducible assumption) ?_
    refine o_icmp_ge (tgt := 16) hC dX7_isNode_9 (by decide) (fun c_9 => ?_) (fun c_9 => ?_)
    · refine o_iconst (v := nI 0) hC dX7_isNode_16 (by decide +kernel) ?_
      refine o_zret hC hB dX7_isNode_17 (by first | rfl | decide +kernel) (Nat.le_of_ble_eq_true rfl) (Nat.le_of_ble_eq_true rfl) ?_
      refine ⟨?_, rfl, rfl⟩
      first | rw [if_pos (Or.inl c_1)] | rw [if_pos (Or.inr c_9)] | rw [if_neg (fun q => q.elim c_1 c_9)]
    · refine o_iconst (v := nI 1) hC dX7_isNode_12 (by decide +kernel) ?_
      refine o_goto (tgt := 17) hC dX7_isNode_13 (by decide) ?_
      refine o_zret hC hB dX7_isNode_17 (by first | rfl | decide +kernel) (Nat.le_of_ble_eq_true rfl) (Nat.le_of_ble_eq_true rfl) ?_
      refine ⟨?_, rfl, rfl⟩
      first | rw [if_pos (Or.inl c_1)] | rw [if_pos (Or.inr c_9)] | rw [if_neg (fun q => q.elim c_1 c_9)]

set_option maxHeartbeats 4000000 in
set_option maxRecDepth 100000 in
theorem fr_X7_hasColumn (l : Launch) (D : va_G) (ids : Nat → ClassId) (H0 : Heap) (h : rl_H) (n : Nat) (x : Nat) (q c : Int32) (hx : rw_new ids h x) : rl_Met l (rl_e D ids H0) rl_BW rl_Ns yX7_hasColumn cX7_hasColumn 3 (some .boolean) ({ frames := 1, cells := 0, slots := 0, locals := 21 }) [.ref x, .int q, .int c] h n (fun v h' n' => v = some (.int (nI 0)) ∧ h' = h ∧ n' = n) := by
  obtain ⟨h1, hso, hop, hnd, htb, hno, hbl⟩ := hx
  refine rl_Met.of (by decide +kernel) (Nat.le_of_ble_eq_true rfl) ?_
  intro X hC hB
  show rl_G X (rl_e D ids H0) 0 [some (.ref x), some (.int q), some (.int c)] [] h n 0 0
  refine o_aload_n hC dX7_hasColumn_0 (by rfl) ?_
  refine o_iload_n hC dX7_hasColumn_1 (by rfl) ?_
  refine o_callV1 hC rl_BW_good rl_Ns_nw (by exact hB.2.2.2.2.2) YX7_isNode IX7_isNode VX7_isNode (mX7_100 hC) (by rw [hB.1]; exact ct_X7_isNode l D ids H0 h n x _ _ _ _ _ _ _ _ _ _ h1) (by exact h1) rfl rfl (Nat.le_of_ble_eq_true rfl) (by rw [hB.2.1]; first | exact Nat.le_of_ble_eq_true rfl | (dsimp only; omega)) (by rw [hB.2.1]; first | exact Nat.le_of_ble_eq_true rfl | (dsimp only; omega)) (by rw [hB.2.1]; first | exact Nat.le_of_ble_eq_true rfl | (dsimp only; omega)) (by rw [hB.2.1]; first | exact Nat.le_of_ble_eq_true rfl | (dsimp only; omega)) dX7_hasColumn_2 (fun v h_2 n_2 p_2 => ?_)
  obtain ⟨rfl, rfl, rfl⟩ := p_2
  rw [if_pos (rl_n0 _)]
  try dsimp only [Option.toList, List.cons_append, List.nil_append]
  refine o_if_eq (tgt := 29) hC dX7_hasColumn_5 (by decide) (fun c_5 => ?_) (fun c_5 => ?_)
  · refine o_iconst (v := nI 0) hC dX7_hasColumn_29 (by decide +kernel) ?_
    refine o_zret hC hB dX7_hasColumn_30 (by first | rfl | decide +kernel) (Nat.le_of_ble_eq_true rfl) (Nat.le_of_ble_eq_true rfl) ?_
    exact ⟨rfl, rfl, rfl⟩
  · exact absurd c_5 (by decide +kernel)

set_option maxHeartbeats 4000000 in
set_option maxRecDepth 100000 in
theorem fr_X7_tableOf (l : Launch) (D : va_G) (ids : Nat → ClassId) (H0 : Heap) (h : rl_H) (n : Nat) (x : Nat) (q : Int32) (hx : rw_new ids h x) : rl_Met l (rl_e D ids H0) rl_BW rl_Ns yX7_tableOf cX7_tableOf 2 (some (.object "RowLineage$Table")) ({ frames := 1, cells := 0, slots := 0, locals := 21 }) [.ref x, .int q] h n (fun v h' n' => v = some (.ref (x + 65)) ∧ h' = h ∧ n' = n) := by
  obtain ⟨h1, hso, hop, hnd, htb, hno, hbl⟩ := hx
  refine rl_Met.of (by decide +kernel) (Nat.le_of_ble_eq_true rfl) ?_
  intro X hC hB
  show rl_G X (rl_e D ids H0) 0 [some (.ref x), some (.int q)] [] h n 0 0
  refine o_aload_n hC dX7_tableOf_0 (by rfl) ?_
  refine o_iload_n hC dX7_tableOf_1 (by rfl) ?_
  refine o_callV1 hC rl_BW_good rl_Ns_nw (by exact hB.2.2.2.2.2) YX7_isNode IX7_isNode VX7_isNode (mX7_100 hC) (by rw [hB.1]; exact ct_X7_isNode l D ids H0 h n x _ _ _ _ _ _ _ _ _ _ h1) (by exact h1) rfl rfl (Nat.le_of_ble_eq_true rfl) (by rw [hB.2.1]; first | exact Nat.le_of_ble_eq_true rfl | (dsimp only; omega)) (by rw [hB.2.1]; first | exact Nat.le_of_ble_eq_true rfl | (dsimp only; omega)) (by rw [hB.2.1]; first | exact Nat.le_of_ble_eq_true rfl | (dsimp only; omega)) (by rw [hB.2.1]; first | exact Nat.le_of_ble_eq_true rfl | (dsimp only; omega)) dX7_tableOf_2 (fun v h_2 n_2 p_2 => ?_)
  obtain ⟨rfl, rfl, rfl⟩ := p_2
  rw [if_pos (rl_n0 _)]
  try dsimp only [Option.toList, List.cons_append, List.nil_append]
  refine o_if_eq (tgt := 17) hC dX7_tableOf_5 (by decide) (fun c_5 => ?_) (fun c_5 => ?_)
  · refine o_aload_n hC dX7_tableOf_17 (by rfl) ?_
    refine o_getf hC (fX7_38 hC rfl) dX7_tableOf_18 (by repeat (first | with_reducible assumption | (rw [rl_u_s]; done) | (rw [rl_u_s]; rfl) | rw [rl_u_n (by first | with_reducible assumption | omega)])) (by first | rfl | with_reducible assumption) ?_
    refine o_aret hC hB (by first | exact Or.inl ⟨_, rfl⟩ | exact Or.inr ⟨_, rfl⟩) (by first | exact Or.inl rfl | exact Or.inr ⟨_, rfl⟩) dX7_tableOf_21 (Nat.le_of_ble_eq_true rfl) (Nat.le_of_ble_eq_true rfl) ?_
    exact ⟨rfl, rfl, rfl⟩
  · exact absurd c_5 (by decide +kernel)

set_option maxHeartbeats 4000000 in
set_option maxRecDepth 100000 in
theorem fr_X7_resultTuple (l : Launch) (D : va_G) (ids : Nat → ClassId) (H0 : Heap) (h : rl_H) (n : Nat) (x : Nat) (t : Int32) (hx : rw_new ids h x) : rl_Met l (rl_e D ids H0) rl_BW rl_Ns yX7_resultTuple cX7_resultTuple 3 (some (.object "RowLineage$Tuple")) ({ frames := 2, cells := 0, slots := 0, locals := 42 }) [.ref x, .int t] h n (fun v h' n' => v = some .null ∧ h' = h ∧ n' = n) := by
  obtain ⟨h1, hso, hop, hnd, htb, hno, hbl⟩ := id hx
  refine rl_Met.of (by decide +kernel) (Nat.le_of_ble_eq_true rfl) ?_
  intro X hC hB
  show rl_G X (rl_e D ids H0) 0 [some (.ref x), some (.int t), none] [] h n 0 0
  refine o_aload_n hC dX7_resultTuple_0 (by rfl) ?_
  refine o_aload_n hC dX7_resultTuple_1 (by rfl) ?_
  refine o_getf hC (fX7_49 hC rfl) dX7_resultTuple_2 (by repeat (first | with_reducible assumption | (rw [rl_u_s]; done) | (rw [rl_u_s]; rfl) | rw [rl_u_n (by first | with_reducible assumption | omega)])) (by first | rfl | with_reducible assumption) ?_
  refine o_callV1 hC rl_BW_good rl_Ns_nw (by exact hB.2.2.2.2.2) YX7_tableOf IX7_tableOf VX7_tableOf (mX7_127 hC) (by rw [hB.1]; exact fr_X7_tableOf l D ids H0 h n x _ hx) (by exact h1) rfl rfl (Nat.le_of_ble_eq_true rfl) (by rw [hB.2.1]; first | exact Nat.le_of_ble_eq_true rfl | (dsimp only; omega)) (by rw [hB.2.1]; first | exact Nat.le_of_ble_eq_true rfl | (dsimp only; omega)) (by rw [hB.2.1]; first | exact Nat.le_of_ble_eq_true rfl | (dsimp only; omega)) (by rw [hB.2.1]; first | exact Nat.le_of_ble_eq_true rfl | (dsimp only; omega)) dX7_resultTuple_5 (fun v h_5 n_5 p_5 => ?_)
  obtain ⟨rfl, rfl, rfl⟩ := p_5
  try dsimp only [Option.toList, List.cons_append, List.nil_append]
  refine o_astore_n hC dX7_resultTuple_8 (Nat.le_of_ble_eq_true rfl) ?_
  refine o_iload_n hC dX7_resultTuple_9 (by rfl) ?_
  refine o_if_lt (tgt := 30) hC dX7_resultTuple_10 (by decide) (fun c_10 => ?_) (fun c_10 => ?_)
  · refine o_null hC dX7_resultTuple_30 ?_
    refine o_aret hC hB (by first | exact Or.inl ⟨_, rfl⟩ | exact Or.inr ⟨_, rfl⟩) (by first | exact Or.inl rfl | exact Or.inr ⟨_, rfl⟩) dX7_resultTuple_31 (Nat.le_of_ble_eq_true rfl) (Nat.le_of_ble_eq_true rfl) ?_
    exact ⟨rfl, rfl, rfl⟩
  · refine o_iload_n hC dX7_resultTuple_13 (by rfl) ?_
    refine o_aload_n hC dX7_resultTuple_14 (by rfl) ?_
    refine o_getf hC (fX7_138 hC rfl) dX7_resultTuple_15 (by repeat (first | with_reducible assumption | (rw [rl_u_s]; done) | (rw [rl_u_s]; rfl) | rw [rl_u_n (by first | with_reducible assumption | omega)])) (by first | rfl | with_reducible assumption) ?_
    refine o_icmp_ge (tgt := 30) hC dX7_resultTuple_18 (by decide) (fun c_18 => ?_) (fun c_18 => ?_)
    · refine o_null hC dX7_resultTuple_30 ?_
      refine o_aret hC hB (by first | exact Or.inl ⟨_, rfl⟩ | exact Or.inr ⟨_, rfl⟩) (by first | exact Or.inl rfl | exact Or.inr ⟨_, rfl⟩) dX7_resultTuple_31 (Nat.le_of_ble_eq_true rfl) (Nat.le_of_ble_eq_true rfl) ?_
      exact ⟨rfl, rfl, rfl⟩
    · exact absurd ((rl_n0 t).resolve_left c_10) c_18

set_option maxHeartbeats 4000000 in
set_option maxRecDepth 100000 in
theorem fr_X7_row (l : Launch) (D : va_G) (ids : Nat → ClassId) (H0 : Heap) (h : rl_H) (n : Nat) (x : Nat) (s a b c d : Int32) (hx : rw_new ids h x) : rl_Met l (rl_e D ids H0) rl_BW rl_Ns yX7_row cX7_row 7 (some .int) ({ frames := 1, cells := 0, slots := 0, locals := 21 }) [.ref x, .int s, .int a, .int b, .int c, .int d] h n (fun v h' n' => v = some (.int (-1)) ∧ h' = h ∧ n' = n) := by
  obtain ⟨h1, hso, hop, hnd, htb, hno, hbl⟩ := id hx
  refine rl_Met.of (by decide +kernel) (Nat.le_of_ble_eq_true rfl) ?_
  intro X hC hB
  show rl_G X (rl_e D ids H0) 0 [some (.ref x), some (.int s), some (.int a), some (.int b), some (.int c), some (.int d), none] [] h n 0 0
  refine o_aload_n hC dX7_row_0 (by rfl) ?_
  refine o_getf hC (fX7_10 hC rfl) dX7_row_1 (by repeat (first | with_reducible assumption | (rw [rl_u_s]; done) | (rw [rl_u_s]; rfl) | rw [rl_u_n (by first | with_reducible assumption | omega)])) (by first | rfl | with_reducible assumption) ?_
  refine o_iload_n hC dX7_row_4 (by rfl) ?_
  refine o_callV1 hC rl_BW_good rl_Ns_nw (by exact hB.2.2.2.2.2) YX3_isSource IX3_isSource VX3_isSource (mX7_60 hC) (by rw [hB.1]; exact ct_X3_isSource l D ids H0 h n (x + 1) _ _ _ 0 0 _ hso) (by exact hso.1) rfl rfl (Nat.le_of_ble_eq_true rfl) (by rw [hB.2.1]; first | exact Nat.le_of_ble_eq_true rfl | (dsimp only; omega)) (by rw [hB.2.1]; first | exact Nat.le_of_ble_eq_true rfl | (dsimp only; omega)) (by rw [hB.2.1]; first | exact Nat.le_of_ble_eq_true rfl | (dsimp only; omega)) (by rw [hB.2.1]; first | exact Nat.le_of_ble_eq_true rfl | (dsimp only; omega)) dX7_row_5 (fun v h_5 n_5 p_5 => ?_)
  obtain ⟨rfl, rfl, rfl⟩ := p_5
  rw [if_pos (rl_n0 _)]
  try dsimp only [Option.toList, List.cons_append, List.nil_append]
  refine o_if_ne (tgt := 13) hC dX7_row_8 (by decide) (fun c_8 => ?_) (fun c_8 => ?_)
  · exact absurd rfl c_8
  · refine o_iconst (v := (-1 : Int32)) hC dX7_row_11 (by decide +kernel) ?_
    refine o_iret hC hB dX7_row_12 (Nat.le_of_ble_eq_true rfl) (Nat.le_of_ble_eq_true rfl) ?_
    exact ⟨rfl, rfl, rfl⟩

set_option maxHeartbeats 4000000 in
set_option maxRecDepth 100000 in
theorem fr_X7_scan (l : Launch) (D : va_G) (ids : Nat → ClassId) (H0 : Heap) (h : rl_H) (n : Nat) (x : Nat) (s : Int32) (hx : rw_new ids h x) : rl_Met l (rl_e D ids H0) rl_BW rl_Ns yX7_scan cX7_scan 2 (some .int) ({ frames := 1, cells := 0, slots := 0, locals := 21 }) [.ref x, .int s] h n (fun v h' n' => v = some (.int (-1)) ∧ h' = h ∧ n' = n) := by
  obtain ⟨h1, hso, hop, hnd, htb, hno, hbl⟩ := id hx
  refine rl_Met.of (by decide +kernel) (Nat.le_of_ble_eq_true rfl) ?_
  intro X hC hB
  show rl_G X (rl_e D ids H0) 0 [some (.ref x), some (.int s)] [] h n 0 0
  refine o_aload_n hC dX7_scan_0 (by rfl) ?_
  refine o_getf hC (fX7_10 hC rfl) dX7_scan_1 (by repeat (first | with_reducible assumption | (rw [rl_u_s]; done) | (rw [rl_u_s]; rfl) | rw [rl_u_n (by first | with_reducible assumption | omega)])) (by first | rfl | with_reducible assumption) ?_
  refine o_iload_n hC dX7_scan_4 (by rfl) ?_
  refine o_callV1 hC rl_BW_good rl_Ns_nw (by exact hB.2.2.2.2.2) YX3_isSource IX3_isSource VX3_isSource (mX7_60 hC) (by rw [hB.1]; exact ct_X3_isSource l D ids H0 h n (x + 1) _ _ _ 0 0 _ hso) (by exact hso.1) rfl rfl (Nat.le_of_ble_eq_true rfl) (by rw [hB.2.1]; first | exact Nat.le_of_ble_eq_true rfl | (dsimp only; omega)) (by rw [hB.2.1]; first | exact Nat.le_of_ble_eq_true rfl | (dsimp only; omega)) (by rw [hB.2.1]; first | exact Nat.le_of_ble_eq_true rfl | (dsimp only; omega)) (by rw [hB.2.1]; first | exact Nat.le_of_ble_eq_true rfl | (dsimp only; omega)) dX7_scan_5 (fun v h_5 n_5 p_5 => ?_)
  obtain ⟨rfl, rfl, rfl⟩ := p_5
  rw [if_pos (rl_n0 _)]
  try dsimp only [Option.toList, List.cons_append, List.nil_append]
  refine o_if_ne (tgt := 13) hC dX7_scan_8 (by decide) (fun c_8 => ?_) (fun c_8 => ?_)
  · exact absurd rfl c_8
  · refine o_iconst (v := (-1 : Int32)) hC dX7_scan_11 (by decide +kernel) ?_
    refine o_iret hC hB dX7_scan_12 (Nat.le_of_ble_eq_true rfl) (Nat.le_of_ble_eq_true rfl) ?_
    exact ⟨rfl, rfl, rfl⟩

set_option maxHeartbeats 4000000 in
set_option maxRecDepth 100000 in
theorem fr_X7_pick (l : Launch) (D : va_G) (ids : Nat → ClassId) (H0 : Heap) (h : rl_H) (n : Nat) (x : Nat) (a b c d e : Int32) (hx : rw_new ids h x) : rl_Met l (rl_e D ids H0) rl_BW rl_Ns yX7_pick cX7_pick 6 (some .int) ({ frames := 2, cells := 0, slots := 0, locals := 43 }) [.ref x, .int a, .int b, .int c, .int d, .int e] h n (fun v h' n' => v = some (.int (-1)) ∧ h' = h ∧ n' = n) := by
  obtain ⟨h1, hso, hop, hnd, htb, hno, hbl⟩ := id hx
  refine rl_Met.of (by decide +kernel) (Nat.le_of_ble_eq_true rfl) ?_
  intro X hC hB
  show rl_G X (rl_e D ids H0) 0 [some (.ref x), some (.int a), some (.int b), some (.int c), some (.int d), some (.int e)] [] h n 0 0
  refine o_aload_n hC dX7_pick_0 (by rfl) ?_
  refine o_iload_n hC dX7_pick_1 (by rfl) ?_
  refine o_iload_n hC dX7_pick_2 (by rfl) ?_
  refine o_callV2 hC rl_BW_good rl_Ns_nw (by exact hB.2.2.2.2.2) YX7_hasColumn IX7_hasColumn VX7_hasColumn (mX7_93 hC) (by rw [hB.1]; exact fr_X7_hasColumn l D ids H0 h n x _ _ hx) (by exact h1) rfl rfl (Nat.le_of_ble_eq_true rfl) (by rw [hB.2.1]; first | exact Nat.le_of_ble_eq_true rfl | (dsimp only; omega)) (by rw [hB.2.1]; first | exact Nat.le_of_ble_eq_true rfl | (dsimp only; omega)) (by rw [hB.2.1]; first | exact Nat.le_of_ble_eq_true rfl | (dsimp only; omega)) (by rw [hB.2.1]; first | exact Nat.le_of_ble_eq_true rfl | (dsimp only; omega)) dX7_pick_3 (fun v h_3 n_3 p_3 => ?_)
  obtain ⟨rfl, rfl, rfl⟩ := p_3
  try dsimp only [Option.toList, List.cons_append, List.nil_append]
  refine o_if_eq (tgt := 25) hC dX7_pick_6 (by decide) (fun c_6 => ?_) (fun c_6 => ?_)
  · refine o_iconst (v := (-1 : Int32)) hC dX7_pick_25 (by decide +kernel) ?_
    refine o_iret hC hB dX7_pick_26 (Nat.le_of_ble_eq_true rfl) (Nat.le_of_ble_eq_true rfl) ?_
    exact ⟨rfl, rfl, rfl⟩
  · exact absurd rfl c_6

set_option maxHeartbeats 4000000 in
set_option maxRecDepth 100000 in
theorem fr_X7_cols (l : Launch) (D : va_G) (ids : Nat → ClassId) (H0 : Heap) (h : rl_H) (n : Nat) (x : Nat) (a b : Int32) (hx : rw_new ids h x) : rl_Met l (rl_e D ids H0) rl_BW rl_Ns yX7_cols cX7_cols 3 (some .int) ({ frames := 1, cells := 0, slots := 0, locals := 21 }) [.ref x, .int a, .int b] h n (fun v h' n' => v = some (.int (-1)) ∧ h' = h ∧ n' = n) := by
  obtain ⟨h1, hso, hop, hnd, htb, hno, hbl⟩ := id hx
  refine rl_Met.of (by decide +kernel) (Nat.le_of_ble_eq_true rfl) ?_
  intro X hC hB
  show rl_G X (rl_e D ids H0) 0 [some (.ref x), some (.int a), some (.int b)] [] h n 0 0
  refine o_aload_n hC dX7_cols_0 (by rfl) ?_
  refine o_iload_n hC dX7_cols_1 (by rfl) ?_
  refine o_callV1 hC rl_BW_good rl_Ns_nw (by exact hB.2.2.2.2.2) YX7_isNode IX7_isNode VX7_isNode (mX7_100 hC) (by rw [hB.1]; exact ct_X7_isNode l D ids H0 h n x _ _ _ _ _ _ _ _ _ _ h1) (by exact h1) rfl rfl (Nat.le_of_ble_eq_true rfl) (by rw [hB.2.1]; first | exact Nat.le_of_ble_eq_true rfl | (dsimp only; omega)) (by rw [hB.2.1]; first | exact Nat.le_of_ble_eq_true rfl | (dsimp only; omega)) (by rw [hB.2.1]; first | exact Nat.le_of_ble_eq_true rfl | (dsimp only; omega)) (by rw [hB.2.1]; first | exact Nat.le_of_ble_eq_true rfl | (dsimp only; omega)) dX7_cols_2 (fun v h_2 n_2 p_2 => ?_)
  obtain ⟨rfl, rfl, rfl⟩ := p_2
  rw [if_pos (rl_n0 _)]
  try dsimp only [Option.toList, List.cons_append, List.nil_append]
  refine o_if_ne (tgt := 10) hC dX7_cols_5 (by decide) (fun c_5 => ?_) (fun c_5 => ?_)
  · exact absurd rfl c_5
  · refine o_iconst (v := (-1 : Int32)) hC dX7_cols_8 (by decide +kernel) ?_
    refine o_iret hC hB dX7_cols_9 (Nat.le_of_ble_eq_true rfl) (Nat.le_of_ble_eq_true rfl) ?_
    exact ⟨rfl, rfl, rfl⟩

set_option maxHeartbeats 4000000 in
set_option maxRecDepth 100000 in
theorem fr_X7_join (l : Launch) (D : va_G) (ids : Nat → ClassId) (H0 : Heap) (h : rl_H) (n : Nat) (x : Nat) (a b c d : Int32) (hx : rw_new ids h x) : rl_Met l (rl_e D ids H0) rl_BW rl_Ns yX7_join cX7_join 6 (some .int) ({ frames := 2, cells := 0, slots := 0, locals := 43 }) [.ref x, .int a, .int b, .int c, .int d] h n (fun v h' n' => v = some (.int (-1)) ∧ h' = h ∧ n' = n) := by
  obtain ⟨h1, hso, hop, hnd, htb, hno, hbl⟩ := id hx
  refine rl_Met.of (by decide +kernel) (Nat.le_of_ble_eq_true rfl) ?_
  intro X hC hB
  show rl_G X (rl_e D ids H0) 0 [some (.ref x), some (.int a), some (.int b), some (.int c), some (.int d), none] [] h n 0 0
  refine o_aload_n hC dX7_join_0 (by rfl) ?_
  refine o_iload_n hC dX7_join_1 (by rfl) ?_
  refine o_iload_n hC dX7_join_2 (by rfl) ?_
  refine o_callV2 hC rl_BW_good rl_Ns_nw (by exact hB.2.2.2.2.2) YX7_hasColumn IX7_hasColumn VX7_hasColumn (mX7_93 hC) (by rw [hB.1]; exact fr_X7_hasColumn l D ids H0 h n x _ _ hx) (by exact h1) rfl rfl (Nat.le_of_ble_eq_true rfl) (by rw [hB.2.1]; first | exact Nat.le_of_ble_eq_true rfl | (dsimp only; omega)) (by rw [hB.2.1]; first | exact Nat.le_of_ble_eq_true rfl | (dsimp only; omega)) (by rw [hB.2.1]; first | exact Nat.le_of_ble_eq_true rfl | (dsimp only; omega)) (by rw [hB.2.1]; first | exact Nat.le_of_ble_eq_true rfl | (dsimp only; omega)) dX7_join_3 (fun v h_3 n_3 p_3 => ?_)
  obtain ⟨rfl, rfl, rfl⟩ := p_3
  try dsimp only [Option.toList, List.cons_append, List.nil_append]
  refine o_if_eq (tgt := 19) hC dX7_join_6 (by decide) (fun c_6 => ?_) (fun c_6 => ?_)
  · refine o_iconst (v := (-1 : Int32)) hC dX7_join_19 (by decide +kernel) ?_
    refine o_iret hC hB dX7_join_20 (Nat.le_of_ble_eq_true rfl) (Nat.le_of_ble_eq_true rfl) ?_
    exact ⟨rfl, rfl, rfl⟩
  · exact absurd rfl c_6

set_option maxHeartbeats 4000000 in
set_option maxRecDepth 100000 in
theorem fr_X7_addAlikeNode (l : Launch) (D : va_G) (ids : Nat → ClassId) (H0 : Heap) (h : rl_H) (n : Nat) (x : Nat) (o a b : Int32) (hx : rw_new ids h x) : rl_Met l (rl_e D ids H0) rl_BW rl_Ns yX7_addAlikeNode cX7_addAlikeNode 4 (some .int) ({ frames := 1, cells := 0, slots := 0, locals := 21 }) [.ref x, .int o, .int a, .int b] h n (fun v h' n' => v = some (.int (-1)) ∧ h' = h ∧ n' = n) := by
  obtain ⟨h1, hso, hop, hnd, htb, hno, hbl⟩ := id hx
  refine rl_Met.of (by decide +kernel) (Nat.le_of_ble_eq_true rfl) ?_
  intro X hC hB
  show rl_G X (rl_e D ids H0) 0 [some (.ref x), some (.int o), some (.int a), some (.int b)] [] h n 0 0
  refine o_aload_n hC dX7_addAlikeNode_0 (by rfl) ?_
  refine o_iload_n hC dX7_addAlikeNode_1 (by rfl) ?_
  refine o_callV1 hC rl_BW_good rl_Ns_nw (by exact hB.2.2.2.2.2) YX7_isNode IX7_isNode VX7_isNode (mX7_100 hC) (by rw [hB.1]; exact ct_X7_isNode l D ids H0 h n x _ _ _ _ _ _ _ _ _ _ h1) (by exact h1) rfl rfl (Nat.le_of_ble_eq_true rfl) (by rw [hB.2.1]; first | exact Nat.le_of_ble_eq_true rfl | (dsimp only; omega)) (by rw [hB.2.1]; first | exact Nat.le_of_ble_eq_true rfl | (dsimp only; omega)) (by rw [hB.2.1]; first | exact Nat.le_of_ble_eq_true rfl | (dsimp only; omega)) (by rw [hB.2.1]; first | exact Nat.le_of_ble_eq_true rfl | (dsimp only; omega)) dX7_addAlikeNode_2 (fun v h_2 n_2 p_2 => ?_)
  obtain ⟨rfl, rfl, rfl⟩ := p_2
  rw [if_pos (rl_n0 _)]
  try dsimp only [Option.toList, List.cons_append, List.nil_append]
  refine o_if_eq (tgt := 16) hC dX7_addAlikeNode_5 (by decide) (fun c_5 => ?_) (fun c_5 => ?_)
  · refine o_iconst (v := (-1 : Int32)) hC dX7_addAlikeNode_16 (by decide +kernel) ?_
    refine o_iret hC hB dX7_addAlikeNode_17 (Nat.le_of_ble_eq_true rfl) (Nat.le_of_ble_eq_true rfl) ?_
    exact ⟨rfl, rfl, rfl⟩
  · exact absurd rfl c_5

set_option maxHeartbeats 4000000 in
set_option maxRecDepth 100000 in
theorem fr_X7_unite (l : Launch) (D : va_G) (ids : Nat → ClassId) (H0 : Heap) (h : rl_H) (n : Nat) (x : Nat) (a b : Int32) (hx : rw_new ids h x) : rl_Met l (rl_e D ids H0) rl_BW rl_Ns yX7_unite cX7_unite 3 (some .int) ({ frames := 2, cells := 0, slots := 0, locals := 44 }) [.ref x, .int a, .int b] h n (fun v h' n' => v = some (.int (-1)) ∧ h' = h ∧ n' = n) := by
  obtain ⟨h1, hso, hop, hnd, htb, hno, hbl⟩ := id hx
  refine rl_Met.of (by decide +kernel) (Nat.le_of_ble_eq_true rfl) ?_
  intro X hC hB
  show rl_G X (rl_e D ids H0) 0 [some (.ref x), some (.int a), some (.int b)] [] h n 0 0
  refine o_aload_n hC dX7_unite_0 (by rfl) ?_
  refine o_iconst (v := nI 4) hC dX7_unite_1 (by decide +kernel) ?_
  refine o_iload_n hC dX7_unite_2 (by rfl) ?_
  refine o_iload_n hC dX7_unite_3 (by rfl) ?_
  refine o_callV3 hC rl_BW_good rl_Ns_nw (by exact hB.2.2.2.2.2) YX7_addAlikeNode IX7_addAlikeNode VX7_addAlikeNode (mX7_113 hC) (by rw [hB.1]; exact fr_X7_addAlikeNode l D ids H0 h n x _ _ _ hx) (by exact h1) rfl rfl (Nat.le_of_ble_eq_true rfl) (by rw [hB.2.1]; first | exact Nat.le_of_ble_eq_true rfl | (dsimp only; omega)) (by rw [hB.2.1]; first | exact Nat.le_of_ble_eq_true rfl | (dsimp only; omega)) (by rw [hB.2.1]; first | exact Nat.le_of_ble_eq_true rfl | (dsimp only; omega)) (by rw [hB.2.1]; first | exact Nat.le_of_ble_eq_true rfl | (dsimp only; omega)) dX7_unite_4 (fun v h_4 n_4 p_4 => ?_)
  obtain ⟨rfl, rfl, rfl⟩ := p_4
  try dsimp only [Option.toList, List.cons_append, List.nil_append]
  refine o_iret hC hB dX7_unite_7 (Nat.le_of_ble_eq_true rfl) (Nat.le_of_ble_eq_true rfl) ?_
  exact ⟨rfl, rfl, rfl⟩

set_option maxHeartbeats 4000000 in
set_option maxRecDepth 100000 in
theorem fr_X7_minus (l : Launch) (D : va_G) (ids : Nat → ClassId) (H0 : Heap) (h : rl_H) (n : Nat) (x : Nat) (a b : Int32) (hx : rw_new ids h x) : rl_Met l (rl_e D ids H0) rl_BW rl_Ns yX7_minus cX7_minus 3 (some .int) ({ frames := 2, cells := 0, slots := 0, locals := 44 }) [.ref x, .int a, .int b] h n (fun v h' n' => v = some (.int (-1)) ∧ h' = h ∧ n' = n) := by
  obtain ⟨h1, hso, hop, hnd, htb, hno, hbl⟩ := id hx
  refine rl_Met.of (by decide +kernel) (Nat.le_of_ble_eq_true rfl) ?_
  intro X hC hB
  show rl_G X (rl_e D ids H0) 0 [some (.ref x), some (.int a), some (.int b)] [] h n 0 0
  refine o_aload_n hC dX7_minus_0 (by rfl) ?_
  refine o_iconst (v := nI 5) hC dX7_minus_1 (by decide +kernel) ?_
  refine o_iload_n hC dX7_minus_2 (by rfl) ?_
  refine o_iload_n hC dX7_minus_3 (by rfl) ?_
  refine o_callV3 hC rl_BW_good rl_Ns_nw (by exact hB.2.2.2.2.2) YX7_addAlikeNode IX7_addAlikeNode VX7_addAlikeNode (mX7_113 hC) (by rw [hB.1]; exact fr_X7_addAlikeNode l D ids H0 h n x _ _ _ hx) (by exact h1) rfl rfl (Nat.le_of_ble_eq_true rfl) (by rw [hB.2.1]; first | exact Nat.le_of_ble_eq_true rfl | (dsimp only; omega)) (by rw [hB.2.1]; first | exact Nat.le_of_ble_eq_true rfl | (dsimp only; omega)) (by rw [hB.2.1]; first | exact Nat.le_of_ble_eq_true rfl | (dsimp only; omega)) (by rw [hB.2.1]; first | exact Nat.le_of_ble_eq_true rfl | (dsimp only; omega)) dX7_minus_4 (fun v h_4 n_4 p_4 => ?_)
  obtain ⟨rfl, rfl, rfl⟩ := p_4
  try dsimp only [Option.toList, List.cons_append, List.nil_append]
  refine o_iret hC hB dX7_minus_7 (Nat.le_of_ble_eq_true rfl) (Nat.le_of_ble_eq_true rfl) ?_
  exact ⟨rfl, rfl, rfl⟩

set_option maxHeartbeats 4000000 in
set_option maxRecDepth 100000 in
theorem fr_X7_fold (l : Launch) (D : va_G) (ids : Nat → ClassId) (H0 : Heap) (h : rl_H) (n : Nat) (x : Nat) (a b c d : Int32) (hx : rw_new ids h x) : rl_Met l (rl_e D ids H0) rl_BW rl_Ns yX7_fold cX7_fold 5 (some .int) ({ frames := 2, cells := 0, slots := 0, locals := 43 }) [.ref x, .int a, .int b, .int c, .int d] h n (fun v h' n' => v = some (.int (-1)) ∧ h' = h ∧ n' = n) := by
  obtain ⟨h1, hso, hop, hnd, htb, hno, hbl⟩ := id hx
  refine rl_Met.of (by decide +kernel) (Nat.le_of_ble_eq_true rfl) ?_
  intro X hC hB
  show rl_G X (rl_e D ids H0) 0 [some (.ref x), some (.int a), some (.int b), some (.int c), some (.int d)] [] h n 0 0
  refine o_aload_n hC dX7_fold_0 (by rfl) ?_
  refine o_iload_n hC dX7_fold_1 (by rfl) ?_
  refine o_iload_n hC dX7_fold_2 (by rfl) ?_
  refine o_callV2 hC rl_BW_good rl_Ns_nw (by exact hB.2.2.2.2.2) YX7_hasColumn IX7_hasColumn VX7_hasColumn (mX7_93 hC) (by rw [hB.1]; exact fr_X7_hasColumn l D ids H0 h n x _ _ hx) (by exact h1) rfl rfl (Nat.le_of_ble_eq_true rfl) (by rw [hB.2.1]; first | exact Nat.le_of_ble_eq_true rfl | (dsimp only; omega)) (by rw [hB.2.1]; first | exact Nat.le_of_ble_eq_true rfl | (dsimp only; omega)) (by rw [hB.2.1]; first | exact Nat.le_of_ble_eq_true rfl | (dsimp only; omega)) (by rw [hB.2.1]; first | exact Nat.le_of_ble_eq_true rfl | (dsimp only; omega)) dX7_fold_3 (fun v h_3 n_3 p_3 => ?_)
  obtain ⟨rfl, rfl, rfl⟩ := p_3
  try dsimp only [Option.toList, List.cons_append, List.nil_append]
  refine o_if_eq (tgt := 18) hC dX7_fold_6 (by decide) (fun c_6 => ?_) (fun c_6 => ?_)
  · refine o_iconst (v := (-1 : Int32)) hC dX7_fold_18 (by decide +kernel) ?_
    refine o_iret hC hB dX7_fold_19 (Nat.le_of_ble_eq_true rfl) (Nat.le_of_ble_eq_true rfl) ?_
    exact ⟨rfl, rfl, rfl⟩
  · exact absurd rfl c_6

set_option maxHeartbeats 4000000 in
set_option maxRecDepth 100000 in
theorem fr_X7_columns (l : Launch) (D : va_G) (ids : Nat → ClassId) (H0 : Heap) (h : rl_H) (n : Nat) (x : Nat) (a : Int32) (hx : rw_new ids h x) : rl_Met l (rl_e D ids H0) rl_BW rl_Ns yX7_columns cX7_columns 2 (some .int) ({ frames := 1, cells := 0, slots := 0, locals := 21 }) [.ref x, .int a] h n (fun v h' n' => v = some (.int (-1)) ∧ h' = h ∧ n' = n) := by
  obtain ⟨h1, hso, hop, hnd, htb, hno, hbl⟩ := id hx
  refine rl_Met.of (by decide +kernel) (Nat.le_of_ble_eq_true rfl) ?_
  intro X hC hB
  show rl_G X (rl_e D ids H0) 0 [some (.ref x), some (.int a)] [] h n 0 0
  refine o_aload_n hC dX7_columns_0 (by rfl) ?_
  refine o_iload_n hC dX7_columns_1 (by rfl) ?_
  refine o_callV1 hC rl_BW_good rl_Ns_nw (by exact hB.2.2.2.2.2) YX7_isNode IX7_isNode VX7_isNode (mX7_100 hC) (by rw [hB.1]; exact ct_X7_isNode l D ids H0 h n x _ _ _ _ _ _ _ _ _ _ h1) (by exact h1) rfl rfl (Nat.le_of_ble_eq_true rfl) (by rw [hB.2.1]; first | exact Nat.le_of_ble_eq_true rfl | (dsimp only; omega)) (by rw [hB.2.1]; first | exact Nat.le_of_ble_eq_true rfl | (dsimp only; omega)) (by rw [hB.2.1]; first | exact Nat.le_of_ble_eq_true rfl | (dsimp only; omega)) (by rw [hB.2.1]; first | exact Nat.le_of_ble_eq_true rfl | (dsimp only; omega)) dX7_columns_2 (fun v h_2 n_2 p_2 => ?_)
  obtain ⟨rfl, rfl, rfl⟩ := p_2
  rw [if_pos (rl_n0 _)]
  try dsimp only [Option.toList, List.cons_append, List.nil_append]
  refine o_if_eq (tgt := 20) hC dX7_columns_5 (by decide) (fun c_5 => ?_) (fun c_5 => ?_)
  · refine o_iconst (v := (-1 : Int32)) hC dX7_columns_20 (by decide +kernel) ?_
    refine o_iret hC hB dX7_columns_21 (Nat.le_of_ble_eq_true rfl) (Nat.le_of_ble_eq_true rfl) ?_
    exact ⟨rfl, rfl, rfl⟩
  · exact absurd rfl c_5

set_option maxHeartbeats 4000000 in
set_option maxRecDepth 100000 in
theorem fr_X7_run (l : Launch) (D : va_G) (ids : Nat → ClassId) (H0 : Heap) (h : rl_H) (n : Nat) (x : Nat) (a : Int32) (hx : rw_new ids h x) : rl_Met l (rl_e D ids H0) rl_BW rl_Ns yX7_run cX7_run 9 (some .int) ({ frames := 1, cells := 0, slots := 0, locals := 21 }) [.ref x, .int a] h n (fun v h' n' => v = some (.int (-1)) ∧ h' = h ∧ n' = n) := by
  obtain ⟨h1, hso, hop, hnd, htb, hno, hbl⟩ := id hx
  refine rl_Met.of (by decide +kernel) (Nat.le_of_ble_eq_true rfl) ?_
  intro X hC hB
  show rl_G X (rl_e D ids H0) 0 [some (.ref x), some (.int a), none, none, none, none, none, none, none] [] h n 0 0
  refine o_aload_n hC dX7_run_0 (by rfl) ?_
  refine o_iload_n hC dX7_run_1 (by rfl) ?_
  refine o_callV1 hC rl_BW_good rl_Ns_nw (by exact hB.2.2.2.2.2) YX7_isNode IX7_isNode VX7_isNode (mX7_100 hC) (by rw [hB.1]; exact ct_X7_isNode l D ids H0 h n x _ _ _ _ _ _ _ _ _ _ h1) (by exact h1) rfl rfl (Nat.le_of_ble_eq_true rfl) (by rw [hB.2.1]; first | exact Nat.le_of_ble_eq_true rfl | (dsimp only; omega)) (by rw [hB.2.1]; first | exact Nat.le_of_ble_eq_true rfl | (dsimp only; omega)) (by rw [hB.2.1]; first | exact Nat.le_of_ble_eq_true rfl | (dsimp only; omega)) (by rw [hB.2.1]; first | exact Nat.le_of_ble_eq_true rfl | (dsimp only; omega)) dX7_run_2 (fun v h_2 n_2 p_2 => ?_)
  obtain ⟨rfl, rfl, rfl⟩ := p_2
  rw [if_pos (rl_n0 _)]
  try dsimp only [Option.toList, List.cons_append, List.nil_append]
  refine o_if_ne (tgt := 10) hC dX7_run_5 (by decide) (fun c_5 => ?_) (fun c_5 => ?_)
  · exact absurd rfl c_5
  · refine o_iconst (v := (-1 : Int32)) hC dX7_run_8 (by decide +kernel) ?_
    refine o_iret hC hB dX7_run_9 (Nat.le_of_ble_eq_true rfl) (Nat.le_of_ble_eq_true rfl) ?_
    exact ⟨rfl, rfl, rfl⟩

set_option maxHeartbeats 4000000 in
set_option maxRecDepth 100000 in
theorem fr_X7_ways (l : Launch) (D : va_G) (ids : Nat → ClassId) (H0 : Heap) (h : rl_H) (n : Nat) (x : Nat) (t : Int32) (hx : rw_new ids h x) : rl_Met l (rl_e D ids H0) rl_BW rl_Ns yX7_ways cX7_ways 3 (some .int) ({ frames := 3, cells := 0, slots := 0, locals := 64 }) [.ref x, .int t] h n (fun v h' n' => v = some (.int (-1)) ∧ h' = h ∧ n' = n) := by
  obtain ⟨h1, hso, hop, hnd, htb, hno, hbl⟩ := id hx
  refine rl_Met.of (by decide +kernel) (Nat.le_of_ble_eq_true rfl) ?_
  intro X hC hB
  show rl_G X (rl_e D ids H0) 0 [some (.ref x), some (.int t), none] [] h n 0 0
  refine o_aload_n hC dX7_ways_0 (by rfl) ?_
  refine o_iload_n hC dX7_ways_1 (by rfl) ?_
  refine o_callV1 hC rl_BW_good rl_Ns_nw (by exact hB.2.2.2.2.2) YX7_resultTuple IX7_resultTuple VX7_resultTuple (mX7_141 hC) (by rw [hB.1]; exact fr_X7_resultTuple l D ids H0 h n x _ hx) (by exact h1) rfl rfl (Nat.le_of_ble_eq_true rfl) (by rw [hB.2.1]; first | exact Nat.le_of_ble_eq_true rfl | (dsimp only; omega)) (by rw [hB.2.1]; first | exact Nat.le_of_ble_eq_true rfl | (dsimp only; omega)) (by rw [hB.2.1]; first | exact Nat.le_of_ble_eq_true rfl | (dsimp only; omega)) (by rw [hB.2.1]; first | exact Nat.le_of_ble_eq_true rfl | (dsimp only; omega)) dX7_ways_2 (fun v h_2 n_2 p_2 => ?_)
  obtain ⟨rfl, rfl, rfl⟩ := p_2
  try dsimp only [Option.toList, List.cons_append, List.nil_append]
  refine o_astore_nN hC dX7_ways_5 (Nat.le_of_ble_eq_true rfl) ?_
  refine o_aload_nN hC dX7_ways_6 (by rfl) ?_
  refine o_ifnonnullN hC dX7_ways_7 ?_
  refine o_iconst (v := (-1 : Int32)) hC dX7_ways_10 (by decide +kernel) ?_
  refine o_goto (tgt := 21) hC dX7_ways_11 (by decide) ?_
  refine o_iret hC hB dX7_ways_21 (Nat.le_of_ble_eq_true rfl) (Nat.le_of_ble_eq_true rfl) ?_
  exact ⟨rfl, rfl, rfl⟩

set_option maxHeartbeats 4000000 in
set_option maxRecDepth 100000 in
theorem fr_X7_holds (l : Launch) (D : va_G) (ids : Nat → ClassId) (H0 : Heap) (h : rl_H) (n : Nat) (x : Nat) (t : Int32) (hx : rw_new ids h x) : rl_Met l (rl_e D ids H0) rl_BW rl_Ns yX7_holds cX7_holds 3 (some .int) ({ frames := 3, cells := 0, slots := 0, locals := 64 }) [.ref x, .int t] h n (fun v h' n' => v = some (.int (-1)) ∧ h' = h ∧ n' = n) := by
  obtain ⟨h1, hso, hop, hnd, htb, hno, hbl⟩ := id hx
  refine rl_Met.of (by decide +kernel) (Nat.le_of_ble_eq_true rfl) ?_
  intro X hC hB
  show rl_G X (rl_e D ids H0) 0 [some (.ref x), some (.int t), none] [] h n 0 0
  refine o_aload_n hC dX7_holds_0 (by rfl) ?_
  refine o_iload_n hC dX7_holds_1 (by rfl) ?_
  refine o_callV1 hC rl_BW_good rl_Ns_nw (by exact hB.2.2.2.2.2) YX7_resultTuple IX7_resultTuple VX7_resultTuple (mX7_141 hC) (by rw [hB.1]; exact fr_X7_resultTuple l D ids H0 h n x _ hx) (by exact h1) rfl rfl (Nat.le_of_ble_eq_true rfl) (by rw [hB.2.1]; first | exact Nat.le_of_ble_eq_true rfl | (dsimp only; omega)) (by rw [hB.2.1]; first | exact Nat.le_of_ble_eq_true rfl | (dsimp only; omega)) (by rw [hB.2.1]; first | exact Nat.le_of_ble_eq_true rfl | (dsimp only; omega)) (by rw [hB.2.1]; first | exact Nat.le_of_ble_eq_true rfl | (dsimp only; omega)) dX7_holds_2 (fun v h_2 n_2 p_2 => ?_)
  obtain ⟨rfl, rfl, rfl⟩ := p_2
  try dsimp only [Option.toList, List.cons_append, List.nil_append]
  refine o_astore_nN hC dX7_holds_5 (Nat.le_of_ble_eq_true rfl) ?_
  refine o_aload_nN hC dX7_holds_6 (by rfl) ?_
  refine o_ifnonnullN hC dX7_holds_7 ?_
  refine o_iconst (v := (-1 : Int32)) hC dX7_holds_10 (by decide +kernel) ?_
  refine o_goto (tgt := 28) hC dX7_holds_11 (by decide) ?_
  refine o_iret hC hB dX7_holds_28 (Nat.le_of_ble_eq_true rfl) (Nat.le_of_ble_eq_true rfl) ?_
  exact ⟨rfl, rfl, rfl⟩

set_option maxHeartbeats 4000000 in
set_option maxRecDepth 100000 in
theorem fr_X7_made (l : Launch) (D : va_G) (ids : Nat → ClassId) (H0 : Heap) (h : rl_H) (n : Nat) (x : Nat) (t : Int32) (hx : rw_new ids h x) : rl_Met l (rl_e D ids H0) rl_BW rl_Ns yX7_made cX7_made 3 (some .int) ({ frames := 3, cells := 0, slots := 0, locals := 64 }) [.ref x, .int t] h n (fun v h' n' => v = some (.int (-1)) ∧ h' = h ∧ n' = n) := by
  obtain ⟨h1, hso, hop, hnd, htb, hno, hbl⟩ := id hx
  refine rl_Met.of (by decide +kernel) (Nat.le_of_ble_eq_true rfl) ?_
  intro X hC hB
  show rl_G X (rl_e D ids H0) 0 [some (.ref x), some (.int t), none] [] h n 0 0
  refine o_aload_n hC dX7_made_0 (by rfl) ?_
  refine o_iload_n hC dX7_made_1 (by rfl) ?_
  refine o_callV1 hC rl_BW_good rl_Ns_nw (by exact hB.2.2.2.2.2) YX7_resultTuple IX7_resultTuple VX7_resultTuple (mX7_141 hC) (by rw [hB.1]; exact fr_X7_resultTuple l D ids H0 h n x _ hx) (by exact h1) rfl rfl (Nat.le_of_ble_eq_true rfl) (by rw [hB.2.1]; first | exact Nat.le_of_ble_eq_true rfl | (dsimp only; omega)) (by rw [hB.2.1]; first | exact Nat.le_of_ble_eq_true rfl | (dsimp only; omega)) (by rw [hB.2.1]; first | exact Nat.le_of_ble_eq_true rfl | (dsimp only; omega)) (by rw [hB.2.1]; first | exact Nat.le_of_ble_eq_true rfl | (dsimp only; omega)) dX7_made_2 (fun v h_2 n_2 p_2 => ?_)
  obtain ⟨rfl, rfl, rfl⟩ := p_2
  try dsimp only [Option.toList, List.cons_append, List.nil_append]
  refine o_astore_nN hC dX7_made_5 (Nat.le_of_ble_eq_true rfl) ?_
  refine o_aload_nN hC dX7_made_6 (by rfl) ?_
  refine o_ifnonnullN hC dX7_made_7 ?_
  refine o_iconst (v := (-1 : Int32)) hC dX7_made_10 (by decide +kernel) ?_
  refine o_goto (tgt := 25) hC dX7_made_11 (by decide) ?_
  refine o_iret hC hB dX7_made_25 (Nat.le_of_ble_eq_true rfl) (Nat.le_of_ble_eq_true rfl) ?_
  exact ⟨rfl, rfl, rfl⟩

set_option maxHeartbeats 4000000 in
set_option maxRecDepth 100000 in
theorem fr_X7_count (l : Launch) (D : va_G) (ids : Nat → ClassId) (H0 : Heap) (h : rl_H) (n : Nat) (x : Nat) (t : Int32) (hx : rw_new ids h x) : rl_Met l (rl_e D ids H0) rl_BW rl_Ns yX7_count cX7_count 4 (some .int) ({ frames := 3, cells := 0, slots := 0, locals := 64 }) [.ref x, .int t] h n (fun v h' n' => v = some (.int (-1)) ∧ h' = h ∧ n' = n) := by
  obtain ⟨h1, hso, hop, hnd, htb, hno, hbl⟩ := id hx
  refine rl_Met.of (by decide +kernel) (Nat.le_of_ble_eq_true rfl) ?_
  intro X hC hB
  show rl_G X (rl_e D ids H0) 0 [some (.ref x), some (.int t), none, none] [] h n 0 0
  refine o_aload_n hC dX7_count_0 (by rfl) ?_
  refine o_iload_n hC dX7_count_1 (by rfl) ?_
  refine o_callV1 hC rl_BW_good rl_Ns_nw (by exact hB.2.2.2.2.2) YX7_resultTuple IX7_resultTuple VX7_resultTuple (mX7_141 hC) (by rw [hB.1]; exact fr_X7_resultTuple l D ids H0 h n x _ hx) (by exact h1) rfl rfl (Nat.le_of_ble_eq_true rfl) (by rw [hB.2.1]; first | exact Nat.le_of_ble_eq_true rfl | (dsimp only; omega)) (by rw [hB.2.1]; first | exact Nat.le_of_ble_eq_true rfl | (dsimp only; omega)) (by rw [hB.2.1]; first | exact Nat.le_of_ble_eq_true rfl | (dsimp only; omega)) (by rw [hB.2.1]; first | exact Nat.le_of_ble_eq_true rfl | (dsimp only; omega)) dX7_count_2 (fun v h_2 n_2 p_2 => ?_)
  obtain ⟨rfl, rfl, rfl⟩ := p_2
  try dsimp only [Option.toList, List.cons_append, List.nil_append]
  refine o_astore_nN hC dX7_count_5 (Nat.le_of_ble_eq_true rfl) ?_
  refine o_aload_nN hC dX7_count_6 (by rfl) ?_
  refine o_ifnonnullN hC dX7_count_7 ?_
  refine o_iconst (v := (-1 : Int32)) hC dX7_count_10 (by decide +kernel) ?_
  refine o_iret hC hB dX7_count_11 (Nat.le_of_ble_eq_true rfl) (Nat.le_of_ble_eq_true rfl) ?_
  exact ⟨rfl, rfl, rfl⟩

set_option maxHeartbeats 4000000 in
set_option maxRecDepth 100000 in
theorem fr_X7_blame (l : Launch) (D : va_G) (ids : Nat → ClassId) (H0 : Heap) (h : rl_H) (n : Nat) (x : Nat) (t : Int32) (hx : rw_new ids h x) : rl_Met l (rl_e D ids H0) rl_BW rl_Ns yX7_blame cX7_blame 5 (some .int) ({ frames := 3, cells := 0, slots := 0, locals := 64 }) [.ref x, .int t] h n (fun v h' n' => v = some (.int (-1)) ∧ h' = h ∧ n' = n) := by
  obtain ⟨h1, hso, hop, hnd, htb, hno, hbl⟩ := id hx
  refine rl_Met.of (by decide +kernel) (Nat.le_of_ble_eq_true rfl) ?_
  intro X hC hB
  show rl_G X (rl_e D ids H0) 0 [some (.ref x), some (.int t), none, none, none] [] h n 0 0
  refine o_aload_n hC dX7_blame_0 (by rfl) ?_
  refine o_iload_n hC dX7_blame_1 (by rfl) ?_
  refine o_callV1 hC rl_BW_good rl_Ns_nw (by exact hB.2.2.2.2.2) YX7_resultTuple IX7_resultTuple VX7_resultTuple (mX7_141 hC) (by rw [hB.1]; exact fr_X7_resultTuple l D ids H0 h n x _ hx) (by exact h1) rfl rfl (Nat.le_of_ble_eq_true rfl) (by rw [hB.2.1]; first | exact Nat.le_of_ble_eq_true rfl | (dsimp only; omega)) (by rw [hB.2.1]; first | exact Nat.le_of_ble_eq_true rfl | (dsimp only; omega)) (by rw [hB.2.1]; first | exact Nat.le_of_ble_eq_true rfl | (dsimp only; omega)) (by rw [hB.2.1]; first | exact Nat.le_of_ble_eq_true rfl | (dsimp only; omega)) dX7_blame_2 (fun v h_2 n_2 p_2 => ?_)
  obtain ⟨rfl, rfl, rfl⟩ := p_2
  try dsimp only [Option.toList, List.cons_append, List.nil_append]
  refine o_astore_nN hC dX7_blame_5 (Nat.le_of_ble_eq_true rfl) ?_
  refine o_aload_nN hC dX7_blame_6 (by rfl) ?_
  refine o_ifnonnullN hC dX7_blame_7 ?_
  refine o_iconst (v := (-1 : Int32)) hC dX7_blame_10 (by decide +kernel) ?_
  refine o_iret hC hB dX7_blame_11 (Nat.le_of_ble_eq_true rfl) (Nat.le_of_ble_eq_true rfl) ?_
  exact ⟨rfl, rfl, rfl⟩

set_option maxHeartbeats 4000000 in
set_option maxRecDepth 100000 in
theorem fr_X7_under (l : Launch) (D : va_G) (ids : Nat → ClassId) (H0 : Heap) (h : rl_H) (n : Nat) (x : Nat) (t : Int32) (s : Int64) (hx : rw_new ids h x) : rl_Met l (rl_e D ids H0) rl_BW rl_Ns yX7_under cX7_under 5 (some .int) ({ frames := 3, cells := 0, slots := 0, locals := 64 }) [.ref x, .int t, .long s] h n (fun v h' n' => v = some (.int (-1)) ∧ h' = h ∧ n' = n) := by
  obtain ⟨h1, hso, hop, hnd, htb, hno, hbl⟩ := id hx
  refine rl_Met.of (by decide +kernel) (Nat.le_of_ble_eq_true rfl) ?_
  intro X hC hB
  show rl_G X (rl_e D ids H0) 0 [some (.ref x), some (.int t), some (.long s), none, none] [] h n 0 0
  refine o_aload_n hC dX7_under_0 (by rfl) ?_
  refine o_iload_n hC dX7_under_1 (by rfl) ?_
  refine o_callV1 hC rl_BW_good rl_Ns_nw (by exact hB.2.2.2.2.2) YX7_resultTuple IX7_resultTuple VX7_resultTuple (mX7_141 hC) (by rw [hB.1]; exact fr_X7_resultTuple l D ids H0 h n x _ hx) (by exact h1) rfl rfl (Nat.le_of_ble_eq_true rfl) (by rw [hB.2.1]; first | exact Nat.le_of_ble_eq_true rfl | (dsimp only; omega)) (by rw [hB.2.1]; first | exact Nat.le_of_ble_eq_true rfl | (dsimp only; omega)) (by rw [hB.2.1]; first | exact Nat.le_of_ble_eq_true rfl | (dsimp only; omega)) (by rw [hB.2.1]; first | exact Nat.le_of_ble_eq_true rfl | (dsimp only; omega)) dX7_under_2 (fun v h_2 n_2 p_2 => ?_)
  obtain ⟨rfl, rfl, rfl⟩ := p_2
  try dsimp only [Option.toList, List.cons_append, List.nil_append]
  refine o_astoreN hC dX7_under_5 (Nat.le_of_ble_eq_true rfl) ?_
  refine o_aloadN hC dX7_under_7 (by rfl) ?_
  refine o_ifnonnullN hC dX7_under_9 ?_
  refine o_iconst (v := (-1 : Int32)) hC dX7_under_12 (by decide +kernel) ?_
  refine o_iret hC hB dX7_under_13 (Nat.le_of_ble_eq_true rfl) (Nat.le_of_ble_eq_true rfl) ?_
  exact ⟨rfl, rfl, rfl⟩

set_option maxHeartbeats 4000000 in
set_option maxRecDepth 100000 in
theorem fr_X7_matters (l : Launch) (D : va_G) (ids : Nat → ClassId) (H0 : Heap) (h : rl_H) (n : Nat) (x : Nat) (t r : Int32) (hx : rw_new ids h x) : rl_Met l (rl_e D ids H0) rl_BW rl_Ns yX7_matters cX7_matters 9 (some .int) ({ frames := 3, cells := 0, slots := 0, locals := 64 }) [.ref x, .int t, .int r] h n (fun v h' n' => v = some (.int (-1)) ∧ h' = h ∧ n' = n) := by
  obtain ⟨h1, hso, hop, hnd, htb, hno, hbl⟩ := id hx
  refine rl_Met.of (by decide +kernel) (Nat.le_of_ble_eq_true rfl) ?_
  intro X hC hB
  show rl_G X (rl_e D ids H0) 0 [some (.ref x), some (.int t), some (.int r), none, none, none, none, none, none] [] h n 0 0
  refine o_aload_n hC dX7_matters_0 (by rfl) ?_
  refine o_iload_n hC dX7_matters_1 (by rfl) ?_
  refine o_callV1 hC rl_BW_good rl_Ns_nw (by exact hB.2.2.2.2.2) YX7_resultTuple IX7_resultTuple VX7_resultTuple (mX7_141 hC) (by rw [hB.1]; exact fr_X7_resultTuple l D ids H0 h n x _ hx) (by exact h1) rfl rfl (Nat.le_of_ble_eq_true rfl) (by rw [hB.2.1]; first | exact Nat.le_of_ble_eq_true rfl | (dsimp only; omega)) (by rw [hB.2.1]; first | exact Nat.le_of_ble_eq_true rfl | (dsimp only; omega)) (by rw [hB.2.1]; first | exact Nat.le_of_ble_eq_true rfl | (dsimp only; omega)) (by rw [hB.2.1]; first | exact Nat.le_of_ble_eq_true rfl | (dsimp only; omega)) dX7_matters_2 (fun v h_2 n_2 p_2 => ?_)
  obtain ⟨rfl, rfl, rfl⟩ := p_2
  try dsimp only [Option.toList, List.cons_append, List.nil_append]
  refine o_astore_nN hC dX7_matters_5 (Nat.le_of_ble_eq_true rfl) ?_
  refine o_aload_nN hC dX7_matters_6 (by rfl) ?_
  refine o_ifnullN (tgt := 21) hC dX7_matters_7 (by decide) ?_
  refine o_iconst (v := (-1 : Int32)) hC dX7_matters_21 (by decide +kernel) ?_
  refine o_iret hC hB dX7_matters_22 (Nat.le_of_ble_eq_true rfl) (Nat.le_of_ble_eq_true rfl) ?_
  exact ⟨rfl, rfl, rfl⟩

set_option maxHeartbeats 4000000 in
set_option maxRecDepth 100000 in
theorem fr_X7_drop (l : Launch) (D : va_G) (ids : Nat → ClassId) (H0 : Heap) (h : rl_H) (n : Nat) (x : Nat) (r b : Int32) (hx : rw_new ids h x) : rl_Met l (rl_e D ids H0) rl_BW rl_Ns yX7_drop cX7_drop 5 (some .int) ({ frames := 1, cells := 0, slots := 0, locals := 21 }) [.ref x, .int r, .int b] h n (fun v h' n' => v = some (.int (-1)) ∧ h' = h ∧ n' = n) := by
  obtain ⟨h1, hso, hop, hnd, htb, hno, hbl⟩ := id hx
  refine rl_Met.of (by decide +kernel) (Nat.le_of_ble_eq_true rfl) ?_
  intro X hC hB
  show rl_G X (rl_e D ids H0) 0 [some (.ref x), some (.int r), some (.int b), none, none] [] h n 0 0
  refine o_aload_n hC dX7_drop_0 (by rfl) ?_
  refine o_getf hC (fX7_10 hC rfl) dX7_drop_1 (by repeat (first | with_reducible assumption | (rw [rl_u_s]; done) | (rw [rl_u_s]; rfl) | rw [rl_u_n (by first | with_reducible assumption | omega)])) (by first | rfl | with_reducible assumption) ?_
  refine o_iload_n hC dX7_drop_4 (by rfl) ?_
  refine o_callV1 hC rl_BW_good rl_Ns_nw (by exact hB.2.2.2.2.2) YX3_isRow IX3_isRow VX3_isRow (mX7_178 hC) (by rw [hB.1]; exact ct_X3_isRow l D ids H0 h n (x + 1) _ _ _ 0 0 _ hso) (by exact hso.1) rfl rfl (Nat.le_of_ble_eq_true rfl) (by rw [hB.2.1]; first | exact Nat.le_of_ble_eq_true rfl | (dsimp only; omega)) (by rw [hB.2.1]; first | exact Nat.le_of_ble_eq_true rfl | (dsimp only; omega)) (by rw [hB.2.1]; first | exact Nat.le_of_ble_eq_true rfl | (dsimp only; omega)) (by rw [hB.2.1]; first | exact Nat.le_of_ble_eq_true rfl | (dsimp only; omega)) dX7_drop_5 (fun v h_5 n_5 p_5 => ?_)
  obtain ⟨rfl, rfl, rfl⟩ := p_5
  rw [if_pos (rl_n0 _)]
  try dsimp only [Option.toList, List.cons_append, List.nil_append]
  refine o_if_ne (tgt := 13) hC dX7_drop_8 (by decide) (fun c_8 => ?_) (fun c_8 => ?_)
  · exact absurd rfl c_8
  · refine o_iconst (v := (-1 : Int32)) hC dX7_drop_11 (by decide +kernel) ?_
    refine o_iret hC hB dX7_drop_12 (Nat.le_of_ble_eq_true rfl) (Nat.le_of_ble_eq_true rfl) ?_
    exact ⟨rfl, rfl, rfl⟩

set_option maxHeartbeats 4000000 in
set_option maxRecDepth 100000 in
theorem fr_X7_forward (l : Launch) (D : va_G) (ids : Nat → ClassId) (H0 : Heap) (h : rl_H) (n : Nat) (x : Nat) (r : Int32) (hx : rw_new ids h x) : rl_Met l (rl_e D ids H0) rl_BW rl_Ns yX7_forward cX7_forward 6 (some .int) ({ frames := 1, cells := 0, slots := 0, locals := 21 }) [.ref x, .int r] h n (fun v h' n' => v = some (.int (-1)) ∧ h' = h ∧ n' = n) := by
  obtain ⟨h1, hso, hop, hnd, htb, hno, hbl⟩ := id hx
  refine rl_Met.of (by decide +kernel) (Nat.le_of_ble_eq_true rfl) ?_
  intro X hC hB
  show rl_G X (rl_e D ids H0) 0 [some (.ref x), some (.int r), none, none, none, none] [] h n 0 0
  refine o_aload_n hC dX7_forward_0 (by rfl) ?_
  refine o_getf hC (fX7_10 hC rfl) dX7_forward_1 (by repeat (first | with_reducible assumption | (rw [rl_u_s]; done) | (rw [rl_u_s]; rfl) | rw [rl_u_n (by first | with_reducible assumption | omega)])) (by first | rfl | with_reducible assumption) ?_
  refine o_iload_n hC dX7_forward_4 (by rfl) ?_
  refine o_callV1 hC rl_BW_good rl_Ns_nw (by exact hB.2.2.2.2.2) YX3_isRow IX3_isRow VX3_isRow (mX7_178 hC) (by rw [hB.1]; exact ct_X3_isRow l D ids H0 h n (x + 1) _ _ _ 0 0 _ hso) (by exact hso.1) rfl rfl (Nat.le_of_ble_eq_true rfl) (by rw [hB.2.1]; first | exact Nat.le_of_ble_eq_true rfl | (dsimp only; omega)) (by rw [hB.2.1]; first | exact Nat.le_of_ble_eq_true rfl | (dsimp only; omega)) (by rw [hB.2.1]; first | exact Nat.le_of_ble_eq_true rfl | (dsimp only; omega)) (by rw [hB.2.1]; first | exact Nat.le_of_ble_eq_true rfl | (dsimp only; omega)) dX7_forward_5 (fun v h_5 n_5 p_5 => ?_)
  obtain ⟨rfl, rfl, rfl⟩ := p_5
  rw [if_pos (rl_n0 _)]
  try dsimp only [Option.toList, List.cons_append, List.nil_append]
  refine o_if_ne (tgt := 13) hC dX7_forward_8 (by decide) (fun c_8 => ?_) (fun c_8 => ?_)
  · exact absurd rfl c_8
  · refine o_iconst (v := (-1 : Int32)) hC dX7_forward_11 (by decide +kernel) ?_
    refine o_iret hC hB dX7_forward_12 (Nat.le_of_ble_eq_true rfl) (Nat.le_of_ble_eq_true rfl) ?_
    exact ⟨rfl, rfl, rfl⟩

set_option maxHeartbeats 4000000 in
set_option maxRecDepth 100000 in
theorem fr_X7_source (l : Launch) (D : va_G) (ids : Nat → ClassId) (H0 : Heap) (h : rl_H) (n : Nat) (x : Nat) (c : Int32) (hx : rw_new ids h x) : rl_Met l (rl_e D ids H0) rl_BW rl_Ns yX7_source cX7_source 2 (some .int) ({ frames := 1, cells := 0, slots := 0, locals := 21 }) [.ref x, .int c] h n (fun v h' n' => v = some (.int (if c < nI 1 ∨ ¬ c ≤ nI 4 then -2 else nI 0)) ∧ rl_fr h h' (x + 1) (x + 41) ∧ n' = n) := by
  obtain ⟨h1, hso, hop, hnd, htb, hno, hbl⟩ := id hx
  obtain ⟨h2, h3, h4, h5, h6, h7, h8⟩ := id hso
  refine rl_Met.of (by decide +kernel) (Nat.le_of_ble_eq_true rfl) ?_
  intro X hC hB
  show rl_G X (rl_e D ids H0) 0 [some (.ref x), some (.int c)] [] h n 0 0
  refine o_iload_n hC dX7_source_0 (by rfl) ?_
  refine o_iconst (v := nI 1) hC dX7_source_1 (by decide +kernel) ?_
  refine o_icmp_lt (tgt := 10) hC dX7_source_2 (by decide) (fun c_2 => ?_) (fun c_2 => ?_)
  · refine o_bipush (v := (-2 : Int32)) hC dX7_source_10 (by decide +kernel) ?_
    refine o_iret hC hB dX7_source_12 (Nat.le_of_ble_eq_true rfl) (Nat.le_of_ble_eq_true rfl) ?_
    refine ⟨?_, rl_fr.rf, rfl⟩
    first | rw [if_pos (Or.inl c_2)] | rw [if_pos (Or.inr c_7)]
  · refine o_iload_n hC dX7_source_5 (by rfl) ?_
    refine o_iconst (v := nI 4) hC dX7_source_6 (by decide +kernel) ?_
    refine o_icmp_le (tgt := 13) hC dX7_source_7 (by decide) (fun c_7 => ?_) (fun c_7 => ?_)
    · refine o_aload_n hC dX7_source_13 (by rfl) ?_
      refine o_getf hC (fX7_10 hC rfl) dX7_source_14 (by repeat (first | with_reducible assumption | (rw [rl_u_s]; done) | (rw [rl_u_s]; rfl) | rw [rl_u_n (by first | with_reducible assumption | omega)])) (by first | rfl | with_reducible assumption) ?_
      refine o_getf hC (fX7_53 hC rfl) dX7_source_17 (by repeat (first | with_reducible assumption | (rw [rl_u_s]; done) | (rw [rl_u_s]; rfl) | rw [rl_u_n (by first | with_reducible assumption | omega)])) (by first | rfl | with_reducible assumption) ?_
      refine o_iconst (v := nI 4) hC dX7_source_20 (by decide +kernel) ?_
      refine o_icmp_lt (tgt := 29) hC dX7_source_21 (by decide) (fun c_21 => ?_) (fun c_21 => ?_)
      · refine o_aload_n hC dX7_source_29 (by rfl) ?_
        refine o_getf hC (fX7_10 hC rfl) dX7_source_30 (by repeat (first | with_reducible assumption | (rw [rl_u_s]; done) | (rw [rl_u_s]; rfl) | rw [rl_u_n (by first | with_reducible assumption | omega)])) (by first | rfl | with_reducible assumption) ?_
        refine o_iload_n hC dX7_source_33 (by rfl) ?_
        refine o_callV1 hC rl_BW_good rl_Ns_nw (by exact hB.2.2.2.2.2) YX3_addSource IX3_addSource VX3_addSource (mX7_56 hC) (by rw [hB.1]; exact ct_X3_addSource l D ids H0 h n (x + 1) _ _ _ 0 0 _ hso (by omega)) (by exact hso.1) rfl rfl (Nat.le_of_ble_eq_true rfl) (by rw [hB.2.1]; first | exact Nat.le_of_ble_eq_true rfl | (dsimp only; omega)) (by rw [hB.2.1]; first | exact Nat.le_of_ble_eq_true rfl | (dsimp only; omega)) (by rw [hB.2.1]; first | exact Nat.le_of_ble_eq_true rfl | (dsimp only; omega)) (by rw [hB.2.1]; first | exact Nat.le_of_ble_eq_true rfl | (dsimp only; omega)) dX7_source_34 (fun v h_34 n_34 p_34 => ?_)
        obtain ⟨rfl, rfl, p1, p2⟩ := p_34
        try dsimp only [Option.toList, List.cons_append, List.nil_append]
        refine o_iret hC hB dX7_source_37 (Nat.le_of_ble_eq_true rfl) (Nat.le_of_ble_eq_true rfl) ?_
        refine ⟨?_, p2.wd (by omega) (by omega), rfl⟩
        rw [if_neg (fun q => q.elim c_2 (fun q => q c_7))]
      · exact absurd (by decide +kernel) c_21
    · refine o_bipush (v := (-2 : Int32)) hC dX7_source_10 (by decide +kernel) ?_
      refine o_iret hC hB dX7_source_12 (Nat.le_of_ble_eq_true rfl) (Nat.le_of_ble_eq_true rfl) ?_
      refine ⟨?_, rl_fr.rf, rfl⟩
      first | rw [if_pos (Or.inl c_2)] | rw [if_pos (Or.inr c_7)]
