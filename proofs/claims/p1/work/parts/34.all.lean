section
/-! a fresh RowLineage: what each call answers -/
theorem rl_n0 (x : Int32) : x < 0 ∨ nI 0 ≤ x := by
  by_cases h : x < 0
  · exact Or.inl h
  · exact Or.inr (by rw [nI_0]; exact Int32.not_lt.mp h)

set_option maxHeartbeats 4000000 in
set_option maxRecDepth 100000 in
theorem ct_X7_isNode (l : Launch) (D : va_G) (ids : Nat → ClassId) (H0 : Heap) (h : rl_H) (n : Nat) (x : Nat) (a0 a1 a2 a3 a4 a5 : Value) (nc rs : Int32) (pr : Int64) (q : Int32) (h1 : h x = some (.inr (7, [a0, a1, a2, a3, a4, a5, .int nc, .int rs, .long pr]))) : rl_Met l (rl_e D ids H0) rl_BW rl_Ns yX7_isNode cX7_isNode 2 (some .boolean) ({ frames := 0, cells := 0, slots := 0, locals := 0 }) [.ref x, .int q] h n (fun v h' n' => v = some (.int (if q < 0 ∨ nc ≤ q then nI 0 else nI 1)) ∧ h' = h ∧ n' = n) := by
  refine rl_Met.of (by decide +kernel) (Nat.le_of_ble_eq_true rfl) ?_
  intro X hC hB
  show rl_G X (rl_e D ids H0) 0 [some (.ref x), some (.int q)] [] h n 0 0
  refine o_iload_n hC dX7_isNode_0 (by rfl) ?_
  refine o_if_lt (tgt := 16) hC dX7_isNode_1 (by decide) (fun c_1 => ?_) (fun c_1 => ?_)
  · refine o_iconst (v := nI 0) hC dX7_isNode_16 (by decide +kernel) ?_
    refine o_zret hC hB dX7_isNode_17 (by first | rfl | decide +kernel) (Nat.le_of_ble_eq_true rfl) (Nat.le_of_ble_eq_true rfl) ?_
    refine ⟨?_, rfl, rfl⟩
    first | rw [if_pos (Or.inl c_1)] | rw [if_pos (Or.inr c_9)] | rw [if_neg (fun q => q.elim c_1 c_9)]
  · refine o_iload_n hC dX7_isNode_4 (by rfl) ?_
    refine o_aload_n hC dX7_isNode_5 (by rfl) ?_
    refine o_getf hC (fX7_78 hC rfl) dX7_isNode_6 (by repeat (first | with_reducible assumption | (rw [rl_u_s]; done) | (rw [rl_u_s]; rfl) | rw [rl_u_n (by first | with_reducible assumption | omega)])) (by first | rfl | with_reducible assumption) ?_
    refine o_icmp_ge (tgt := 16) hC dX7_isNode_9 (by decide) (fun c_9 => ?_) (fun c_9 => ?_)
    · refine o_iconst (v := nI 0) hC dX7_isNode_16 (by decide +kernel) ?_
      refine o_zret hC hB dX7_isNode_17 (by first | rfl | decide +kernel) (Nat.le_of_ble_eq_true rfl) (Nat.le_of_ble_eq_true rfl) ?_
      refine ⟨?_, rfl, rfl⟩
      first | rw [if_pos (Or.inl c_1)] | rw [if_pos (Or.inr c_9)] | rw [if_neg (fun q => q.elim c_1 c_9)]
    · refine o_iconst (v := nI 1) hC dX7_isNode_12 (by decide +kernel) ?_
      refine o_goto (tgt := 17) hC dX7_isNode_13 (by decide) ?_
      refine o_zret hC hB dX7_isNode_17 (by first | rfl | decide +kernel) (Nat.le_of_ble_eq_true rfl) (Nat.le_of_ble_eq_true rfl) ?_
      refine ⟨?_, rfl, rfl⟩
      first | rw [if_pos (Or.inl c_1)] | rw [if_pos (Or.inr c_9)] | rw [if_neg (fun q => q.elim c_1 c_9)]

set_option maxHeartbeats 4000000 in
set_option maxRecDepth 100000 in
theorem fr_X7_hasColumn (l : Launch) (D : va_G) (ids : Nat → ClassId) (H0 : Heap) (h : rl_H) (n : Nat) (x : Nat) (q c : Int32) (hx : rw_new ids h x) : rl_Met l (rl_e D ids H0) rl_BW rl_Ns yX7_hasColumn cX7_hasColumn 3 (some .boolean) ({ frames := 1, cells := 0, slots := 0, locals := 21 }) [.ref x, .int q, .int c] h n (fun v h' n' => v = some (.int (nI 0)) ∧ h' = h ∧ n' = n) := by
  obtain ⟨h1, hso, hop, hnd, htb, hno, hbl⟩ := hx
  refine rl_Met.of (by decide +kernel) (Nat.le_of_ble_eq_true rfl) ?_
  intro X hC hB
  show rl_G X (rl_e D ids H0) 0 [some (.ref x), some (.int q), some (.int c)] [] h n 0 0
  refine o_aload_n hC dX7_hasColumn_0 (by rfl) ?_
  refine o_iload_n hC dX7_hasColumn_1 (by rfl) ?_
  refine o_callV1 hC rl_BW_good rl_Ns_nw (by exact hB.2.2.2.2.2) YX7_isNode IX7_isNode VX7_isNode (mX7_100 hC) (by rw [hB.1]; exact ct_X7_isNode l D ids H0 h n x _ _ _ _ _ _ _ _ _ _ h1) (by exact h1) rfl rfl (Nat.le_of_ble_eq_true rfl) (by rw [hB.2.1]; first | exact Nat.le_of_ble_eq_true rfl | (dsimp only; omega)) (by rw [hB.2.1]; first | exact Nat.le_of_ble_eq_true rfl | (dsimp only; omega)) (by rw [hB.2.1]; first | exact Nat.le_of_ble_eq_true rfl | (dsimp only; omega)) (by rw [hB.2.1]; first | exact Nat.le_of_ble_eq_true rfl | (dsimp only; omega)) dX7_hasColumn_2 (fun v h_2 n_2 p_2 => ?_)
  obtain ⟨rfl, rfl, rfl⟩ := p_2
  rw [if_pos (rl_n0 _)]
  try dsimp only [Option.toList, List.cons_append, List.nil_append]
  refine o_if_eq (tgt := 29) hC dX7_hasColumn_5 (by decide) (fun c_5 => ?_) (fun c_5 => ?_)
  · refine o_iconst (v := nI 0) hC dX7_hasColumn_29 (by decide +kernel) ?_
    refine o_zret hC hB dX7_hasColumn_30 (by first | rfl | decide +kernel) (Nat.le_of_ble_eq_true rfl) (Nat.le_of_ble_eq_true rfl) ?_
    exact ⟨rfl, rfl, rfl⟩
  · exact absurd c_5 (by decide +kernel)

set_option maxHeartbeats 4000000 in
set_option maxRecDepth 100000 in
theorem fr_X7_tableOf (l : Launch) (D : va_G) (ids : Nat → ClassId) (H0 : Heap) (h : rl_H) (n : Nat) (x : Nat) (q : Int32) (hx : rw_new ids h x) : rl_Met l (rl_e D ids H0) rl_BW rl_Ns yX7_tableOf cX7_tableOf 2 (some (.object "RowLineage$Table")) ({ frames := 1, cells := 0, slots := 0, locals := 21 }) [.ref x, .int q] h n (fun v h' n' => v = some (.ref (x + 65)) ∧ h' = h ∧ n' = n) := by
  obtain ⟨h1, hso, hop, hnd, htb, hno, hbl⟩ := hx
  refine rl_Met.of (by decide +kernel) (Nat.le_of_ble_eq_true rfl) ?_
  intro X hC hB
  show rl_G X (rl_e D ids H0) 0 [some (.ref x), some (.int q)] [] h n 0 0
  refine o_aload_n hC dX7_tableOf_0 (by rfl) ?_
  refine o_iload_n hC dX7_tableOf_1 (by rfl) ?_
  refine o_callV1 hC rl_BW_good rl_Ns_nw (by exact hB.2.2.2.2.2) YX7_isNode IX7_isNode VX7_isNode (mX7_100 hC) (by rw [hB.1]; exact ct_X7_isNode l D ids H0 h n x _ _ _ _ _ _ _ _ _ _ h1) (by exact h1) rfl rfl (Nat.le_of_ble_eq_true rfl) (by rw [hB.2.1]; first | exact Nat.le_of_ble_eq_true rfl | (dsimp only; omega)) (by rw [hB.2.1]; first | exact Nat.le_of_ble_eq_true rfl | (dsimp only; omega)) (by rw [hB.2.1]; first | exact Nat.le_of_ble_eq_true rfl | (dsimp only; omega)) (by rw [hB.2.1]; first | exact Nat.le_of_ble_eq_true rfl | (dsimp only; omega)) dX7_tableOf_2 (fun v h_2 n_2 p_2 => ?_)
  obtain ⟨rfl, rfl, rfl⟩ := p_2
  rw [if_pos (rl_n0 _)]
  try dsimp only [Option.toList, List.cons_append, List.nil_append]
  refine o_if_eq (tgt := 17) hC dX7_tableOf_5 (by decide) (fun c_5 => ?_) (fun c_5 => ?_)
  · refine o_aload_n hC dX7_tableOf_17 (by rfl) ?_
    refine o_getf hC (fX7_38 hC rfl) dX7_tableOf_18 (by repeat (first | with_reducible assumption | (rw [rl_u_s]; done) | (rw [rl_u_s]; rfl) | rw [rl_u_n (by first | with_reducible assumption | omega)])) (by first | rfl | with_reducible assumption) ?_
    refine o_aret hC hB (by first | exact Or.inl ⟨_, rfl⟩ | exact Or.inr ⟨_, rfl⟩) (by first | exact Or.inl rfl | exact Or.inr ⟨_, rfl⟩) dX7_tableOf_21 (Nat.le_of_ble_eq_true rfl) (Nat.le_of_ble_eq_true rfl) ?_
    exact ⟨rfl, rfl, rfl⟩
  · exact absurd c_5 (by decide +kernel)

set_option maxHeartbeats 4000000 in
set_option maxRecDepth 100000 in
theorem fr_X7_resultTuple (l : Launch) (D : va_G) (ids : Nat → ClassId) (H0 : Heap) (h : rl_H) (n : Nat) (x : Nat) (t : Int32) (hx : rw_new ids h x) : rl_Met l (rl_e D ids H0) rl_BW rl_Ns yX7_resultTuple cX7_resultTuple 3 (some (.object "RowLineage$Tuple")) ({ frames := 2, cells := 0, slots := 0, locals := 42 }) [.ref x, .int t] h n (fun v h' n' => v = some .null ∧ h' = h ∧ n' = n) := by
  obtain ⟨h1, hso, hop, hnd, htb, hno, hbl⟩ := id hx
  refine rl_Met.of (by decide +kernel) (Nat.le_of_ble_eq_true rfl) ?_
  intro X hC hB
  show rl_G X (rl_e D ids H0) 0 [some (.ref x), some (.int t), none] [] h n 0 0
  refine o_aload_n hC dX7_resultTuple_0 (by rfl) ?_
  refine o_aload_n hC dX7_resultTuple_1 (by rfl) ?_
  refine o_getf hC (fX7_49 hC rfl) dX7_resultTuple_2 (by repeat (first | with_reducible assumption | (rw [rl_u_s]; done) | (rw [rl_u_s]; rfl) | rw [rl_u_n (by first | with_reducible assumption | omega)])) (by first | rfl | with_reducible assumption) ?_
  refine o_callV1 hC rl_BW_good rl_Ns_nw (by exact hB.2.2.2.2.2) YX7_tableOf IX7_tableOf VX7_tableOf (mX7_127 hC) (by rw [hB.1]; exact fr_X7_tableOf l D ids H0 h n x _ hx) (by exact h1) rfl rfl (Nat.le_of_ble_eq_true rfl) (by rw [hB.2.1]; first | exact Nat.le_of_ble_eq_true rfl | (dsimp only; omega)) (by rw [hB.2.1]; first | exact Nat.le_of_ble_eq_true rfl | (dsimp only; omega)) (by rw [hB.2.1]; first | exact Nat.le_of_ble_eq_true rfl | (dsimp only; omega)) (by rw [hB.2.1]; first | exact Nat.le_of_ble_eq_true rfl | (dsimp only; omega)) dX7_resultTuple_5 (fun v h_5 n_5 p_5 => ?_)
  obtain ⟨rfl, rfl, rfl⟩ := p_5
  try dsimp only [Option.toList, List.cons_append, List.nil_append]
  refine o_astore_n hC dX7_resultTuple_8 (Nat.le_of_ble_eq_true rfl) ?_
  refine o_iload_n hC dX7_resultTuple_9 (by rfl) ?_
  refine o_if_lt (tgt := 30) hC dX7_resultTuple_10 (by decide) (fun c_10 => ?_) (fun c_10 => ?_)
  · refine o_null hC dX7_resultTuple_30 ?_
    refine o_aret hC hB (by first | exact Or.inl ⟨_, rfl⟩ | exact Or.inr ⟨_, rfl⟩) (by first | exact Or.inl rfl | exact Or.inr ⟨_, rfl⟩) dX7_resultTuple_31 (Nat.le_of_ble_eq_true rfl) (Nat.le_of_ble_eq_true rfl) ?_
    exact ⟨rfl, rfl, rfl⟩
  · refine o_iload_n hC dX7_resultTuple_13 (by rfl) ?_
    refine o_aload_n hC dX7_resultTuple_14 (by rfl) ?_
    refine o_getf hC (fX7_138 hC rfl) dX7_resultTuple_15 (by repeat (first | with_reducible assumption | (rw [rl_u_s]; done) | (rw [rl_u_s]; rfl) | rw [rl_u_n (by first | with_reducible assumption | omega)])) (by first | rfl | with_reducible assumption) ?_
    refine o_icmp_ge (tgt := 30) hC dX7_resultTuple_18 (by decide) (fun c_18 => ?_) (fun c_18 => ?_)
    · refine o_null hC dX7_resultTuple_30 ?_
      refine o_aret hC hB (by first | exact Or.inl ⟨_, rfl⟩ | exact Or.inr ⟨_, rfl⟩) (by first | exact Or.inl rfl | exact Or.inr ⟨_, rfl⟩) dX7_resultTuple_31 (Nat.le_of_ble_eq_true rfl) (Nat.le_of_ble_eq_true rfl) ?_
      exact ⟨rfl, rfl, rfl⟩
    · exact absurd ((rl_n0 t).resolve_left c_10) c_18

set_option maxHeartbeats 4000000 in
set_option maxRecDepth 100000 in
theorem fr_X7_row (l : Launch) (D : va_G) (ids : Nat → ClassId) (H0 : Heap) (h : rl_H) (n : Nat) (x : Nat) (s a b c d : Int32) (hx : rw_new ids h x) : rl_Met l (rl_e D ids H0) rl_BW rl_Ns yX7_row cX7_row 7 (some .int) ({ frames := 1, cells := 0, slots := 0, locals := 21 }) [.ref x, .int s, .int a, .int b, .int c, .int d] h n (fun v h' n' => v = some (.int (-1)) ∧ h' = h ∧ n' = n) := by
  obtain ⟨h1, hso, hop, hnd, htb, hno, hbl⟩ := id hx
  refine rl_Met.of (by decide +kernel) (Nat.le_of_ble_eq_true rfl) ?_
  intro X hC hB
  show rl_G X (rl_e D ids H0) 0 [some (.ref x), some (.int s), some (.int a), some (.int b), some (.int c), some (.int d), none] [] h n 0 0
  refine o_aload_n hC dX7_row_0 (by rfl) ?_
  refine o_getf hC (fX7_10 hC rfl) dX7_row_1 (by repeat (first | with_reducible assumption | (rw [rl_u_s]; done) | (rw [rl_u_s]; rfl) | rw [rl_u_n (by first | with_reducible assumption | omega)])) (by first | rfl | with_reducible assumption) ?_
  refine o_iload_n hC dX7_row_4 (by rfl) ?_
  refine o_callV1 hC rl_BW_good rl_Ns_nw (by exact hB.2.2.2.2.2) YX3_isSource IX3_isSource VX3_isSource (mX7_60 hC) (by rw [hB.1]; exact ct_X3_isSource l D ids H0 h n (x + 1) _ _ _ 0 0 _ hso) (by exact hso.1) rfl rfl (Nat.le_of_ble_eq_true rfl) (by rw [hB.2.1]; first | exact Nat.le_of_ble_eq_true rfl | (dsimp only; omega)) (by rw [hB.2.1]; first | exact Nat.le_of_ble_eq_true rfl | (dsimp only; omega)) (by rw [hB.2.1]; first | exact Nat.le_of_ble_eq_true rfl | (dsimp only; omega)) (by rw [hB.2.1]; first | exact Nat.le_of_ble_eq_true rfl | (dsimp only; omega)) dX7_row_5 (fun v h_5 n_5 p_5 => ?_)
  obtain ⟨rfl, rfl, rfl⟩ := p_5
  rw [if_pos (rl_n0 _)]
  try dsimp only [Option.toList, List.cons_append, List.nil_append]
  refine o_if_ne (tgt := 13) hC dX7_row_8 (by decide) (fun c_8 => ?_) (fun c_8 => ?_)
  · exact absurd rfl c_8
  · refine o_iconst (v := (-1 : Int32)) hC dX7_row_11 (by decide +kernel) ?_
    refine o_iret hC hB dX7_row_12 (Nat.le_of_ble_eq_true rfl) (Nat.le_of_ble_eq_true rfl) ?_
    exact ⟨rfl, rfl, rfl⟩

set_option maxHeartbeats 4000000 in
set_option maxRecDepth 100000 in
theorem fr_X7_scan (l : Launch) (D : va_G) (ids : Nat → ClassId) (H0 : Heap) (h : rl_H) (n : Nat) (x : Nat) (s : Int32) (hx : rw_new ids h x) : rl_Met l (rl_e D ids H0) rl_BW rl_Ns yX7_scan cX7_scan 2 (some .int) ({ frames := 1, cells := 0, slots := 0, locals := 21 }) [.ref x, .int s] h n (fun v h' n' => v = some (.int (-1)) ∧ h' = h ∧ n' = n) := by
  obtain ⟨h1, hso, hop, hnd, htb, hno, hbl⟩ := id hx
  refine rl_Met.of (by decide +kernel) (Nat.le_of_ble_eq_true rfl) ?_
  intro X hC hB
  show rl_G X (rl_e D ids H0) 0 [some (.ref x), some (.int s)] [] h n 0 0
  refine o_aload_n hC dX7_scan_0 (by rfl) ?_
  refine o_getf hC (fX7_10 hC rfl) dX7_scan_1 (by repeat (first | with_reducible assumption | (rw [rl_u_s]; done) | (rw [rl_u_s]; rfl) | rw [rl_u_n (by first | with_reducible assumption | omega)])) (by first | rfl | with_reducible assumption) ?_
  refine o_iload_n hC dX7_scan_4 (by rfl) ?_
  refine o_callV1 hC rl_BW_good rl_Ns_nw (by exact hB.2.2.2.2.2) YX3_isSource IX3_isSource VX3_isSource (mX7_60 hC) (by rw [hB.1]; exact ct_X3_isSource l D ids H0 h n (x + 1) _ _ _ 0 0 _ hso) (by exact hso.1) rfl rfl (Nat.le_of_ble_eq_true rfl) (by rw [hB.2.1]; first | exact Nat.le_of_ble_eq_true rfl | (dsimp only; omega)) (by rw [hB.2.1]; first | exact Nat.le_of_ble_eq_true rfl | (dsimp only; omega)) (by rw [hB.2.1]; first | exact Nat.le_of_ble_eq_true rfl | (dsimp only; omega)) (by rw [hB.2.1]; first | exact Nat.le_of_ble_eq_true rfl | (dsimp only; omega)) dX7_scan_5 (fun v h_5 n_5 p_5 => ?_)
  obtain ⟨rfl, rfl, rfl⟩ := p_5
  rw [if_pos (rl_n0 _)]
  try dsimp only [Option.toList, List.cons_append, List.nil_append]
  refine o_if_ne (tgt := 13) hC dX7_scan_8 (by decide) (fun c_8 => ?_) (fun c_8 => ?_)
  · exact absurd rfl c_8
  · refine o_iconst (v := (-1 : Int32)) hC dX7_scan_11 (by decide +kernel) ?_
    refine o_iret hC hB dX7_scan_12 (Nat.le_of_ble_eq_true rfl) (Nat.le_of_ble_eq_true rfl) ?_
    exact ⟨rfl, rfl, rfl⟩

set_option maxHeartbeats 4000000 in
set_option maxRecDepth 100000 in
theorem fr_X7_pick (l : Launch) (D : va_G) (ids : Nat → ClassId) (H0 : Heap) (h : rl_H) (n : Nat) (x : Nat) (a b c d e : Int32) (hx : rw_new ids h x) : rl_Met l (rl_e D ids H0) rl_BW rl_Ns yX7_pick cX7_pick 6 (some .int) ({ frames := 2, cells := 0, slots := 0, locals := 43 }) [.ref x, .int a, .int b, .int c, .int d, .int e] h n (fun v h' n' => v = some (.int (-1)) ∧ h' = h ∧ n' = n) := by
  obtain ⟨h1, hso, hop, hnd, htb, hno, hbl⟩ := id hx
  refine rl_Met.of (by decide +kernel) (Nat.le_of_ble_eq_true rfl) ?_
  intro X hC hB
  show rl_G X (rl_e D ids H0) 0 [some (.ref x), some (.int a), some (.int b), some (.int c), some (.int d), some (.int e)] [] h n 0 0
  refine o_aload_n hC dX7_pick_0 (by rfl) ?_
  refine o_iload_n hC dX7_pick_1 (by rfl) ?_
  refine o_iload_n hC dX7_pick_2 (by rfl) ?_
  refine o_callV2 hC rl_BW_good rl_Ns_nw (by exact hB.2.2.2.2.2) YX7_hasColumn IX7_hasColumn VX7_hasColumn (mX7_93 hC) (by rw [hB.1]; exact fr_X7_hasColumn l D ids H0 h n x _ _ hx) (by exact h1) rfl rfl (Nat.le_of_ble_eq_true rfl) (by rw [hB.2.1]; first | exact Nat.le_of_ble_eq_true rfl | (dsimp only; omega)) (by rw [hB.2.1]; first | exact Nat.le_of_ble_eq_true rfl | (dsimp only; omega)) (by rw [hB.2.1]; first | exact Nat.le_of_ble_eq_true rfl | (dsimp only; omega)) (by rw [hB.2.1]; first | exact Nat.le_of_ble_eq_true rfl | (dsimp only; omega)) dX7_pick_3 (fun v h_3 n_3 p_3 => ?_)
  obtain ⟨rfl, rfl, rfl⟩ := p_3
  try dsimp only [Option.toList, List.cons_append, List.nil_append]
  refine o_if_eq (tgt := 25) hC dX7_pick_6 (by decide) (fun c_6 => ?_) (fun c_6 => ?_)
  · refine o_iconst (v := (-1 : Int32)) hC dX7_pick_25 (by decide +kernel) ?_
    refine o_iret hC hB dX7_pick_26 (Nat.le_of_ble_eq_true rfl) (Nat.le_of_ble_eq_true rfl) ?_
    exact ⟨rfl, rfl, rfl⟩
  · exact absurd rfl c_6

set_option maxHeartbeats 4000000 in
set_option maxRecDepth 100000 in
theorem fr_X7_cols (l : Launch) (D : va_G) (ids : Nat → ClassId) (H0 : Heap) (h : rl_H) (n : Nat) (x : Nat) (a b : Int32) (hx : rw_new ids h x) : rl_Met l (rl_e D ids H0) rl_BW rl_Ns yX7_cols cX7_cols 3 (some .int) ({ frames := 1, cells := 0, slots := 0, locals := 21 }) [.ref x, .int a, .int b] h n (fun v h' n' => v = some (.int (-1)) ∧ h' = h ∧ n' = n) := by
  obtain ⟨h1, hso, hop, hnd, htb, hno, hbl⟩ := id hx
  refine rl_Met.of (by decide +kernel) (Nat.le_of_ble_eq_true rfl) ?_
  intro X hC hB
  show rl_G X (rl_e D ids H0) 0 [some (.ref x), some (.int a), some (.int b)] [] h n 0 0
  refine o_aload_n hC dX7_cols_0 (by rfl) ?_
  refine o_iload_n hC dX7_cols_1 (by rfl) ?_
  refine o_callV1 hC rl_BW_good rl_Ns_nw (by exact hB.2.2.2.2.2) YX7_isNode IX7_isNode VX7_isNode (mX7_100 hC) (by rw [hB.1]; exact ct_X7_isNode l D ids H0 h n x _ _ _ _ _ _ _ _ _ _ h1) (by exact h1) rfl rfl (Nat.le_of_ble_eq_true rfl) (by rw [hB.2.1]; first | exact Nat.le_of_ble_eq_true rfl | (dsimp only; omega)) (by rw [hB.2.1]; first | exact Nat.le_of_ble_eq_true rfl | (dsimp only; omega)) (by rw [hB.2.1]; first | exact Nat.le_of_ble_eq_true rfl | (dsimp only; omega)) (by rw [hB.2.1]; first | exact Nat.le_of_ble_eq_true rfl | (dsimp only; omega)) dX7_cols_2 (fun v h_2 n_2 p_2 => ?_)
  obtain ⟨rfl, rfl, rfl⟩ := p_2
  rw [if_pos (rl_n0 _)]
  try dsimp only [Option.toList, List.cons_append, List.nil_append]
  refine o_if_ne (tgt := 10) hC dX7_cols_5 (by decide) (fun c_5 => ?_) (fun c_5 => ?_)
  · exact absurd rfl c_5
  · refine o_iconst (v := (-1 : Int32)) hC dX7_cols_8 (by decide +kernel) ?_
    refine o_iret hC hB dX7_cols_9 (Nat.le_of_ble_eq_true rfl) (Nat.le_of_ble_eq_true rfl) ?_
    exact ⟨rfl, rfl, rfl⟩

set_option maxHeartbeats 4000000 in
set_option maxRecDepth 100000 in
theorem fr_X7_join (l : Launch) (D : va_G) (ids : Nat → ClassId) (H0 : Heap) (h : rl_H) (n : Nat) (x : Nat) (a b c d : Int32) (hx : rw_new ids h x) : rl_Met l (rl_e D ids H0) rl_BW rl_Ns yX7_join cX7_join 6 (some .int) ({ frames := 2, cells := 0, slots := 0, locals := 43 }) [.ref x, .int a, .int b, .int c, .int d] h n (fun v h' n' => v = some (.int (-1)) ∧ h' = h ∧ n' = n) := by
  obtain ⟨h1, hso, hop, hnd, htb, hno, hbl⟩ := id hx
  refine rl_Met.of (by decide +kernel) (Nat.le_of_ble_eq_true rfl) ?_
  intro X hC hB
  show rl_G X (rl_e D ids H0) 0 [some (.ref x), some (.int a), some (.int b), some (.int c), some (.int d), none] [] h n 0 0
  refine o_aload_n hC dX7_join_0 (by rfl) ?_
  refine o_iload_n hC dX7_join_1 (by rfl) ?_
  refine o_iload_n hC dX7_join_2 (by rfl) ?_
  refine o_callV2 hC rl_BW_good rl_Ns_nw (by exact hB.2.2.2.2.2) YX7_hasColumn IX7_hasColumn VX7_hasColumn (mX7_93 hC) (by rw [hB.1]; exact fr_X7_hasColumn l D ids H0 h n x _ _ hx) (by exact h1) rfl rfl (Nat.le_of_ble_eq_true rfl) (by rw [hB.2.1]; first | exact Nat.le_of_ble_eq_true rfl | (dsimp only; omega)) (by rw [hB.2.1]; first | exact Nat.le_of_ble_eq_true rfl | (dsimp only; omega)) (by rw [hB.2.1]; first | exact Nat.le_of_ble_eq_true rfl | (dsimp only; omega)) (by rw [hB.2.1]; first | exact Nat.le_of_ble_eq_true rfl | (dsimp only; omega)) dX7_join_3 (fun v h_3 n_3 p_3 => ?_)
  obtain ⟨rfl, rfl, rfl⟩ := p_3
  try dsimp only [Option.toList, List.cons_append, List.nil_append]
  refine o_if_eq (tgt := 19) hC dX7_join_6 (by decide) (fun c_6 => ?_) (fun c_6 => ?_)
  · refine o_iconst (v := (-1 : Int32)) hC dX7_join_19 (by decide +kernel) ?_
    refine o_iret hC hB dX7_join_20 (Nat.le_of_ble_eq_true rfl) (Nat.le_of_ble_eq_true rfl) ?_
    exact ⟨rfl, rfl, rfl⟩
  · exact absurd rfl c_6

set_option maxHeartbeats 4000000 in
set_option maxRecDepth 100000 in
theorem fr_X7_addAlikeNode (l : Launch) (D : va_G) (ids : Nat → ClassId) (H0 : Heap) (h : rl_H) (n : Nat) (x : Nat) (o a b : Int32) (hx : rw_new ids h x) : rl_Met l (rl_e D ids H0) rl_BW rl_Ns yX7_addAlikeNode cX7_addAlikeNode 4 (some .int) ({ frames := 1, cells := 0, slots := 0, locals := 21 }) [.ref x, .int o, .int a, .int b] h n (fun v h' n' => v = some (.int (-1)) ∧ h' = h ∧ n' = n) := by
  obtain ⟨h1, hso, hop, hnd, htb, hno, hbl⟩ := id hx
  refine rl_Met.of (by decide +kernel) (Nat.le_of_ble_eq_true rfl) ?_
  intro X hC hB
  show rl_G X (rl_e D ids H0) 0 [some (.ref x), some (.int o), some (.int a), some (.int b)] [] h n 0 0
  refine o_aload_n hC dX7_addAlikeNode_0 (by rfl) ?_
  refine o_iload_n hC dX7_addAlikeNode_1 (by rfl) ?_
  refine o_callV1 hC rl_BW_good rl_Ns_nw (by exact hB.2.2.2.2.2) YX7_isNode IX7_isNode VX7_isNode (mX7_100 hC) (by rw [hB.1]; exact ct_X7_isNode l D ids H0 h n x _ _ _ _ _ _ _ _ _ _ h1) (by exact h1) rfl rfl (Nat.le_of_ble_eq_true rfl) (by rw [hB.2.1]; first | exact Nat.le_of_ble_eq_true rfl | (dsimp only; omega)) (by rw [hB.2.1]; first | exact Nat.le_of_ble_eq_true rfl | (dsimp only; omega)) (by rw [hB.2.1]; first | exact Nat.le_of_ble_eq_true rfl | (dsimp only; omega)) (by rw [hB.2.1]; first | exact Nat.le_of_ble_eq_true rfl | (dsimp only; omega)) dX7_addAlikeNode_2 (fun v h_2 n_2 p_2 => ?_)
  obtain ⟨rfl, rfl, rfl⟩ := p_2
  rw [if_pos (rl_n0 _)]
  try dsimp only [Option.toList, List.cons_append, List.nil_append]
  refine o_if_eq (tgt := 16) hC dX7_addAlikeNode_5 (by decide) (fun c_5 => ?_) (fun c_5 => ?_)
  · refine o_iconst (v := (-1 : Int32)) hC dX7_addAlikeNode_16 (by decide +kernel) ?_
    refine o_iret hC hB dX7_addAlikeNode_17 (Nat.le_of_ble_eq_true rfl) (Nat.le_of_ble_eq_true rfl) ?_
    exact ⟨rfl, rfl, rfl⟩
  · exact absurd rfl c_5

set_option maxHeartbeats 4000000 in
set_option maxRecDepth 100000 in
theorem fr_X7_unite (l : Launch) (D : va_G) (ids : Nat → ClassId) (H0 : Heap) (h : rl_H) (n : Nat) (x : Nat) (a b : Int32) (hx : rw_new ids h x) : rl_Met l (rl_e D ids H0) rl_BW rl_Ns yX7_unite cX7_unite 3 (some .int) ({ frames := 2, cells := 0, slots := 0, locals := 44 }) [.ref x, .int a, .int b] h n (fun v h' n' => v = some (.int (-1)) ∧ h' = h ∧ n' = n) := by
  obtain ⟨h1, hso, hop, hnd, htb, hno, hbl⟩ := id hx
  refine rl_Met.of (by decide +kernel) (Nat.le_of_ble_eq_true rfl) ?_
  intro X hC hB
  show rl_G X (rl_e D ids H0) 0 [some (.ref x), some (.int a), some (.int b)] [] h n 0 0
  refine o_aload_n hC dX7_unite_0 (by rfl) ?_
  refine o_iconst (v := nI 4) hC dX7_unite_1 (by decide +kernel) ?_
  refine o_iload_n hC dX7_unite_2 (by rfl) ?_
  refine o_iload_n hC dX7_unite_3 (by rfl) ?_
  refine o_callV3 hC rl_BW_good rl_Ns_nw (by exact hB.2.2.2.2.2) YX7_addAlikeNode IX7_addAlikeNode VX7_addAlikeNode (mX7_113 hC) (by rw [hB.1]; exact fr_X7_addAlikeNode l D ids H0 h n x _ _ _ hx) (by exact h1) rfl rfl (Nat.le_of_ble_eq_true rfl) (by rw [hB.2.1]; first | exact Nat.le_of_ble_eq_true rfl | (dsimp only; omega)) (by rw [hB.2.1]; first | exact Nat.le_of_ble_eq_true rfl | (dsimp only; omega)) (by rw [hB.2.1]; first | exact Nat.le_of_ble_eq_true rfl | (dsimp only; omega)) (by rw [hB.2.1]; first | exact Nat.le_of_ble_eq_true rfl | (dsimp only; omega)) dX7_unite_4 (fun v h_4 n_4 p_4 => ?_)
  obtain ⟨rfl, rfl, rfl⟩ := p_4
  try dsimp only [Option.toList, List.cons_append, List.nil_append]
  refine o_iret hC hB dX7_unite_7 (Nat.le_of_ble_eq_true rfl) (Nat.le_of_ble_eq_true rfl) ?_
  exact ⟨rfl, rfl, rfl⟩

set_option maxHeartbeats 4000000 in
set_option maxRecDepth 100000 in
theorem fr_X7_minus (l : Launch) (D : va_G) (ids : Nat → ClassId) (H0 : Heap) (h : rl_H) (n : Nat) (x : Nat) (a b : Int32) (hx : rw_new ids h x) : rl_Met l (rl_e D ids H0) rl_BW rl_Ns yX7_minus cX7_minus 3 (some .int) ({ frames := 2, cells := 0, slots := 0, locals := 44 }) [.ref x, .int a, .int b] h n (fun v h' n' => v = some (.int (-1)) ∧ h' = h ∧ n' = n) := by
  obtain ⟨h1, hso, hop, hnd, htb, hno, hbl⟩ := id hx
  refine rl_Met.of (by decide +kernel) (Nat.le_of_ble_eq_true rfl) ?_
  intro X hC hB
  show rl_G X (rl_e D ids H0) 0 [some (.ref x), some (.int a), some (.int b)] [] h n 0 0
  refine o_aload_n hC dX7_minus_0 (by rfl) ?_
  refine o_iconst (v := nI 5) hC dX7_minus_1 (by decide +kernel) ?_
  refine o_iload_n hC dX7_minus_2 (by rfl) ?_
  refine o_iload_n hC dX7_minus_3 (by rfl) ?_
  refine o_callV3 hC rl_BW_good rl_Ns_nw (by exact hB.2.2.2.2.2) YX7_addAlikeNode IX7_addAlikeNode VX7_addAlikeNode (mX7_113 hC) (by rw [hB.1]; exact fr_X7_addAlikeNode l D ids H0 h n x _ _ _ hx) (by exact h1) rfl rfl (Nat.le_of_ble_eq_true rfl) (by rw [hB.2.1]; first | exact Nat.le_of_ble_eq_true rfl | (dsimp only; omega)) (by rw [hB.2.1]; first | exact Nat.le_of_ble_eq_true rfl | (dsimp only; omega)) (by rw [hB.2.1]; first | exact Nat.le_of_ble_eq_true rfl | (dsimp only; omega)) (by rw [hB.2.1]; first | exact Nat.le_of_ble_eq_true rfl | (dsimp only; omega)) dX7_minus_4 (fun v h_4 n_4 p_4 => ?_)
  obtain ⟨rfl, rfl, rfl⟩ := p_4
  try dsimp only [Option.toList, List.cons_append, List.nil_append]
  refine o_iret hC hB dX7_minus_7 (Nat.le_of_ble_eq_true rfl) (Nat.le_of_ble_eq_true rfl) ?_
  exact ⟨rfl, rfl, rfl⟩

set_option maxHeartbeats 4000000 in
set_option maxRecDepth 100000 in
theorem fr_X7_fold (l : Launch) (D : va_G) (ids : Nat → ClassId) (H0 : Heap) (h : rl_H) (n : Nat) (x : Nat) (a b c d : Int32) (hx : rw_new ids h x) : rl_Met l (rl_e D ids H0) rl_BW rl_Ns yX7_fold cX7_fold 5 (some .int) ({ frames := 2, cells := 0, slots := 0, locals := 43 }) [.ref x, .int a, .int b, .int c, .int d] h n (fun v h' n' => v = some (.int (-1)) ∧ h' = h ∧ n' = n) := by
  obtain ⟨h1, hso, hop, hnd, htb, hno, hbl⟩ := id hx
  refine rl_Met.of (by decide +kernel) (Nat.le_of_ble_eq_true rfl) ?_
  intro X hC hB
  show rl_G X (rl_e D ids H0) 0 [some (.ref x), some (.int a), some (.int b), some (.int c), some (.int d)] [] h n 0 0
  refine o_aload_n hC dX7_fold_0 (by rfl) ?_
  refine o_iload_n hC dX7_fold_1 (by rfl) ?_
  refine o_iload_n hC dX7_fold_2 (by rfl) ?_
  refine o_callV2 hC rl_BW_good rl_Ns_nw (by exact hB.2.2.2.2.2) YX7_hasColumn IX7_hasColumn VX7_hasColumn (mX7_93 hC) (by rw [hB.1]; exact fr_X7_hasColumn l D ids H0 h n x _ _ hx) (by exact h1) rfl rfl (Nat.le_of_ble_eq_true rfl) (by rw [hB.2.1]; first | exact Nat.le_of_ble_eq_true rfl | (dsimp only; omega)) (by rw [hB.2.1]; first | exact Nat.le_of_ble_eq_true rfl | (dsimp only; omega)) (by rw [hB.2.1]; first | exact Nat.le_of_ble_eq_true rfl | (dsimp only; omega)) (by rw [hB.2.1]; first | exact Nat.le_of_ble_eq_true rfl | (dsimp only; omega)) dX7_fold_3 (fun v h_3 n_3 p_3 => ?_)
  obtain ⟨rfl, rfl, rfl⟩ := p_3
  try dsimp only [Option.toList, List.cons_append, List.nil_append]
  refine o_if_eq (tgt := 18) hC dX7_fold_6 (by decide) (fun c_6 => ?_) (fun c_6 => ?_)
  · refine o_iconst (v := (-1 : Int32)) hC dX7_fold_18 (by decide +kernel) ?_
    refine o_iret hC hB dX7_fold_19 (Nat.le_of_ble_eq_true rfl) (Nat.le_of_ble_eq_true rfl) ?_
    exact ⟨rfl, rfl, rfl⟩
  · exact absurd rfl c_6

set_option maxHeartbeats 4000000 in
set_option maxRecDepth 100000 in
theorem fr_X7_columns (l : Launch) (D : va_G) (ids : Nat → ClassId) (H0 : Heap) (h : rl_H) (n : Nat) (x : Nat) (a : Int32) (hx : rw_new ids h x) : rl_Met l (rl_e D ids H0) rl_BW rl_Ns yX7_columns cX7_columns 2 (some .int) ({ frames := 1, cells := 0, slots := 0, locals := 21 }) [.ref x, .int a] h n (fun v h' n' => v = some (.int (-1)) ∧ h' = h ∧ n' = n) := by
  obtain ⟨h1, hso, hop, hnd, htb, hno, hbl⟩ := id hx
  refine rl_Met.of (by decide +kernel) (Nat.le_of_ble_eq_true rfl) ?_
  intro X hC hB
  show rl_G X (rl_e D ids H0) 0 [some (.ref x), some (.int a)] [] h n 0 0
  refine o_aload_n hC dX7_columns_0 (by rfl) ?_
  refine o_iload_n hC dX7_columns_1 (by rfl) ?_
  refine o_callV1 hC rl_BW_good rl_Ns_nw (by exact hB.2.2.2.2.2) YX7_isNode IX7_isNode VX7_isNode (mX7_100 hC) (by rw [hB.1]; exact ct_X7_isNode l D ids H0 h n x _ _ _ _ _ _ _ _ _ _ h1) (by exact h1) rfl rfl (Nat.le_of_ble_eq_true rfl) (by rw [hB.2.1]; first | exact Nat.le_of_ble_eq_true rfl | (dsimp only; omega)) (by rw [hB.2.1]; first | exact Nat.le_of_ble_eq_true rfl | (dsimp only; omega)) (by rw [hB.2.1]; first | exact Nat.le_of_ble_eq_true rfl | (dsimp only; omega)) (by rw [hB.2.1]; first | exact Nat.le_of_ble_eq_true rfl | (dsimp only; omega)) dX7_columns_2 (fun v h_2 n_2 p_2 => ?_)
  obtain ⟨rfl, rfl, rfl⟩ := p_2
  rw [if_pos (rl_n0 _)]
  try dsimp only [Option.toList, List.cons_append, List.nil_append]
  refine o_if_eq (tgt := 20) hC dX7_columns_5 (by decide) (fun c_5 => ?_) (fun c_5 => ?_)
  · refine o_iconst (v := (-1 : Int32)) hC dX7_columns_20 (by decide +kernel) ?_
    refine o_iret hC hB dX7_columns_21 (Nat.le_of_ble_eq_true rfl) (Nat.le_of_ble_eq_true rfl) ?_
    exact ⟨rfl, rfl, rfl⟩
  · exact absurd rfl c_5

set_option maxHeartbeats 4000000 in
set_option maxRecDepth 100000 in
theorem fr_X7_run (l : Launch) (D : va_G) (ids : Nat → ClassId) (H0 : Heap) (h : rl_H) (n : Nat) (x : Nat) (a : Int32) (hx : rw_new ids h x) : rl_Met l (rl_e D ids H0) rl_BW rl_Ns yX7_run cX7_run 9 (some .int) ({ frames := 1, cells := 0, slots := 0, locals := 21 }) [.ref x, .int a] h n (fun v h' n' => v = some (.int (-1)) ∧ h' = h ∧ n' = n) := by
  obtain ⟨h1, hso, hop, hnd, htb, hno, hbl⟩ := id hx
  refine rl_Met.of (by decide +kernel) (Nat.le_of_ble_eq_true rfl) ?_
  intro X hC hB
  show rl_G X (rl_e D ids H0) 0 [some (.ref x), some (.int a), none, none, none, none, none, none, none] [] h n 0 0
  refine o_aload_n hC dX7_run_0 (by rfl) ?_
  refine o_iload_n hC dX7_run_1 (by rfl) ?_
  refine o_callV1 hC rl_BW_good rl_Ns_nw (by exact hB.2.2.2.2.2) YX7_isNode IX7_isNode VX7_isNode (mX7_100 hC) (by rw [hB.1]; exact ct_X7_isNode l D ids H0 h n x _ _ _ _ _ _ _ _ _ _ h1) (by exact h1) rfl rfl (Nat.le_of_ble_eq_true rfl) (by rw [hB.2.1]; first | exact Nat.le_of_ble_eq_true rfl | (dsimp only; omega)) (by rw [hB.2.1]; first | exact Nat.le_of_ble_eq_true rfl | (dsimp only; omega)) (by rw [hB.2.1]; first | exact Nat.le_of_ble_eq_true rfl | (dsimp only; omega)) (by rw [hB.2.1]; first | exact Nat.le_of_ble_eq_true rfl | (dsimp only; omega)) dX7_run_2 (fun v h_2 n_2 p_2 => ?_)
  obtain ⟨rfl, rfl, rfl⟩ := p_2
  rw [if_pos (rl_n0 _)]
  try dsimp only [Option.toList, List.cons_append, List.nil_append]
  refine o_if_ne (tgt := 10) hC dX7_run_5 (by decide) (fun c_5 => ?_) (fun c_5 => ?_)
  · exact absurd rfl c_5
  · refine o_iconst (v := (-1 : Int32)) hC dX7_run_8 (by decide +kernel) ?_
    refine o_iret hC hB dX7_run_9 (Nat.le_of_ble_eq_true rfl) (Nat.le_of_ble_eq_true rfl) ?_
    exact ⟨rfl, rfl, rfl⟩

set_option maxHeartbeats 4000000 in
set_option maxRecDepth 100000 in
theorem fr_X7_ways (l : Launch) (D : va_G) (ids : Nat → ClassId) (H0 : Heap) (h : rl_H) (n : Nat) (x : Nat) (t : Int32) (hx : rw_new ids h x) : rl_Met l (rl_e D ids H0) rl_BW rl_Ns yX7_ways cX7_ways 3 (some .int) ({ frames := 3, cells := 0, slots := 0, locals := 64 }) [.ref x, .int t] h n (fun v h' n' => v = some (.int (-1)) ∧ h' = h ∧ n' = n) := by
  obtain ⟨h1, hso, hop, hnd, htb, hno, hbl⟩ := id hx
  refine rl_Met.of (by decide +kernel) (Nat.le_of_ble_eq_true rfl) ?_
  intro X hC hB
  show rl_G X (rl_e D ids H0) 0 [some (.ref x), some (.int t), none] [] h n 0 0
  refine o_aload_n hC dX7_ways_0 (by rfl) ?_
  refine o_iload_n hC dX7_ways_1 (by rfl) ?_
  refine o_callV1 hC rl_BW_good rl_Ns_nw (by exact hB.2.2.2.2.2) YX7_resultTuple IX7_resultTuple VX7_resultTuple (mX7_141 hC) (by rw [hB.1]; exact fr_X7_resultTuple l D ids H0 h n x _ hx) (by exact h1) rfl rfl (Nat.le_of_ble_eq_true rfl) (by rw [hB.2.1]; first | exact Nat.le_of_ble_eq_true rfl | (dsimp only; omega)) (by rw [hB.2.1]; first | exact Nat.le_of_ble_eq_true rfl | (dsimp only; omega)) (by rw [hB.2.1]; first | exact Nat.le_of_ble_eq_true rfl | (dsimp only; omega)) (by rw [hB.2.1]; first | exact Nat.le_of_ble_eq_true rfl | (dsimp only; omega)) dX7_ways_2 (fun v h_2 n_2 p_2 => ?_)
  obtain ⟨rfl, rfl, rfl⟩ := p_2
  try dsimp only [Option.toList, List.cons_append, List.nil_append]
  refine o_astore_nN hC dX7_ways_5 (Nat.le_of_ble_eq_true rfl) ?_
  refine o_aload_nN hC dX7_ways_6 (by rfl) ?_
  refine o_ifnonnullN hC dX7_ways_7 ?_
  refine o_iconst (v := (-1 : Int32)) hC dX7_ways_10 (by decide +kernel) ?_
  refine o_goto (tgt := 21) hC dX7_ways_11 (by decide) ?_
  refine o_iret hC hB dX7_ways_21 (Nat.le_of_ble_eq_true rfl) (Nat.le_of_ble_eq_true rfl) ?_
  exact ⟨rfl, rfl, rfl⟩

set_option maxHeartbeats 4000000 in
set_option maxRecDepth 100000 in
theorem fr_X7_holds (l : Launch) (D : va_G) (ids : Nat → ClassId) (H0 : Heap) (h : rl_H) (n : Nat) (x : Nat) (t : Int32) (hx : rw_new ids h x) : rl_Met l (rl_e D ids H0) rl_BW rl_Ns yX7_holds cX7_holds 3 (some .int) ({ frames := 3, cells := 0, slots := 0, locals := 64 }) [.ref x, .int t] h n (fun v h' n' => v = some (.int (-1)) ∧ h' = h ∧ n' = n) := by
  obtain ⟨h1, hso, hop, hnd, htb, hno, hbl⟩ := id hx
  refine rl_Met.of (by decide +kernel) (Nat.le_of_ble_eq_true rfl) ?_
  intro X hC hB
  show rl_G X (rl_e D ids H0) 0 [some (.ref x), some (.int t), none] [] h n 0 0
  refine o_aload_n hC dX7_holds_0 (by rfl) ?_
  refine o_iload_n hC dX7_holds_1 (by rfl) ?_
  refine o_callV1 hC rl_BW_good rl_Ns_nw (by exact hB.2.2.2.2.2) YX7_resultTuple IX7_resultTuple VX7_resultTuple (mX7_141 hC) (by rw [hB.1]; exact fr_X7_resultTuple l D ids H0 h n x _ hx) (by exact h1) rfl rfl (Nat.le_of_ble_eq_true rfl) (by rw [hB.2.1]; first | exact Nat.le_of_ble_eq_true rfl | (dsimp only; omega)) (by rw [hB.2.1]; first | exact Nat.le_of_ble_eq_true rfl | (dsimp only; omega)) (by rw [hB.2.1]; first | exact Nat.le_of_ble_eq_true rfl | (dsimp only; omega)) (by rw [hB.2.1]; first | exact Nat.le_of_ble_eq_true rfl | (dsimp only; omega)) dX7_holds_2 (fun v h_2 n_2 p_2 => ?_)
  obtain ⟨rfl, rfl, rfl⟩ := p_2
  try dsimp only [Option.toList, List.cons_append, List.nil_append]
  refine o_astore_nN hC dX7_holds_5 (Nat.le_of_ble_eq_true rfl) ?_
  refine o_aload_nN hC dX7_holds_6 (by rfl) ?_
  refine o_ifnonnullN hC dX7_holds_7 ?_
  refine o_iconst (v := (-1 : Int32)) hC dX7_holds_10 (by decide +kernel) ?_
  refine o_goto (tgt := 28) hC dX7_holds_11 (by decide) ?_
  refine o_iret hC hB dX7_holds_28 (Nat.le_of_ble_eq_true rfl) (Nat.le_of_ble_eq_true rfl) ?_
  exact ⟨rfl, rfl, rfl⟩

set_option maxHeartbeats 4000000 in
set_option maxRecDepth 100000 in
theorem fr_X7_made (l : Launch) (D : va_G) (ids : Nat → ClassId) (H0 : Heap) (h : rl_H) (n : Nat) (x : Nat) (t : Int32) (hx : rw_new ids h x) : rl_Met l (rl_e D ids H0) rl_BW rl_Ns yX7_made cX7_made 3 (some .int) ({ frames := 3, cells := 0, slots := 0, locals := 64 }) [.ref x, .int t] h n (fun v h' n' => v = some (.int (-1)) ∧ h' = h ∧ n' = n) := by
  obtain ⟨h1, hso, hop, hnd, htb, hno, hbl⟩ := id hx
  refine rl_Met.of (by decide +kernel) (Nat.le_of_ble_eq_true rfl) ?_
  intro X hC hB
  show rl_G X (rl_e D ids H0) 0 [some (.ref x), some (.int t), none] [] h n 0 0
  refine o_aload_n hC dX7_made_0 (by rfl) ?_
  refine o_iload_n hC dX7_made_1 (by rfl) ?_
  refine o_callV1 hC rl_BW_good rl_Ns_nw (by exact hB.2.2.2.2.2) YX7_resultTuple IX7_resultTuple VX7_resultTuple (mX7_141 hC) (by rw [hB.1]; exact fr_X7_resultTuple l D ids H0 h n x _ hx) (by exact h1) rfl rfl (Nat.le_of_ble_eq_true rfl) (by rw [hB.2.1]; first | exact Nat.le_of_ble_eq_true rfl | (dsimp only; omega)) (by rw [hB.2.1]; first | exact Nat.le_of_ble_eq_true rfl | (dsimp only; omega)) (by rw [hB.2.1]; first | exact Nat.le_of_ble_eq_true rfl | (dsimp only; omega)) (by rw [hB.2.1]; first | exact Nat.le_of_ble_eq_true rfl | (dsimp only; omega)) dX7_made_2 (fun v h_2 n_2 p_2 => ?_)
  obtain ⟨rfl, rfl, rfl⟩ := p_2
  try dsimp only [Option.toList, List.cons_append, List.nil_append]
  refine o_astore_nN hC dX7_made_5 (Nat.le_of_ble_eq_true rfl) ?_
  refine o_aload_nN hC dX7_made_6 (by rfl) ?_
  refine o_ifnonnullN hC dX7_made_7 ?_
  refine o_iconst (v := (-1 : Int32)) hC dX7_made_10 (by decide +kernel) ?_
  refine o_goto (tgt := 25) hC dX7_made_11 (by decide) ?_
  refine o_iret hC hB dX7_made_25 (Nat.le_of_ble_eq_true rfl) (Nat.le_of_ble_eq_true rfl) ?_
  exact ⟨rfl, rfl, rfl⟩

set_option maxHeartbeats 4000000 in
set_option maxRecDepth 100000 in
theorem fr_X7_count (l : Launch) (D : va_G) (ids : Nat → ClassId) (H0 : Heap) (h : rl_H) (n : Nat) (x : Nat) (t : Int32) (hx : rw_new ids h x) : rl_Met l (rl_e D ids H0) rl_BW rl_Ns yX7_count cX7_count 4 (some .int) ({ frames := 3, cells := 0, slots := 0, locals := 64 }) [.ref x, .int t] h n (fun v h' n' => v = some (.int (-1)) ∧ h' = h ∧ n' = n) := by
  obtain ⟨h1, hso, hop, hnd, htb, hno, hbl⟩ := id hx
  refine rl_Met.of (by decide +kernel) (Nat.le_of_ble_eq_true rfl) ?_
  intro X hC hB
  show rl_G X (rl_e D ids H0) 0 [some (.ref x), some (.int t), none, none] [] h n 0 0
  refine o_aload_n hC dX7_count_0 (by rfl) ?_
  refine o_iload_n hC dX7_count_1 (by rfl) ?_
  refine o_callV1 hC rl_BW_good rl_Ns_nw (by exact hB.2.2.2.2.2) YX7_resultTuple IX7_resultTuple VX7_resultTuple (mX7_141 hC) (by rw [hB.1]; exact fr_X7_resultTuple l D ids H0 h n x _ hx) (by exact h1) rfl rfl (Nat.le_of_ble_eq_true rfl) (by rw [hB.2.1]; first | exact Nat.le_of_ble_eq_true rfl | (dsimp only; omega)) (by rw [hB.2.1]; first | exact Nat.le_of_ble_eq_true rfl | (dsimp only; omega)) (by rw [hB.2.1]; first | exact Nat.le_of_ble_eq_true rfl | (dsimp only; omega)) (by rw [hB.2.1]; first | exact Nat.le_of_ble_eq_true rfl | (dsimp only; omega)) dX7_count_2 (fun v h_2 n_2 p_2 => ?_)
  obtain ⟨rfl, rfl, rfl⟩ := p_2
  try dsimp only [Option.toList, List.cons_append, List.nil_append]
  refine o_astore_nN hC dX7_count_5 (Nat.le_of_ble_eq_true rfl) ?_
  refine o_aload_nN hC dX7_count_6 (by rfl) ?_
  refine o_ifnonnullN hC dX7_count_7 ?_
  refine o_iconst (v := (-1 : Int32)) hC dX7_count_10 (by decide +kernel) ?_
  refine o_iret hC hB dX7_count_11 (Nat.le_of_ble_eq_true rfl) (Nat.le_of_ble_eq_true rfl) ?_
  exact ⟨rfl, rfl, rfl⟩

set_option maxHeartbeats 4000000 in
set_option maxRecDepth 100000 in
theorem fr_X7_blame (l : Launch) (D : va_G) (ids : Nat → ClassId) (H0 : Heap) (h : rl_H) (n : Nat) (x : Nat) (t : Int32) (hx : rw_new ids h x) : rl_Met l (rl_e D ids H0) rl_BW rl_Ns yX7_blame cX7_blame 5 (some .int) ({ frames := 3, cells := 0, slots := 0, locals := 64 }) [.ref x, .int t] h n (fun v h' n' => v = some (.int (-1)) ∧ h' = h ∧ n' = n) := by
  obtain ⟨h1, hso, hop, hnd, htb, hno, hbl⟩ := id hx
  refine rl_Met.of (by decide +kernel) (Nat.le_of_ble_eq_true rfl) ?_
  intro X hC hB
  show rl_G X (rl_e D ids H0) 0 [some (.ref x), some (.int t), none, none, none] [] h n 0 0
  refine o_aload_n hC dX7_blame_0 (by rfl) ?_
  refine o_iload_n hC dX7_blame_1 (by rfl) ?_
  refine o_callV1 hC rl_BW_good rl_Ns_nw (by exact hB.2.2.2.2.2) YX7_resultTuple IX7_resultTuple VX7_resultTuple (mX7_141 hC) (by rw [hB.1]; exact fr_X7_resultTuple l D ids H0 h n x _ hx) (by exact h1) rfl rfl (Nat.le_of_ble_eq_true rfl) (by rw [hB.2.1]; first | exact Nat.le_of_ble_eq_true rfl | (dsimp only; omega)) (by rw [hB.2.1]; first | exact Nat.le_of_ble_eq_true rfl | (dsimp only; omega)) (by rw [hB.2.1]; first | exact Nat.le_of_ble_eq_true rfl | (dsimp only; omega)) (by rw [hB.2.1]; first | exact Nat.le_of_ble_eq_true rfl | (dsimp only; omega)) dX7_blame_2 (fun v h_2 n_2 p_2 => ?_)
  obtain ⟨rfl, rfl, rfl⟩ := p_2
  try dsimp only [Option.toList, List.cons_append, List.nil_append]
  refine o_astore_nN hC dX7_blame_5 (Nat.le_of_ble_eq_true rfl) ?_
  refine o_aload_nN hC dX7_blame_6 (by rfl) ?_
  refine o_ifnonnullN hC dX7_blame_7 ?_
  refine o_iconst (v := (-1 : Int32)) hC dX7_blame_10 (by decide +kernel) ?_
  refine o_iret hC hB dX7_blame_11 (Nat.le_of_ble_eq_true rfl) (Nat.le_of_ble_eq_true rfl) ?_
  exact ⟨rfl, rfl, rfl⟩

set_option maxHeartbeats 4000000 in
set_option maxRecDepth 100000 in
theorem fr_X7_under (l : Launch) (D : va_G) (ids : Nat → ClassId) (H0 : Heap) (h : rl_H) (n : Nat) (x : Nat) (t : Int32) (s : Int64) (hx : rw_new ids h x) : rl_Met l (rl_e D ids H0) rl_BW rl_Ns yX7_under cX7_under 5 (some .int) ({ frames := 3, cells := 0, slots := 0, locals := 64 }) [.ref x, .int t, .long s] h n (fun v h' n' => v = some (.int (-1)) ∧ h' = h ∧ n' = n) := by
  obtain ⟨h1, hso, hop, hnd, htb, hno, hbl⟩ := id hx
  refine rl_Met.of (by decide +kernel) (Nat.le_of_ble_eq_true rfl) ?_
  intro X hC hB
  show rl_G X (rl_e D ids H0) 0 [some (.ref x), some (.int t), some (.long s), none, none] [] h n 0 0
  refine o_aload_n hC dX7_under_0 (by rfl) ?_
  refine o_iload_n hC dX7_under_1 (by rfl) ?_
  refine o_callV1 hC rl_BW_good rl_Ns_nw (by exact hB.2.2.2.2.2) YX7_resultTuple IX7_resultTuple VX7_resultTuple (mX7_141 hC) (by rw [hB.1]; exact fr_X7_resultTuple l D ids H0 h n x _ hx) (by exact h1) rfl rfl (Nat.le_of_ble_eq_true rfl) (by rw [hB.2.1]; first | exact Nat.le_of_ble_eq_true rfl | (dsimp only; omega)) (by rw [hB.2.1]; first | exact Nat.le_of_ble_eq_true rfl | (dsimp only; omega)) (by rw [hB.2.1]; first | exact Nat.le_of_ble_eq_true rfl | (dsimp only; omega)) (by rw [hB.2.1]; first | exact Nat.le_of_ble_eq_true rfl | (dsimp only; omega)) dX7_under_2 (fun v h_2 n_2 p_2 => ?_)
  obtain ⟨rfl, rfl, rfl⟩ := p_2
  try dsimp only [Option.toList, List.cons_append, List.nil_append]
  refine o_astoreN hC dX7_under_5 (Nat.le_of_ble_eq_true rfl) ?_
  refine o_aloadN hC dX7_under_7 (by rfl) ?_
  refine o_ifnonnullN hC dX7_under_9 ?_
  refine o_iconst (v := (-1 : Int32)) hC dX7_under_12 (by decide +kernel) ?_
  refine o_iret hC hB dX7_under_13 (Nat.le_of_ble_eq_true rfl) (Nat.le_of_ble_eq_true rfl) ?_
  exact ⟨rfl, rfl, rfl⟩

set_option maxHeartbeats 4000000 in
set_option maxRecDepth 100000 in
theorem fr_X7_matters (l : Launch) (D : va_G) (ids : Nat → ClassId) (H0 : Heap) (h : rl_H) (n : Nat) (x : Nat) (t r : Int32) (hx : rw_new ids h x) : rl_Met l (rl_e D ids H0) rl_BW rl_Ns yX7_matters cX7_matters 9 (some .int) ({ frames := 3, cells := 0, slots := 0, locals := 64 }) [.ref x, .int t, .int r] h n (fun v h' n' => v = some (.int (-1)) ∧ h' = h ∧ n' = n) := by
  obtain ⟨h1, hso, hop, hnd, htb, hno, hbl⟩ := id hx
  refine rl_Met.of (by decide +kernel) (Nat.le_of_ble_eq_true rfl) ?_
  intro X hC hB
  show rl_G X (rl_e D ids H0) 0 [some (.ref x), some (.int t), some (.int r), none, none, none, none, none, none] [] h n 0 0
  refine o_aload_n hC dX7_matters_0 (by rfl) ?_
  refine o_iload_n hC dX7_matters_1 (by rfl) ?_
  refine o_callV1 hC rl_BW_good rl_Ns_nw (by exact hB.2.2.2.2.2) YX7_resultTuple IX7_resultTuple VX7_resultTuple (mX7_141 hC) (by rw [hB.1]; exact fr_X7_resultTuple l D ids H0 h n x _ hx) (by exact h1) rfl rfl (Nat.le_of_ble_eq_true rfl) (by rw [hB.2.1]; first | exact Nat.le_of_ble_eq_true rfl | (dsimp only; omega)) (by rw [hB.2.1]; first | exact Nat.le_of_ble_eq_true rfl | (dsimp only; omega)) (by rw [hB.2.1]; first | exact Nat.le_of_ble_eq_true rfl | (dsimp only; omega)) (by rw [hB.2.1]; first | exact Nat.le_of_ble_eq_true rfl | (dsimp only; omega)) dX7_matters_2 (fun v h_2 n_2 p_2 => ?_)
  obtain ⟨rfl, rfl, rfl⟩ := p_2
  try dsimp only [Option.toList, List.cons_append, List.nil_append]
  refine o_astore_nN hC dX7_matters_5 (Nat.le_of_ble_eq_true rfl) ?_
  refine o_aload_nN hC dX7_matters_6 (by rfl) ?_
  refine o_ifnullN (tgt := 21) hC dX7_matters_7 (by decide) ?_
  refine o_iconst (v := (-1 : Int32)) hC dX7_matters_21 (by decide +kernel) ?_
  refine o_iret hC hB dX7_matters_22 (Nat.le_of_ble_eq_true rfl) (Nat.le_of_ble_eq_true rfl) ?_
  exact ⟨rfl, rfl, rfl⟩

set_option maxHeartbeats 4000000 in
set_option maxRecDepth 100000 in
theorem fr_X7_drop (l : Launch) (D : va_G) (ids : Nat → ClassId) (H0 : Heap) (h : rl_H) (n : Nat) (x : Nat) (r b : Int32) (hx : rw_new ids h x) : rl_Met l (rl_e D ids H0) rl_BW rl_Ns yX7_drop cX7_drop 5 (some .int) ({ frames := 1, cells := 0, slots := 0, locals := 21 }) [.ref x, .int r, .int b] h n (fun v h' n' => v = some (.int (-1)) ∧ h' = h ∧ n' = n) := by
  obtain ⟨h1, hso, hop, hnd, htb, hno, hbl⟩ := id hx
  refine rl_Met.of (by decide +kernel) (Nat.le_of_ble_eq_true rfl) ?_
  intro X hC hB
  show rl_G X (rl_e D ids H0) 0 [some (.ref x), some (.int r), some (.int b), none, none] [] h n 0 0
  refine o_aload_n hC dX7_drop_0 (by rfl) ?_
  refine o_getf hC (fX7_10 hC rfl) dX7_drop_1 (by repeat (first | with_reducible assumption | (rw [rl_u_s]; done) | (rw [rl_u_s]; rfl) | rw [rl_u_n (by first | with_reducible assumption | omega)])) (by first | rfl | with_reducible assumption) ?_
  refine o_iload_n hC dX7_drop_4 (by rfl) ?_
  refine o_callV1 hC rl_BW_good rl_Ns_nw (by exact hB.2.2.2.2.2) YX3_isRow IX3_isRow VX3_isRow (mX7_178 hC) (by rw [hB.1]; exact ct_X3_isRow l D ids H0 h n (x + 1) _ _ _ 0 0 _ hso) (by exact hso.1) rfl rfl (Nat.le_of_ble_eq_true rfl) (by rw [hB.2.1]; first | exact Nat.le_of_ble_eq_true rfl | (dsimp only; omega)) (by rw [hB.2.1]; first | exact Nat.le_of_ble_eq_true rfl | (dsimp only; omega)) (by rw [hB.2.1]; first | exact Nat.le_of_ble_eq_true rfl | (dsimp only; omega)) (by rw [hB.2.1]; first | exact Nat.le_of_ble_eq_true rfl | (dsimp only; omega)) dX7_drop_5 (fun v h_5 n_5 p_5 => ?_)
  obtain ⟨rfl, rfl, rfl⟩ := p_5
  rw [if_pos (rl_n0 _)]
  try dsimp only [Option.toList, List.cons_append, List.nil_append]
  refine o_if_ne (tgt := 13) hC dX7_drop_8 (by decide) (fun c_8 => ?_) (fun c_8 => ?_)
  · exact absurd rfl c_8
  · refine o_iconst (v := (-1 : Int32)) hC dX7_drop_11 (by decide +kernel) ?_
    refine o_iret hC hB dX7_drop_12 (Nat.le_of_ble_eq_true rfl) (Nat.le_of_ble_eq_true rfl) ?_
    exact ⟨rfl, rfl, rfl⟩

set_option maxHeartbeats 4000000 in
set_option maxRecDepth 100000 in
theorem fr_X7_forward (l : Launch) (D : va_G) (ids : Nat → ClassId) (H0 : Heap) (h : rl_H) (n : Nat) (x : Nat) (r : Int32) (hx : rw_new ids h x) : rl_Met l (rl_e D ids H0) rl_BW rl_Ns yX7_forward cX7_forward 6 (some .int) ({ frames := 1, cells := 0, slots := 0, locals := 21 }) [.ref x, .int r] h n (fun v h' n' => v = some (.int (-1)) ∧ h' = h ∧ n' = n) := by
  obtain ⟨h1, hso, hop, hnd, htb, hno, hbl⟩ := id hx
  refine rl_Met.of (by decide +kernel) (Nat.le_of_ble_eq_true rfl) ?_
  intro X hC hB
  show rl_G X (rl_e D ids H0) 0 [some (.ref x), some (.int r), none, none, none, none] [] h n 0 0
  refine o_aload_n hC dX7_forward_0 (by rfl) ?_
  refine o_getf hC (fX7_10 hC rfl) dX7_forward_1 (by repeat (first | with_reducible assumption | (rw [rl_u_s]; done) | (rw [rl_u_s]; rfl) | rw [rl_u_n (by first | with_reducible assumption | omega)])) (by first | rfl | with_reducible assumption) ?_
  refine o_iload_n hC dX7_forward_4 (by rfl) ?_
  refine o_callV1 hC rl_BW_good rl_Ns_nw (by exact hB.2.2.2.2.2) YX3_isRow IX3_isRow VX3_isRow (mX7_178 hC) (by rw [hB.1]; exact ct_X3_isRow l D ids H0 h n (x + 1) _ _ _ 0 0 _ hso) (by exact hso.1) rfl rfl (Nat.le_of_ble_eq_true rfl) (by rw [hB.2.1]; first | exact Nat.le_of_ble_eq_true rfl | (dsimp only; omega)) (by rw [hB.2.1]; first | exact Nat.le_of_ble_eq_true rfl | (dsimp only; omega)) (by rw [hB.2.1]; first | exact Nat.le_of_ble_eq_true rfl | (dsimp only; omega)) (by rw [hB.2.1]; first | exact Nat.le_of_ble_eq_true rfl | (dsimp only; omega)) dX7_forward_5 (fun v h_5 n_5 p_5 => ?_)
  obtain ⟨rfl, rfl, rfl⟩ := p_5
  rw [if_pos (rl_n0 _)]
  try dsimp only [Option.toList, List.cons_append, List.nil_append]
  refine o_if_ne (tgt := 13) hC dX7_forward_8 (by decide) (fun c_8 => ?_) (fun c_8 => ?_)
  · exact absurd rfl c_8
  · refine o_iconst (v := (-1 : Int32)) hC dX7_forward_11 (by decide +kernel) ?_
    refine o_iret hC hB dX7_forward_12 (Nat.le_of_ble_eq_true rfl) (Nat.le_of_ble_eq_true rfl) ?_
    exact ⟨rfl, rfl, rfl⟩

set_option maxHeartbeats 4000000 in
set_option maxRecDepth 100000 in
theorem fr_X7_source (l : Launch) (D : va_G) (ids : Nat → ClassId) (H0 : Heap) (h : rl_H) (n : Nat) (x : Nat) (c : Int32) (hx : rw_new ids h x) : rl_Met l (rl_e D ids H0) rl_BW rl_Ns yX7_source cX7_source 2 (some .int) ({ frames := 1, cells := 0, slots := 0, locals := 21 }) [.ref x, .int c] h n (fun v h' n' => v = some (.int (if c < nI 1 ∨ ¬ c ≤ nI 4 then -2 else nI 0)) ∧ rl_fr h h' (x + 1) (x + 41) ∧ n' = n) := by
  obtain ⟨h1, hso, hop, hnd, htb, hno, hbl⟩ := id hx
  obtain ⟨h2, h3, h4, h5, h6, h7, h8⟩ := id hso
  refine rl_Met.of (by decide +kernel) (Nat.le_of_ble_eq_true rfl) ?_
  intro X hC hB
  show rl_G X (rl_e D ids H0) 0 [some (.ref x), some (.int c)] [] h n 0 0
  refine o_iload_n hC dX7_source_0 (by rfl) ?_
  refine o_iconst (v := nI 1) hC dX7_source_1 (by decide +kernel) ?_
  refine o_icmp_lt (tgt := 10) hC dX7_source_2 (by decide) (fun c_2 => ?_) (fun c_2 => ?_)
  · refine o_bipush (v := (-2 : Int32)) hC dX7_source_10 (by decide +kernel) ?_
    refine o_iret hC hB dX7_source_12 (Nat.le_of_ble_eq_true rfl) (Nat.le_of_ble_eq_true rfl) ?_
    refine ⟨?_, rl_fr.rf, rfl⟩
    first | rw [if_pos (Or.inl c_2)] | rw [if_pos (Or.inr c_7)]
  · refine o_iload_n hC dX7_source_5 (by rfl) ?_
    refine o_iconst (v := nI 4) hC dX7_source_6 (by decide +kernel) ?_
    refine o_icmp_le (tgt := 13) hC dX7_source_7 (by decide) (fun c_7 => ?_) (fun c_7 => ?_)
    · refine o_aload_n hC dX7_source_13 (by rfl) ?_
      refine o_getf hC (fX7_10 hC rfl) dX7_source_14 (by repeat (first | with_reducible assumption | (rw [rl_u_s]; done) | (rw [rl_u_s]; rfl) | rw [rl_u_n (by first | with_reducible assumption | omega)])) (by first | rfl | with_reducible assumption) ?_
      refine o_getf hC (fX7_53 hC rfl) dX7_source_17 (by repeat (first | with_reducible assumption | (rw [rl_u_s]; done) | (rw [rl_u_s]; rfl) | rw [rl_u_n (by first | with_reducible assumption | omega)])) (by first | rfl | with_reducible assumption) ?_
      refine o_iconst (v := nI 4) hC dX7_source_20 (by decide +kernel) ?_
      refine o_icmp_lt (tgt := 29) hC dX7_source_21 (by decide) (fun c_21 => ?_) (fun c_21 => ?_)
      · refine o_aload_n hC dX7_source_29 (by rfl) ?_
        refine o_getf hC (fX7_10 hC rfl) dX7_source_30 (by repeat (first | with_reducible assumption | (rw [rl_u_s]; done) | (rw [rl_u_s]; rfl) | rw [rl_u_n (by first | with_reducible assumption | omega)])) (by first | rfl | with_reducible assumption) ?_
        refine o_iload_n hC dX7_source_33 (by rfl) ?_
        refine o_callV1 hC rl_BW_good rl_Ns_nw (by exact hB.2.2.2.2.2) YX3_addSource IX3_addSource VX3_addSource (mX7_56 hC) (by rw [hB.1]; exact ct_X3_addSource l D ids H0 h n (x + 1) _ _ _ 0 0 _ hso (by omega)) (by exact hso.1) rfl rfl (Nat.le_of_ble_eq_true rfl) (by rw [hB.2.1]; first | exact Nat.le_of_ble_eq_true rfl | (dsimp only; omega)) (by rw [hB.2.1]; first | exact Nat.le_of_ble_eq_true rfl | (dsimp only; omega)) (by rw [hB.2.1]; first | exact Nat.le_of_ble_eq_true rfl | (dsimp only; omega)) (by rw [hB.2.1]; first | exact Nat.le_of_ble_eq_true rfl | (dsimp only; omega)) dX7_source_34 (fun v h_34 n_34 p_34 => ?_)
        obtain ⟨rfl, rfl, p1, p2⟩ := p_34
        try dsimp only [Option.toList, List.cons_append, List.nil_append]
        refine o_iret hC hB dX7_source_37 (Nat.le_of_ble_eq_true rfl) (Nat.le_of_ble_eq_true rfl) ?_
        refine ⟨?_, p2.wd (by omega) (by omega), rfl⟩
        rw [if_neg (fun q => q.elim c_2 (fun q => q c_7))]
      · exact absurd (by decide +kernel) c_21
    · refine o_bipush (v := (-2 : Int32)) hC dX7_source_10 (by decide +kernel) ?_
      refine o_iret hC hB dX7_source_12 (Nat.le_of_ble_eq_true rfl) (Nat.le_of_ble_eq_true rfl) ?_
      refine ⟨?_, rl_fr.rf, rfl⟩
      first | rw [if_pos (Or.inl c_2)] | rw [if_pos (Or.inr c_7)]
end
section
/-! a fresh model: what each call answers -/
theorem rl_z0 (x : Int32) : x < 0 ∨ 0 ≤ x := by
  by_cases h : x < 0
  · exact Or.inl h
  · exact Or.inr (Int32.not_lt.mp h)
abbrev md_new (ids : Nat → ClassId) (h : rl_H) (m : Nat) : Prop := md_at ids h m (nI 0) (nI 0) (nI 0) (nI 0) (nI 0) (nI 0) (nI 0) (nI 0) 0 (fun _ => 0) (fun _ => 0) (fun _ => 0) (fun _ => 0) (fun _ => 0) (fun _ => 0) (fun _ => 0) (fun _ => 0) (fun _ => 0) (fun _ => 0) (fun _ => 0) (fun _ => 0) (fun _ => 0) (fun _ => 0) (fun _ => 0) (fun _ => 0) (fun _ => 0) (fun _ => 0) (fun _ => 0) (fun _ => 0) (fun _ => 0) (fun _ => 0)

set_option maxHeartbeats 4000000 in
set_option maxRecDepth 100000 in
theorem ct_X8_isNode (l : Launch) (D : va_G) (ids : Nat → ClassId) (H0 : Heap) (h : rl_H) (n : Nat) (m : Nat) (fs : List Value) (q nc : Int32) (h1 : h m = some (.inr (8, fs))) (h7 : fs[7]? = some (.int nc)) : rl_Met l (rl_e D ids H0) rl_BW rl_Ns yX8_isNode cX8_isNode 2 (some .boolean) ({ frames := 0, cells := 0, slots := 0, locals := 0 }) [.ref m, .int q] h n (fun v h' n' => v = some (.int (if q < 0 ∨ nc ≤ q then nI 0 else nI 1)) ∧ h' = h ∧ n' = n) := by
  refine rl_Met.of (by decide +kernel) (Nat.le_of_ble_eq_true rfl) ?_
  intro X hC hB
  show rl_G X (rl_e D ids H0) 0 [some (.ref m), some (.int q)] [] h n 0 0
  refine o_iload_n hC dX8_isNode_0 (by rfl) ?_
  refine o_if_lt (tgt := 16) hC dX8_isNode_1 (by decide) (fun c_1 => ?_) (fun c_1 => ?_)
  · refine o_iconst (v := nI 0) hC dX8_isNode_16 (by decide +kernel) ?_
    refine o_zret hC hB dX8_isNode_17 (by first | rfl | decide +kernel) (Nat.le_of_ble_eq_true rfl) (Nat.le_of_ble_eq_true rfl) ?_
    refine ⟨?_, rfl, rfl⟩
    first | rw [if_pos (Or.inl c_1)] | rw [if_pos (Or.inr c_9)] | rw [if_neg (fun q => q.elim c_1 c_9)]
  · refine o_iload_n hC dX8_isNode_4 (by rfl) ?_
    refine o_aload_n hC dX8_isNode_5 (by rfl) ?_
    refine o_getf hC (fX8_119 hC rfl) dX8_isNode_6 (by repeat (first | with_reducible assumption | (rw [rl_u_s]; done) | (rw [rl_u_s]; rfl) | rw [rl_u_n (by first | with_reducible assumption | omega)])) (by first | rfl | with_reducible assumption) ?_
    refine o_icmp_ge (tgt := 16) hC dX8_isNode_9 (by decide) (fun c_9 => ?_) (fun c_9 => ?_)
    · refine o_iconst (v := nI 0) hC dX8_isNode_16 (by decide +kernel) ?_
      refine o_zret hC hB dX8_isNode_17 (by first | rfl | decide +kernel) (Nat.le_of_ble_eq_true rfl) (Nat.le_of_ble_eq_true rfl) ?_
      refine ⟨?_, rfl, rfl⟩
      first | rw [if_pos (Or.inl c_1)] | rw [if_pos (Or.inr c_9)] | rw [if_neg (fun q => q.elim c_1 c_9)]
    · refine o_iconst (v := nI 1) hC dX8_isNode_12 (by decide +kernel) ?_
      refine o_goto (tgt := 17) hC dX8_isNode_13 (by decide) ?_
      refine o_zret hC hB dX8_isNode_17 (by first | rfl | decide +kernel) (Nat.le_of_ble_eq_true rfl) (Nat.le_of_ble_eq_true rfl) ?_
      refine ⟨?_, rfl, rfl⟩
      first | rw [if_pos (Or.inl c_1)] | rw [if_pos (Or.inr c_9)] | rw [if_neg (fun q => q.elim c_1 c_9)]

set_option maxHeartbeats 4000000 in
set_option maxRecDepth 100000 in
theorem ct_X8_isTuple (l : Launch) (D : va_G) (ids : Nat → ClassId) (H0 : Heap) (h : rl_H) (n : Nat) (m ta : Nat) (fs : List Value) (q : Int32) (tu : Nat → Int32) (h1 : h m = some (.inr (8, fs))) (h7 : fs[17]? = some (.ref ta)) (h8 : h ta = some (.inl (ids 0, 17, .inl tu))) : rl_Met l (rl_e D ids H0) rl_BW rl_Ns yX8_isTuple cX8_isTuple 2 (some .boolean) ({ frames := 0, cells := 0, slots := 0, locals := 0 }) [.ref m, .int q] h n (fun v h' n' => v = some (.int (if q < 0 ∨ tu 16 ≤ q then nI 0 else nI 1)) ∧ h' = h ∧ n' = n) := by
  refine rl_Met.of (by decide +kernel) (Nat.le_of_ble_eq_true rfl) ?_
  intro X hC hB
  show rl_G X (rl_e D ids H0) 0 [some (.ref m), some (.int q)] [] h n 0 0
  refine o_iload_n hC dX8_isTuple_0 (by rfl) ?_
  refine o_if_lt (tgt := 19) hC dX8_isTuple_1 (by decide) (fun c_1 => ?_) (fun c_1 => ?_)
  · refine o_iconst (v := nI 0) hC dX8_isTuple_19 (by decide +kernel) ?_
    refine o_zret hC hB dX8_isTuple_20 (by first | rfl | decide +kernel) (Nat.le_of_ble_eq_true rfl) (Nat.le_of_ble_eq_true rfl) ?_
    refine ⟨?_, rfl, rfl⟩
    first | rw [if_pos (Or.inl c_1)] | rw [if_pos (Or.inr c_12)] | rw [if_neg (fun q => q.elim c_1 c_12)]
  · refine o_iload_n hC dX8_isTuple_4 (by rfl) ?_
    refine o_aload_n hC dX8_isTuple_5 (by rfl) ?_
    refine o_getf hC (fX8_46 hC rfl) dX8_isTuple_6 (by repeat (first | with_reducible assumption | (rw [rl_u_s]; done) | (rw [rl_u_s]; rfl) | rw [rl_u_n (by first | with_reducible assumption | omega)])) (by first | rfl | with_reducible assumption) ?_
    refine o_bipush (v := nI 16) hC dX8_isTuple_9 (by decide +kernel) ?_
    refine o_ialdN (t0 := 0) hC rfl dX8_isTuple_11 (by repeat (first | with_reducible assumption | (rw [rl_u_s]; done) | (rw [rl_u_s]; rfl) | rw [rl_u_n (by first | with_reducible assumption | omega)])) (by omega) (by decide) ?_
    refine o_icmp_ge (tgt := 19) hC dX8_isTuple_12 (by decide) (fun c_12 => ?_) (fun c_12 => ?_)
    · refine o_iconst (v := nI 0) hC dX8_isTuple_19 (by decide +kernel) ?_
      refine o_zret hC hB dX8_isTuple_20 (by first | rfl | decide +kernel) (Nat.le_of_ble_eq_true rfl) (Nat.le_of_ble_eq_true rfl) ?_
      refine ⟨?_, rfl, rfl⟩
      first | rw [if_pos (Or.inl c_1)] | rw [if_pos (Or.inr c_12)] | rw [if_neg (fun q => q.elim c_1 c_12)]
    · refine o_iconst (v := nI 1) hC dX8_isTuple_15 (by decide +kernel) ?_
      refine o_goto (tgt := 20) hC dX8_isTuple_16 (by decide) ?_
      refine o_zret hC hB dX8_isTuple_20 (by first | rfl | decide +kernel) (Nat.le_of_ble_eq_true rfl) (Nat.le_of_ble_eq_true rfl) ?_
      refine ⟨?_, rfl, rfl⟩
      first | rw [if_pos (Or.inl c_1)] | rw [if_pos (Or.inr c_12)] | rw [if_neg (fun q => q.elim c_1 c_12)]

set_option maxHeartbeats 4000000 in
set_option maxRecDepth 100000 in
theorem ct_X8_thrown (l : Launch) (D : va_G) (ids : Nat → ClassId) (H0 : Heap) (h : rl_H) (n : Nat) (m : Nat) (fs : List Value) (c : Int32) (h1 : h m = some (.inr (8, fs))) (h7 : fs[0]? = some (.int c)) : rl_Met l (rl_e D ids H0) rl_BW rl_Ns yX8_thrown cX8_thrown 1 (some .int) ({ frames := 0, cells := 0, slots := 0, locals := 0 }) [.ref m] h n (fun v h' n' => v = some (.int c) ∧ h' = h ∧ n' = n) := by
  refine rl_Met.of (by decide +kernel) (Nat.le_of_ble_eq_true rfl) ?_
  intro X hC hB
  show rl_G X (rl_e D ids H0) 0 [some (.ref m)] [] h n 0 0
  refine o_aload_n hC dX8_thrown_0 (by rfl) ?_
  refine o_getf hC (fX8_78 hC rfl) dX8_thrown_1 (by repeat (first | with_reducible assumption | (rw [rl_u_s]; done) | (rw [rl_u_s]; rfl) | rw [rl_u_n (by first | with_reducible assumption | omega)])) (by first | rfl | with_reducible assumption) ?_
  refine o_iret hC hB dX8_thrown_4 (Nat.le_of_ble_eq_true rfl) (Nat.le_of_ble_eq_true rfl) ?_
  exact ⟨rfl, rfl, rfl⟩

set_option maxHeartbeats 4000000 in
set_option maxRecDepth 100000 in
theorem fr_X8_row (l : Launch) (D : va_G) (ids : Nat → ClassId) (H0 : Heap) (h : rl_H) (n : Nat) (m : Nat) (s a b c d : Int32) (hm : md_new ids h m) : rl_Met l (rl_e D ids H0) rl_BW rl_Ns yX8_row cX8_row 6 (some .int) ({ frames := 0, cells := 0, slots := 0, locals := 0 }) [.ref m, .int s, .int a, .int b, .int c, .int d] h n (fun v h' n' => v = some (.int (-1)) ∧ n' = n) := by
  obtain ⟨m0, m1, m2, m3, m4, m5, m6, m7, m8, m9, m10, m11, m12, m13, m14, m15, m16, m17, m18, m19, m20, m21, m22⟩ := id hm
  refine rl_Met.of (by decide +kernel) (Nat.le_of_ble_eq_true rfl) ?_
  intro X hC hB
  show rl_G X (rl_e D ids H0) 0 [some (.ref m), some (.int s), some (.int a), some (.int b), some (.int c), some (.int d)] [] h n 0 0
  refine o_aload_n hC dX8_row_0 (by rfl) ?_
  refine o_iconst (v := nI 0) hC dX8_row_1 (by decide +kernel) ?_
  refine o_putf hC (fX8_78 hC rfl) (fwX8 rfl rfl rfl (Or.inl rfl)) dX8_row_2 (by repeat (first | with_reducible assumption | (rw [rl_u_s]; done) | (rw [rl_u_s]; rfl) | rw [rl_u_n (by first | with_reducible assumption | omega)])) (Nat.le_of_ble_eq_true rfl) ?_
  try simp only [List.set_cons_zero, List.set_cons_succ]
  refine o_iload_n hC dX8_row_5 (by rfl) ?_
  refine o_if_lt (tgt := 17) hC dX8_row_6 (by decide) (fun c_6 => ?_) (fun c_6 => ?_)
  · refine o_iconst (v := (-1 : Int32)) hC dX8_row_17 (by decide +kernel) ?_
    refine o_iret hC hB dX8_row_18 (Nat.le_of_ble_eq_true rfl) (Nat.le_of_ble_eq_true rfl) ?_
    exact ⟨rfl, rfl⟩
  · refine o_iload_n hC dX8_row_9 (by rfl) ?_
    refine o_aload_n hC dX8_row_10 (by rfl) ?_
    refine o_getf hC (fX8_109 hC rfl) dX8_row_11 (by repeat (first | with_reducible assumption | (rw [rl_u_s]; done) | (rw [rl_u_s]; rfl) | rw [rl_u_n (by first | with_reducible assumption | omega)])) (by first | rfl | with_reducible assumption) ?_
    refine o_icmp_lt (tgt := 19) hC dX8_row_14 (by decide) (fun c_14 => ?_) (fun c_14 => ?_)
    · exact absurd c_14 (by rw [nI_0]; exact c_6)
    · refine o_iconst (v := (-1 : Int32)) hC dX8_row_17 (by decide +kernel) ?_
      refine o_iret hC hB dX8_row_18 (Nat.le_of_ble_eq_true rfl) (Nat.le_of_ble_eq_true rfl) ?_
      exact ⟨rfl, rfl⟩

set_option maxHeartbeats 4000000 in
set_option maxRecDepth 100000 in
theorem fr_X8_scan (l : Launch) (D : va_G) (ids : Nat → ClassId) (H0 : Heap) (h : rl_H) (n : Nat) (m : Nat) (s : Int32) (hm : md_new ids h m) : rl_Met l (rl_e D ids H0) rl_BW rl_Ns yX8_scan cX8_scan 2 (some .int) ({ frames := 0, cells := 0, slots := 0, locals := 0 }) [.ref m, .int s] h n (fun v h' n' => v = some (.int (-1)) ∧ n' = n) := by
  obtain ⟨m0, m1, m2, m3, m4, m5, m6, m7, m8, m9, m10, m11, m12, m13, m14, m15, m16, m17, m18, m19, m20, m21, m22⟩ := id hm
  refine rl_Met.of (by decide +kernel) (Nat.le_of_ble_eq_true rfl) ?_
  intro X hC hB
  show rl_G X (rl_e D ids H0) 0 [some (.ref m), some (.int s)] [] h n 0 0
  refine o_aload_n hC dX8_scan_0 (by rfl) ?_
  refine o_iconst (v := nI 0) hC dX8_scan_1 (by decide +kernel) ?_
  refine o_putf hC (fX8_78 hC rfl) (fwX8 rfl rfl rfl (Or.inl rfl)) dX8_scan_2 (by repeat (first | with_reducible assumption | (rw [rl_u_s]; done) | (rw [rl_u_s]; rfl) | rw [rl_u_n (by first | with_reducible assumption | omega)])) (Nat.le_of_ble_eq_true rfl) ?_
  try simp only [List.set_cons_zero, List.set_cons_succ]
  refine o_iload_n hC dX8_scan_5 (by rfl) ?_
  refine o_if_lt (tgt := 17) hC dX8_scan_6 (by decide) (fun c_6 => ?_) (fun c_6 => ?_)
  · refine o_iconst (v := (-1 : Int32)) hC dX8_scan_17 (by decide +kernel) ?_
    refine o_iret hC hB dX8_scan_18 (Nat.le_of_ble_eq_true rfl) (Nat.le_of_ble_eq_true rfl) ?_
    exact ⟨rfl, rfl⟩
  · refine o_iload_n hC dX8_scan_9 (by rfl) ?_
    refine o_aload_n hC dX8_scan_10 (by rfl) ?_
    refine o_getf hC (fX8_109 hC rfl) dX8_scan_11 (by repeat (first | with_reducible assumption | (rw [rl_u_s]; done) | (rw [rl_u_s]; rfl) | rw [rl_u_n (by first | with_reducible assumption | omega)])) (by first | rfl | with_reducible assumption) ?_
    refine o_icmp_lt (tgt := 19) hC dX8_scan_14 (by decide) (fun c_14 => ?_) (fun c_14 => ?_)
    · exact absurd c_14 (by rw [nI_0]; exact c_6)
    · refine o_iconst (v := (-1 : Int32)) hC dX8_scan_17 (by decide +kernel) ?_
      refine o_iret hC hB dX8_scan_18 (Nat.le_of_ble_eq_true rfl) (Nat.le_of_ble_eq_true rfl) ?_
      exact ⟨rfl, rfl⟩

set_option maxHeartbeats 4000000 in
set_option maxRecDepth 100000 in
theorem fr_X8_drop (l : Launch) (D : va_G) (ids : Nat → ClassId) (H0 : Heap) (h : rl_H) (n : Nat) (m : Nat) (r b : Int32) (hm : md_new ids h m) : rl_Met l (rl_e D ids H0) rl_BW rl_Ns yX8_drop cX8_drop 4 (some .int) ({ frames := 0, cells := 0, slots := 0, locals := 0 }) [.ref m, .int r, .int b] h n (fun v h' n' => v = some (.int (-1)) ∧ n' = n) := by
  obtain ⟨m0, m1, m2, m3, m4, m5, m6, m7, m8, m9, m10, m11, m12, m13, m14, m15, m16, m17, m18, m19, m20, m21, m22⟩ := id hm
  refine rl_Met.of (by decide +kernel) (Nat.le_of_ble_eq_true rfl) ?_
  intro X hC hB
  show rl_G X (rl_e D ids H0) 0 [some (.ref m), some (.int r), some (.int b), none] [] h n 0 0
  refine o_aload_n hC dX8_drop_0 (by rfl) ?_
  refine o_iconst (v := nI 0) hC dX8_drop_1 (by decide +kernel) ?_
  refine o_putf hC (fX8_78 hC rfl) (fwX8 rfl rfl rfl (Or.inl rfl)) dX8_drop_2 (by repeat (first | with_reducible assumption | (rw [rl_u_s]; done) | (rw [rl_u_s]; rfl) | rw [rl_u_n (by first | with_reducible assumption | omega)])) (Nat.le_of_ble_eq_true rfl) ?_
  try simp only [List.set_cons_zero, List.set_cons_succ]
  refine o_iload_n hC dX8_drop_5 (by rfl) ?_
  refine o_if_lt (tgt := 17) hC dX8_drop_6 (by decide) (fun c_6 => ?_) (fun c_6 => ?_)
  · refine o_iconst (v := (-1 : Int32)) hC dX8_drop_17 (by decide +kernel) ?_
    refine o_iret hC hB dX8_drop_18 (Nat.le_of_ble_eq_true rfl) (Nat.le_of_ble_eq_true rfl) ?_
    exact ⟨rfl, rfl⟩
  · refine o_iload_n hC dX8_drop_9 (by rfl) ?_
    refine o_aload_n hC dX8_drop_10 (by rfl) ?_
    refine o_getf hC (fX8_112 hC rfl) dX8_drop_11 (by repeat (first | with_reducible assumption | (rw [rl_u_s]; done) | (rw [rl_u_s]; rfl) | rw [rl_u_n (by first | with_reducible assumption | omega)])) (by first | rfl | with_reducible assumption) ?_
    refine o_icmp_lt (tgt := 19) hC dX8_drop_14 (by decide) (fun c_14 => ?_) (fun c_14 => ?_)
    · exact absurd c_14 (by rw [nI_0]; exact c_6)
    · refine o_iconst (v := (-1 : Int32)) hC dX8_drop_17 (by decide +kernel) ?_
      refine o_iret hC hB dX8_drop_18 (Nat.le_of_ble_eq_true rfl) (Nat.le_of_ble_eq_true rfl) ?_
      exact ⟨rfl, rfl⟩

set_option maxHeartbeats 4000000 in
set_option maxRecDepth 100000 in
theorem fr_X8_forward (l : Launch) (D : va_G) (ids : Nat → ClassId) (H0 : Heap) (h : rl_H) (n : Nat) (m : Nat) (r : Int32) (hm : md_new ids h m) : rl_Met l (rl_e D ids H0) rl_BW rl_Ns yX8_forward cX8_forward 4 (some .int) ({ frames := 0, cells := 0, slots := 0, locals := 0 }) [.ref m, .int r] h n (fun v h' n' => v = some (.int (-1)) ∧ n' = n) := by
  obtain ⟨m0, m1, m2, m3, m4, m5, m6, m7, m8, m9, m10, m11, m12, m13, m14, m15, m16, m17, m18, m19, m20, m21, m22⟩ := id hm
  refine rl_Met.of (by decide +kernel) (Nat.le_of_ble_eq_true rfl) ?_
  intro X hC hB
  show rl_G X (rl_e D ids H0) 0 [some (.ref m), some (.int r), none, none] [] h n 0 0
  refine o_aload_n hC dX8_forward_0 (by rfl) ?_
  refine o_iconst (v := nI 0) hC dX8_forward_1 (by decide +kernel) ?_
  refine o_putf hC (fX8_78 hC rfl) (fwX8 rfl rfl rfl (Or.inl rfl)) dX8_forward_2 (by repeat (first | with_reducible assumption | (rw [rl_u_s]; done) | (rw [rl_u_s]; rfl) | rw [rl_u_n (by first | with_reducible assumption | omega)])) (Nat.le_of_ble_eq_true rfl) ?_
  try simp only [List.set_cons_zero, List.set_cons_succ]
  refine o_iload_n hC dX8_forward_5 (by rfl) ?_
  refine o_if_lt (tgt := 17) hC dX8_forward_6 (by decide) (fun c_6 => ?_) (fun c_6 => ?_)
  · refine o_iconst (v := (-1 : Int32)) hC dX8_forward_17 (by decide +kernel) ?_
    refine o_iret hC hB dX8_forward_18 (Nat.le_of_ble_eq_true rfl) (Nat.le_of_ble_eq_true rfl) ?_
    exact ⟨rfl, rfl⟩
  · refine o_iload_n hC dX8_forward_9 (by rfl) ?_
    refine o_aload_n hC dX8_forward_10 (by rfl) ?_
    refine o_getf hC (fX8_112 hC rfl) dX8_forward_11 (by repeat (first | with_reducible assumption | (rw [rl_u_s]; done) | (rw [rl_u_s]; rfl) | rw [rl_u_n (by first | with_reducible assumption | omega)])) (by first | rfl | with_reducible assumption) ?_
    refine o_icmp_lt (tgt := 19) hC dX8_forward_14 (by decide) (fun c_14 => ?_) (fun c_14 => ?_)
    · exact absurd c_14 (by rw [nI_0]; exact c_6)
    · refine o_iconst (v := (-1 : Int32)) hC dX8_forward_17 (by decide +kernel) ?_
      refine o_iret hC hB dX8_forward_18 (Nat.le_of_ble_eq_true rfl) (Nat.le_of_ble_eq_true rfl) ?_
      exact ⟨rfl, rfl⟩

set_option maxHeartbeats 4000000 in
set_option maxRecDepth 100000 in
theorem fr_X8_pick (l : Launch) (D : va_G) (ids : Nat → ClassId) (H0 : Heap) (h : rl_H) (n : Nat) (m : Nat) (a b c d e : Int32) (hm : md_new ids h m) : rl_Met l (rl_e D ids H0) rl_BW rl_Ns yX8_pick cX8_pick 6 (some .int) ({ frames := 1, cells := 0, slots := 0, locals := 21 }) [.ref m, .int a, .int b, .int c, .int d, .int e] h n (fun v h' n' => v = some (.int (-1)) ∧ n' = n) := by
  obtain ⟨m0, m1, m2, m3, m4, m5, m6, m7, m8, m9, m10, m11, m12, m13, m14, m15, m16, m17, m18, m19, m20, m21, m22⟩ := id hm
  refine rl_Met.of (by decide +kernel) (Nat.le_of_ble_eq_true rfl) ?_
  intro X hC hB
  show rl_G X (rl_e D ids H0) 0 [some (.ref m), some (.int a), some (.int b), some (.int c), some (.int d), some (.int e)] [] h n 0 0
  refine o_aload_n hC dX8_pick_0 (by rfl) ?_
  refine o_iconst (v := nI 0) hC dX8_pick_1 (by decide +kernel) ?_
  refine o_putf hC (fX8_78 hC rfl) (fwX8 rfl rfl rfl (Or.inl rfl)) dX8_pick_2 (by repeat (first | with_reducible assumption | (rw [rl_u_s]; done) | (rw [rl_u_s]; rfl) | rw [rl_u_n (by first | with_reducible assumption | omega)])) (Nat.le_of_ble_eq_true rfl) ?_
  try simp only [List.set_cons_zero, List.set_cons_succ]
  refine o_aload_n hC dX8_pick_5 (by rfl) ?_
  refine o_iload_n hC dX8_pick_6 (by rfl) ?_
  refine o_callV1 hC rl_BW_good rl_Ns_nw (by exact hB.2.2.2.2.2) YX8_isNode IX8_isNode VX8_isNode (mX8_126 hC) (by rw [hB.1]; exact ct_X8_isNode l D ids H0 _ n m _ _ _ (by repeat (first | with_reducible assumption | (rw [rl_u_s]; done) | (rw [rl_u_s]; rfl) | rw [rl_u_n (by first | with_reducible assumption | omega)])) rfl) (by repeat (first | with_reducible assumption | (rw [rl_u_s]; done) | (rw [rl_u_s]; rfl) | rw [rl_u_n (by first | with_reducible assumption | omega)])) rfl rfl (Nat.le_of_ble_eq_true rfl) (by rw [hB.2.1]; first | exact Nat.le_of_ble_eq_true rfl | (dsimp only; omega)) (by rw [hB.2.1]; first | exact Nat.le_of_ble_eq_true rfl | (dsimp only; omega)) (by rw [hB.2.1]; first | exact Nat.le_of_ble_eq_true rfl | (dsimp only; omega)) (by rw [hB.2.1]; first | exact Nat.le_of_ble_eq_true rfl | (dsimp only; omega)) dX8_pick_7 (fun v h_7 n_7 p_7 => ?_)
  obtain ⟨rfl, rfl, rfl⟩ := p_7
  rw [if_pos (rl_n0 _)]
  try dsimp only [Option.toList, List.cons_append, List.nil_append]
  refine o_if_eq (tgt := 38) hC dX8_pick_10 (by decide) (fun c_10 => ?_) (fun c_10 => ?_)
  · refine o_iconst (v := (-1 : Int32)) hC dX8_pick_38 (by decide +kernel) ?_
    refine o_iret hC hB dX8_pick_39 (Nat.le_of_ble_eq_true rfl) (Nat.le_of_ble_eq_true rfl) ?_
    exact ⟨rfl, rfl⟩
  · exact absurd rfl c_10

set_option maxHeartbeats 4000000 in
set_option maxRecDepth 100000 in
theorem fr_X8_cols (l : Launch) (D : va_G) (ids : Nat → ClassId) (H0 : Heap) (h : rl_H) (n : Nat) (m : Nat) (a b : Int32) (hm : md_new ids h m) : rl_Met l (rl_e D ids H0) rl_BW rl_Ns yX8_cols cX8_cols 6 (some .int) ({ frames := 1, cells := 0, slots := 0, locals := 21 }) [.ref m, .int a, .int b] h n (fun v h' n' => v = some (.int (-1)) ∧ n' = n) := by
  obtain ⟨m0, m1, m2, m3, m4, m5, m6, m7, m8, m9, m10, m11, m12, m13, m14, m15, m16, m17, m18, m19, m20, m21, m22⟩ := id hm
  refine rl_Met.of (by decide +kernel) (Nat.le_of_ble_eq_true rfl) ?_
  intro X hC hB
  show rl_G X (rl_e D ids H0) 0 [some (.ref m), some (.int a), some (.int b), none, none, none] [] h n 0 0
  refine o_aload_n hC dX8_cols_0 (by rfl) ?_
  refine o_iconst (v := nI 0) hC dX8_cols_1 (by decide +kernel) ?_
  refine o_putf hC (fX8_78 hC rfl) (fwX8 rfl rfl rfl (Or.inl rfl)) dX8_cols_2 (by repeat (first | with_reducible assumption | (rw [rl_u_s]; done) | (rw [rl_u_s]; rfl) | rw [rl_u_n (by first | with_reducible assumption | omega)])) (Nat.le_of_ble_eq_true rfl) ?_
  try simp only [List.set_cons_zero, List.set_cons_succ]
  refine o_aload_n hC dX8_cols_5 (by rfl) ?_
  refine o_iload_n hC dX8_cols_6 (by rfl) ?_
  refine o_callV1 hC rl_BW_good rl_Ns_nw (by exact hB.2.2.2.2.2) YX8_isNode IX8_isNode VX8_isNode (mX8_126 hC) (by rw [hB.1]; exact ct_X8_isNode l D ids H0 _ n m _ _ _ (by repeat (first | with_reducible assumption | (rw [rl_u_s]; done) | (rw [rl_u_s]; rfl) | rw [rl_u_n (by first | with_reducible assumption | omega)])) rfl) (by repeat (first | with_reducible assumption | (rw [rl_u_s]; done) | (rw [rl_u_s]; rfl) | rw [rl_u_n (by first | with_reducible assumption | omega)])) rfl rfl (Nat.le_of_ble_eq_true rfl) (by rw [hB.2.1]; first | exact Nat.le_of_ble_eq_true rfl | (dsimp only; omega)) (by rw [hB.2.1]; first | exact Nat.le_of_ble_eq_true rfl | (dsimp only; omega)) (by rw [hB.2.1]; first | exact Nat.le_of_ble_eq_true rfl | (dsimp only; omega)) (by rw [hB.2.1]; first | exact Nat.le_of_ble_eq_true rfl | (dsimp only; omega)) dX8_cols_7 (fun v h_7 n_7 p_7 => ?_)
  obtain ⟨rfl, rfl, rfl⟩ := p_7
  rw [if_pos (rl_n0 _)]
  try dsimp only [Option.toList, List.cons_append, List.nil_append]
  refine o_if_ne (tgt := 15) hC dX8_cols_10 (by decide) (fun c_10 => ?_) (fun c_10 => ?_)
  · exact absurd rfl c_10
  · refine o_iconst (v := (-1 : Int32)) hC dX8_cols_13 (by decide +kernel) ?_
    refine o_iret hC hB dX8_cols_14 (Nat.le_of_ble_eq_true rfl) (Nat.le_of_ble_eq_true rfl) ?_
    exact ⟨rfl, rfl⟩

set_option maxHeartbeats 4000000 in
set_option maxRecDepth 100000 in
theorem fr_X8_join (l : Launch) (D : va_G) (ids : Nat → ClassId) (H0 : Heap) (h : rl_H) (n : Nat) (m : Nat) (a b c d : Int32) (hm : md_new ids h m) : rl_Met l (rl_e D ids H0) rl_BW rl_Ns yX8_join cX8_join 6 (some .int) ({ frames := 1, cells := 0, slots := 0, locals := 21 }) [.ref m, .int a, .int b, .int c, .int d] h n (fun v h' n' => v = some (.int (-1)) ∧ n' = n) := by
  obtain ⟨m0, m1, m2, m3, m4, m5, m6, m7, m8, m9, m10, m11, m12, m13, m14, m15, m16, m17, m18, m19, m20, m21, m22⟩ := id hm
  refine rl_Met.of (by decide +kernel) (Nat.le_of_ble_eq_true rfl) ?_
  intro X hC hB
  show rl_G X (rl_e D ids H0) 0 [some (.ref m), some (.int a), some (.int b), some (.int c), some (.int d), none] [] h n 0 0
  refine o_aload_n hC dX8_join_0 (by rfl) ?_
  refine o_iconst (v := nI 0) hC dX8_join_1 (by decide +kernel) ?_
  refine o_putf hC (fX8_78 hC rfl) (fwX8 rfl rfl rfl (Or.inl rfl)) dX8_join_2 (by repeat (first | with_reducible assumption | (rw [rl_u_s]; done) | (rw [rl_u_s]; rfl) | rw [rl_u_n (by first | with_reducible assumption | omega)])) (Nat.le_of_ble_eq_true rfl) ?_
  try simp only [List.set_cons_zero, List.set_cons_succ]
  refine o_aload_n hC dX8_join_5 (by rfl) ?_
  refine o_iload_n hC dX8_join_6 (by rfl) ?_
  refine o_callV1 hC rl_BW_good rl_Ns_nw (by exact hB.2.2.2.2.2) YX8_isNode IX8_isNode VX8_isNode (mX8_126 hC) (by rw [hB.1]; exact ct_X8_isNode l D ids H0 _ n m _ _ _ (by repeat (first | with_reducible assumption | (rw [rl_u_s]; done) | (rw [rl_u_s]; rfl) | rw [rl_u_n (by first | with_reducible assumption | omega)])) rfl) (by repeat (first | with_reducible assumption | (rw [rl_u_s]; done) | (rw [rl_u_s]; rfl) | rw [rl_u_n (by first | with_reducible assumption | omega)])) rfl rfl (Nat.le_of_ble_eq_true rfl) (by rw [hB.2.1]; first | exact Nat.le_of_ble_eq_true rfl | (dsimp only; omega)) (by rw [hB.2.1]; first | exact Nat.le_of_ble_eq_true rfl | (dsimp only; omega)) (by rw [hB.2.1]; first | exact Nat.le_of_ble_eq_true rfl | (dsimp only; omega)) (by rw [hB.2.1]; first | exact Nat.le_of_ble_eq_true rfl | (dsimp only; omega)) dX8_join_7 (fun v h_7 n_7 p_7 => ?_)
  obtain ⟨rfl, rfl, rfl⟩ := p_7
  rw [if_pos (rl_n0 _)]
  try dsimp only [Option.toList, List.cons_append, List.nil_append]
  refine o_if_eq (tgt := 40) hC dX8_join_10 (by decide) (fun c_10 => ?_) (fun c_10 => ?_)
  · refine o_iconst (v := (-1 : Int32)) hC dX8_join_40 (by decide +kernel) ?_
    refine o_iret hC hB dX8_join_41 (Nat.le_of_ble_eq_true rfl) (Nat.le_of_ble_eq_true rfl) ?_
    exact ⟨rfl, rfl⟩
  · exact absurd rfl c_10

set_option maxHeartbeats 4000000 in
set_option maxRecDepth 100000 in
theorem fr_X8_fold (l : Launch) (D : va_G) (ids : Nat → ClassId) (H0 : Heap) (h : rl_H) (n : Nat) (m : Nat) (a b c d : Int32) (hm : md_new ids h m) : rl_Met l (rl_e D ids H0) rl_BW rl_Ns yX8_fold cX8_fold 5 (some .int) ({ frames := 1, cells := 0, slots := 0, locals := 21 }) [.ref m, .int a, .int b, .int c, .int d] h n (fun v h' n' => v = some (.int (-1)) ∧ n' = n) := by
  obtain ⟨m0, m1, m2, m3, m4, m5, m6, m7, m8, m9, m10, m11, m12, m13, m14, m15, m16, m17, m18, m19, m20, m21, m22⟩ := id hm
  refine rl_Met.of (by decide +kernel) (Nat.le_of_ble_eq_true rfl) ?_
  intro X hC hB
  show rl_G X (rl_e D ids H0) 0 [some (.ref m), some (.int a), some (.int b), some (.int c), some (.int d)] [] h n 0 0
  refine o_aload_n hC dX8_fold_0 (by rfl) ?_
  refine o_iconst (v := nI 0) hC dX8_fold_1 (by decide +kernel) ?_
  refine o_putf hC (fX8_78 hC rfl) (fwX8 rfl rfl rfl (Or.inl rfl)) dX8_fold_2 (by repeat (first | with_reducible assumption | (rw [rl_u_s]; done) | (rw [rl_u_s]; rfl) | rw [rl_u_n (by first | with_reducible assumption | omega)])) (Nat.le_of_ble_eq_true rfl) ?_
  try simp only [List.set_cons_zero, List.set_cons_succ]
  refine o_aload_n hC dX8_fold_5 (by rfl) ?_
  refine o_iload_n hC dX8_fold_6 (by rfl) ?_
  refine o_callV1 hC rl_BW_good rl_Ns_nw (by exact hB.2.2.2.2.2) YX8_isNode IX8_isNode VX8_isNode (mX8_126 hC) (by rw [hB.1]; exact ct_X8_isNode l D ids H0 _ n m _ _ _ (by repeat (first | with_reducible assumption | (rw [rl_u_s]; done) | (rw [rl_u_s]; rfl) | rw [rl_u_n (by first | with_reducible assumption | omega)])) rfl) (by repeat (first | with_reducible assumption | (rw [rl_u_s]; done) | (rw [rl_u_s]; rfl) | rw [rl_u_n (by first | with_reducible assumption | omega)])) rfl rfl (Nat.le_of_ble_eq_true rfl) (by rw [hB.2.1]; first | exact Nat.le_of_ble_eq_true rfl | (dsimp only; omega)) (by rw [hB.2.1]; first | exact Nat.le_of_ble_eq_true rfl | (dsimp only; omega)) (by rw [hB.2.1]; first | exact Nat.le_of_ble_eq_true rfl | (dsimp only; omega)) (by rw [hB.2.1]; first | exact Nat.le_of_ble_eq_true rfl | (dsimp only; omega)) dX8_fold_7 (fun v h_7 n_7 p_7 => ?_)
  obtain ⟨rfl, rfl, rfl⟩ := p_7
  rw [if_pos (rl_n0 _)]
  try dsimp only [Option.toList, List.cons_append, List.nil_append]
  refine o_if_eq (tgt := 31) hC dX8_fold_10 (by decide) (fun c_10 => ?_) (fun c_10 => ?_)
  · refine o_iconst (v := (-1 : Int32)) hC dX8_fold_31 (by decide +kernel) ?_
    refine o_iret hC hB dX8_fold_32 (Nat.le_of_ble_eq_true rfl) (Nat.le_of_ble_eq_true rfl) ?_
    exact ⟨rfl, rfl⟩
  · exact absurd rfl c_10

set_option maxHeartbeats 4000000 in
set_option maxRecDepth 100000 in
theorem fr_X8_columns (l : Launch) (D : va_G) (ids : Nat → ClassId) (H0 : Heap) (h : rl_H) (n : Nat) (m : Nat) (a : Int32) (hm : md_new ids h m) : rl_Met l (rl_e D ids H0) rl_BW rl_Ns yX8_columns cX8_columns 2 (some .int) ({ frames := 1, cells := 0, slots := 0, locals := 21 }) [.ref m, .int a] h n (fun v h' n' => v = some (.int (-1)) ∧ n' = n) := by
  obtain ⟨m0, m1, m2, m3, m4, m5, m6, m7, m8, m9, m10, m11, m12, m13, m14, m15, m16, m17, m18, m19, m20, m21, m22⟩ := id hm
  refine rl_Met.of (by decide +kernel) (Nat.le_of_ble_eq_true rfl) ?_
  intro X hC hB
  show rl_G X (rl_e D ids H0) 0 [some (.ref m), some (.int a)] [] h n 0 0
  refine o_aload_n hC dX8_columns_0 (by rfl) ?_
  refine o_iconst (v := nI 0) hC dX8_columns_1 (by decide +kernel) ?_
  refine o_putf hC (fX8_78 hC rfl) (fwX8 rfl rfl rfl (Or.inl rfl)) dX8_columns_2 (by repeat (first | with_reducible assumption | (rw [rl_u_s]; done) | (rw [rl_u_s]; rfl) | rw [rl_u_n (by first | with_reducible assumption | omega)])) (Nat.le_of_ble_eq_true rfl) ?_
  try simp only [List.set_cons_zero, List.set_cons_succ]
  refine o_aload_n hC dX8_columns_5 (by rfl) ?_
  refine o_iload_n hC dX8_columns_6 (by rfl) ?_
  refine o_callV1 hC rl_BW_good rl_Ns_nw (by exact hB.2.2.2.2.2) YX8_isNode IX8_isNode VX8_isNode (mX8_126 hC) (by rw [hB.1]; exact ct_X8_isNode l D ids H0 _ n m _ _ _ (by repeat (first | with_reducible assumption | (rw [rl_u_s]; done) | (rw [rl_u_s]; rfl) | rw [rl_u_n (by first | with_reducible assumption | omega)])) rfl) (by repeat (first | with_reducible assumption | (rw [rl_u_s]; done) | (rw [rl_u_s]; rfl) | rw [rl_u_n (by first | with_reducible assumption | omega)])) rfl rfl (Nat.le_of_ble_eq_true rfl) (by rw [hB.2.1]; first | exact Nat.le_of_ble_eq_true rfl | (dsimp only; omega)) (by rw [hB.2.1]; first | exact Nat.le_of_ble_eq_true rfl | (dsimp only; omega)) (by rw [hB.2.1]; first | exact Nat.le_of_ble_eq_true rfl | (dsimp only; omega)) (by rw [hB.2.1]; first | exact Nat.le_of_ble_eq_true rfl | (dsimp only; omega)) dX8_columns_7 (fun v h_7 n_7 p_7 => ?_)
  obtain ⟨rfl, rfl, rfl⟩ := p_7
  rw [if_pos (rl_n0 _)]
  try dsimp only [Option.toList, List.cons_append, List.nil_append]
  refine o_if_eq (tgt := 22) hC dX8_columns_10 (by decide) (fun c_10 => ?_) (fun c_10 => ?_)
  · refine o_iconst (v := (-1 : Int32)) hC dX8_columns_22 (by decide +kernel) ?_
    refine o_iret hC hB dX8_columns_23 (Nat.le_of_ble_eq_true rfl) (Nat.le_of_ble_eq_true rfl) ?_
    exact ⟨rfl, rfl⟩
  · exact absurd rfl c_10

set_option maxHeartbeats 4000000 in
set_option maxRecDepth 100000 in
theorem fr_X8_run (l : Launch) (D : va_G) (ids : Nat → ClassId) (H0 : Heap) (h : rl_H) (n : Nat) (m : Nat) (a : Int32) (hm : md_new ids h m) : rl_Met l (rl_e D ids H0) rl_BW rl_Ns yX8_run cX8_run 4 (some .int) ({ frames := 1, cells := 0, slots := 0, locals := 21 }) [.ref m, .int a] h n (fun v h' n' => v = some (.int (-1)) ∧ n' = n) := by
  obtain ⟨m0, m1, m2, m3, m4, m5, m6, m7, m8, m9, m10, m11, m12, m13, m14, m15, m16, m17, m18, m19, m20, m21, m22⟩ := id hm
  refine rl_Met.of (by decide +kernel) (Nat.le_of_ble_eq_true rfl) ?_
  intro X hC hB
  show rl_G X (rl_e D ids H0) 0 [some (.ref m), some (.int a), none, none] [] h n 0 0
  refine o_aload_n hC dX8_run_0 (by rfl) ?_
  refine o_iconst (v := nI 0) hC dX8_run_1 (by decide +kernel) ?_
  refine o_putf hC (fX8_78 hC rfl) (fwX8 rfl rfl rfl (Or.inl rfl)) dX8_run_2 (by repeat (first | with_reducible assumption | (rw [rl_u_s]; done) | (rw [rl_u_s]; rfl) | rw [rl_u_n (by first | with_reducible assumption | omega)])) (Nat.le_of_ble_eq_true rfl) ?_
  try simp only [List.set_cons_zero, List.set_cons_succ]
  refine o_aload_n hC dX8_run_5 (by rfl) ?_
  refine o_iload_n hC dX8_run_6 (by rfl) ?_
  refine o_callV1 hC rl_BW_good rl_Ns_nw (by exact hB.2.2.2.2.2) YX8_isNode IX8_isNode VX8_isNode (mX8_126 hC) (by rw [hB.1]; exact ct_X8_isNode l D ids H0 _ n m _ _ _ (by repeat (first | with_reducible assumption | (rw [rl_u_s]; done) | (rw [rl_u_s]; rfl) | rw [rl_u_n (by first | with_reducible assumption | omega)])) rfl) (by repeat (first | with_reducible assumption | (rw [rl_u_s]; done) | (rw [rl_u_s]; rfl) | rw [rl_u_n (by first | with_reducible assumption | omega)])) rfl rfl (Nat.le_of_ble_eq_true rfl) (by rw [hB.2.1]; first | exact Nat.le_of_ble_eq_true rfl | (dsimp only; omega)) (by rw [hB.2.1]; first | exact Nat.le_of_ble_eq_true rfl | (dsimp only; omega)) (by rw [hB.2.1]; first | exact Nat.le_of_ble_eq_true rfl | (dsimp only; omega)) (by rw [hB.2.1]; first | exact Nat.le_of_ble_eq_true rfl | (dsimp only; omega)) dX8_run_7 (fun v h_7 n_7 p_7 => ?_)
  obtain ⟨rfl, rfl, rfl⟩ := p_7
  rw [if_pos (rl_n0 _)]
  try dsimp only [Option.toList, List.cons_append, List.nil_append]
  refine o_if_ne (tgt := 15) hC dX8_run_10 (by decide) (fun c_10 => ?_) (fun c_10 => ?_)
  · exact absurd rfl c_10
  · refine o_iconst (v := (-1 : Int32)) hC dX8_run_13 (by decide +kernel) ?_
    refine o_iret hC hB dX8_run_14 (Nat.le_of_ble_eq_true rfl) (Nat.le_of_ble_eq_true rfl) ?_
    exact ⟨rfl, rfl⟩

set_option maxHeartbeats 4000000 in
set_option maxRecDepth 100000 in
theorem fr_X8_pair (l : Launch) (D : va_G) (ids : Nat → ClassId) (H0 : Heap) (h : rl_H) (n : Nat) (m : Nat) (fs : List Value) (o a b : Int32) (h1 : h m = some (.inr (8, fs))) (h7 : fs[7]? = some (.int (nI 0))) : rl_Met l (rl_e D ids H0) rl_BW rl_Ns yX8_pair cX8_pair 4 (some .int) ({ frames := 1, cells := 0, slots := 0, locals := 21 }) [.ref m, .int o, .int a, .int b] h n (fun v h' n' => v = some (.int (-1)) ∧ n' = n) := by
  refine rl_Met.of (by decide +kernel) (Nat.le_of_ble_eq_true rfl) ?_
  intro X hC hB
  show rl_G X (rl_e D ids H0) 0 [some (.ref m), some (.int o), some (.int a), some (.int b)] [] h n 0 0
  refine o_aload_n hC dX8_pair_0 (by rfl) ?_
  refine o_iload_n hC dX8_pair_1 (by rfl) ?_
  refine o_callV1 hC rl_BW_good rl_Ns_nw (by exact hB.2.2.2.2.2) YX8_isNode IX8_isNode VX8_isNode (mX8_126 hC) (by rw [hB.1]; exact ct_X8_isNode l D ids H0 h n m fs _ _ h1 h7) (by exact h1) rfl rfl (Nat.le_of_ble_eq_true rfl) (by rw [hB.2.1]; first | exact Nat.le_of_ble_eq_true rfl | (dsimp only; omega)) (by rw [hB.2.1]; first | exact Nat.le_of_ble_eq_true rfl | (dsimp only; omega)) (by rw [hB.2.1]; first | exact Nat.le_of_ble_eq_true rfl | (dsimp only; omega)) (by rw [hB.2.1]; first | exact Nat.le_of_ble_eq_true rfl | (dsimp only; omega)) dX8_pair_2 (fun v h_2 n_2 p_2 => ?_)
  obtain ⟨rfl, rfl, rfl⟩ := p_2
  rw [if_pos (rl_n0 _)]
  try dsimp only [Option.toList, List.cons_append, List.nil_append]
  refine o_if_eq (tgt := 16) hC dX8_pair_5 (by decide) (fun c_5 => ?_) (fun c_5 => ?_)
  · refine o_iconst (v := (-1 : Int32)) hC dX8_pair_16 (by decide +kernel) ?_
    refine o_iret hC hB dX8_pair_17 (Nat.le_of_ble_eq_true rfl) (Nat.le_of_ble_eq_true rfl) ?_
    exact ⟨rfl, rfl⟩
  · exact absurd rfl c_5

set_option maxHeartbeats 4000000 in
set_option maxRecDepth 100000 in
theorem fr_X8_unite (l : Launch) (D : va_G) (ids : Nat → ClassId) (H0 : Heap) (h : rl_H) (n : Nat) (m : Nat) (a b : Int32) (hm : md_new ids h m) : rl_Met l (rl_e D ids H0) rl_BW rl_Ns yX8_unite cX8_unite 3 (some .int) ({ frames := 2, cells := 0, slots := 0, locals := 44 }) [.ref m, .int a, .int b] h n (fun v h' n' => v = some (.int (-1)) ∧ n' = n) := by
  obtain ⟨m0, m1, m2, m3, m4, m5, m6, m7, m8, m9, m10, m11, m12, m13, m14, m15, m16, m17, m18, m19, m20, m21, m22⟩ := id hm
  refine rl_Met.of (by decide +kernel) (Nat.le_of_ble_eq_true rfl) ?_
  intro X hC hB
  show rl_G X (rl_e D ids H0) 0 [some (.ref m), some (.int a), some (.int b)] [] h n 0 0
  refine o_aload_n hC dX8_unite_0 (by rfl) ?_
  refine o_iconst (v := nI 0) hC dX8_unite_1 (by decide +kernel) ?_
  refine o_putf hC (fX8_78 hC rfl) (fwX8 rfl rfl rfl (Or.inl rfl)) dX8_unite_2 (by repeat (first | with_reducible assumption | (rw [rl_u_s]; done) | (rw [rl_u_s]; rfl) | rw [rl_u_n (by first | with_reducible assumption | omega)])) (Nat.le_of_ble_eq_true rfl) ?_
  try simp only [List.set_cons_zero, List.set_cons_succ]
  refine o_aload_n hC dX8_unite_5 (by rfl) ?_
  refine o_iconst (v := nI 4) hC dX8_unite_6 (by decide +kernel) ?_
  refine o_iload_n hC dX8_unite_7 (by rfl) ?_
  refine o_iload_n hC dX8_unite_8 (by rfl) ?_
  refine o_callV3 hC rl_BW_good rl_Ns_nw (by exact hB.2.2.2.2.2) YX8_pair IX8_pair VX8_pair (mX8_134 hC) (by rw [hB.1]; exact fr_X8_pair l D ids H0 _ n m _ _ _ _ (by repeat (first | with_reducible assumption | (rw [rl_u_s]; done) | (rw [rl_u_s]; rfl) | rw [rl_u_n (by first | with_reducible assumption | omega)])) rfl) (by repeat (first | with_reducible assumption | (rw [rl_u_s]; done) | (rw [rl_u_s]; rfl) | rw [rl_u_n (by first | with_reducible assumption | omega)])) rfl rfl (Nat.le_of_ble_eq_true rfl) (by rw [hB.2.1]; first | exact Nat.le_of_ble_eq_true rfl | (dsimp only; omega)) (by rw [hB.2.1]; first | exact Nat.le_of_ble_eq_true rfl | (dsimp only; omega)) (by rw [hB.2.1]; first | exact Nat.le_of_ble_eq_true rfl | (dsimp only; omega)) (by rw [hB.2.1]; first | exact Nat.le_of_ble_eq_true rfl | (dsimp only; omega)) dX8_unite_9 (fun v h_9 n_9 p_9 => ?_)
  obtain ⟨rfl, rfl⟩ := p_9
  try dsimp only [Option.toList, List.cons_append, List.nil_append]
  refine o_iret hC hB dX8_unite_12 (Nat.le_of_ble_eq_true rfl) (Nat.le_of_ble_eq_true rfl) ?_
  exact ⟨rfl, rfl⟩

set_option maxHeartbeats 4000000 in
set_option maxRecDepth 100000 in
theorem fr_X8_minus (l : Launch) (D : va_G) (ids : Nat → ClassId) (H0 : Heap) (h : rl_H) (n : Nat) (m : Nat) (a b : Int32) (hm : md_new ids h m) : rl_Met l (rl_e D ids H0) rl_BW rl_Ns yX8_minus cX8_minus 3 (some .int) ({ frames := 2, cells := 0, slots := 0, locals := 44 }) [.ref m, .int a, .int b] h n (fun v h' n' => v = some (.int (-1)) ∧ n' = n) := by
  obtain ⟨m0, m1, m2, m3, m4, m5, m6, m7, m8, m9, m10, m11, m12, m13, m14, m15, m16, m17, m18, m19, m20, m21, m22⟩ := id hm
  refine rl_Met.of (by decide +kernel) (Nat.le_of_ble_eq_true rfl) ?_
  intro X hC hB
  show rl_G X (rl_e D ids H0) 0 [some (.ref m), some (.int a), some (.int b)] [] h n 0 0
  refine o_aload_n hC dX8_minus_0 (by rfl) ?_
  refine o_iconst (v := nI 0) hC dX8_minus_1 (by decide +kernel) ?_
  refine o_putf hC (fX8_78 hC rfl) (fwX8 rfl rfl rfl (Or.inl rfl)) dX8_minus_2 (by repeat (first | with_reducible assumption | (rw [rl_u_s]; done) | (rw [rl_u_s]; rfl) | rw [rl_u_n (by first | with_reducible assumption | omega)])) (Nat.le_of_ble_eq_true rfl) ?_
  try simp only [List.set_cons_zero, List.set_cons_succ]
  refine o_aload_n hC dX8_minus_5 (by rfl) ?_
  refine o_iconst (v := nI 5) hC dX8_minus_6 (by decide +kernel) ?_
  refine o_iload_n hC dX8_minus_7 (by rfl) ?_
  refine o_iload_n hC dX8_minus_8 (by rfl) ?_
  refine o_callV3 hC rl_BW_good rl_Ns_nw (by exact hB.2.2.2.2.2) YX8_pair IX8_pair VX8_pair (mX8_134 hC) (by rw [hB.1]; exact fr_X8_pair l D ids H0 _ n m _ _ _ _ (by repeat (first | with_reducible assumption | (rw [rl_u_s]; done) | (rw [rl_u_s]; rfl) | rw [rl_u_n (by first | with_reducible assumption | omega)])) rfl) (by repeat (first | with_reducible assumption | (rw [rl_u_s]; done) | (rw [rl_u_s]; rfl) | rw [rl_u_n (by first | with_reducible assumption | omega)])) rfl rfl (Nat.le_of_ble_eq_true rfl) (by rw [hB.2.1]; first | exact Nat.le_of_ble_eq_true rfl | (dsimp only; omega)) (by rw [hB.2.1]; first | exact Nat.le_of_ble_eq_true rfl | (dsimp only; omega)) (by rw [hB.2.1]; first | exact Nat.le_of_ble_eq_true rfl | (dsimp only; omega)) (by rw [hB.2.1]; first | exact Nat.le_of_ble_eq_true rfl | (dsimp only; omega)) dX8_minus_9 (fun v h_9 n_9 p_9 => ?_)
  obtain ⟨rfl, rfl⟩ := p_9
  try dsimp only [Option.toList, List.cons_append, List.nil_append]
  refine o_iret hC hB dX8_minus_12 (Nat.le_of_ble_eq_true rfl) (Nat.le_of_ble_eq_true rfl) ?_
  exact ⟨rfl, rfl⟩

set_option maxHeartbeats 4000000 in
set_option maxRecDepth 100000 in
theorem fr_X8_ways (l : Launch) (D : va_G) (ids : Nat → ClassId) (H0 : Heap) (h : rl_H) (n : Nat) (m : Nat) (t : Int32) (hm : md_new ids h m) : rl_Met l (rl_e D ids H0) rl_BW rl_Ns yX8_ways cX8_ways 2 (some .int) ({ frames := 1, cells := 0, slots := 0, locals := 21 }) [.ref m, .int t] h n (fun v h' n' => v = some (.int (-1)) ∧ n' = n) := by
  obtain ⟨m0, m1, m2, m3, m4, m5, m6, m7, m8, m9, m10, m11, m12, m13, m14, m15, m16, m17, m18, m19, m20, m21, m22⟩ := id hm
  refine rl_Met.of (by decide +kernel) (Nat.le_of_ble_eq_true rfl) ?_
  intro X hC hB
  show rl_G X (rl_e D ids H0) 0 [some (.ref m), some (.int t)] [] h n 0 0
  refine o_aload_n hC dX8_ways_0 (by rfl) ?_
  refine o_iconst (v := nI 0) hC dX8_ways_1 (by decide +kernel) ?_
  refine o_putf hC (fX8_78 hC rfl) (fwX8 rfl rfl rfl (Or.inl rfl)) dX8_ways_2 (by repeat (first | with_reducible assumption | (rw [rl_u_s]; done) | (rw [rl_u_s]; rfl) | rw [rl_u_n (by first | with_reducible assumption | omega)])) (Nat.le_of_ble_eq_true rfl) ?_
  try simp only [List.set_cons_zero, List.set_cons_succ]
  refine o_aload_n hC dX8_ways_5 (by rfl) ?_
  refine o_iload_n hC dX8_ways_6 (by rfl) ?_
  refine o_callV1 hC rl_BW_good rl_Ns_nw (by exact hB.2.2.2.2.2) YX8_isTuple IX8_isTuple VX8_isTuple (mX8_199 hC) (by rw [hB.1]; exact ct_X8_isTuple l D ids H0 _ n m (m + 13) _ _ (fun _ => 0) (by repeat (first | with_reducible assumption | (rw [rl_u_s]; done) | (rw [rl_u_s]; rfl) | rw [rl_u_n (by first | with_reducible assumption | omega)])) rfl (by repeat (first | with_reducible assumption | (rw [rl_u_s]; done) | (rw [rl_u_s]; rfl) | rw [rl_u_n (by first | with_reducible assumption | omega)]))) (by repeat (first | with_reducible assumption | (rw [rl_u_s]; done) | (rw [rl_u_s]; rfl) | rw [rl_u_n (by first | with_reducible assumption | omega)])) rfl rfl (Nat.le_of_ble_eq_true rfl) (by rw [hB.2.1]; first | exact Nat.le_of_ble_eq_true rfl | (dsimp only; omega)) (by rw [hB.2.1]; first | exact Nat.le_of_ble_eq_true rfl | (dsimp only; omega)) (by rw [hB.2.1]; first | exact Nat.le_of_ble_eq_true rfl | (dsimp only; omega)) (by rw [hB.2.1]; first | exact Nat.le_of_ble_eq_true rfl | (dsimp only; omega)) dX8_ways_7 (fun v h_7 n_7 p_7 => ?_)
  obtain ⟨rfl, rfl, rfl⟩ := p_7
  rw [if_pos (rl_z0 _)]
  try dsimp only [Option.toList, List.cons_append, List.nil_append]
  refine o_if_eq (tgt := 26) hC dX8_ways_10 (by decide) (fun c_10 => ?_) (fun c_10 => ?_)
  · refine o_iconst (v := (-1 : Int32)) hC dX8_ways_26 (by decide +kernel) ?_
    refine o_iret hC hB dX8_ways_27 (Nat.le_of_ble_eq_true rfl) (Nat.le_of_ble_eq_true rfl) ?_
    exact ⟨rfl, rfl⟩
  · exact absurd rfl c_10

set_option maxHeartbeats 4000000 in
set_option maxRecDepth 100000 in
theorem fr_X8_holds (l : Launch) (D : va_G) (ids : Nat → ClassId) (H0 : Heap) (h : rl_H) (n : Nat) (m : Nat) (t : Int32) (hm : md_new ids h m) : rl_Met l (rl_e D ids H0) rl_BW rl_Ns yX8_holds cX8_holds 2 (some .int) ({ frames := 1, cells := 0, slots := 0, locals := 21 }) [.ref m, .int t] h n (fun v h' n' => v = some (.int (-1)) ∧ n' = n) := by
  obtain ⟨m0, m1, m2, m3, m4, m5, m6, m7, m8, m9, m10, m11, m12, m13, m14, m15, m16, m17, m18, m19, m20, m21, m22⟩ := id hm
  refine rl_Met.of (by decide +kernel) (Nat.le_of_ble_eq_true rfl) ?_
  intro X hC hB
  show rl_G X (rl_e D ids H0) 0 [some (.ref m), some (.int t)] [] h n 0 0
  refine o_aload_n hC dX8_holds_0 (by rfl) ?_
  refine o_iconst (v := nI 0) hC dX8_holds_1 (by decide +kernel) ?_
  refine o_putf hC (fX8_78 hC rfl) (fwX8 rfl rfl rfl (Or.inl rfl)) dX8_holds_2 (by repeat (first | with_reducible assumption | (rw [rl_u_s]; done) | (rw [rl_u_s]; rfl) | rw [rl_u_n (by first | with_reducible assumption | omega)])) (Nat.le_of_ble_eq_true rfl) ?_
  try simp only [List.set_cons_zero, List.set_cons_succ]
  refine o_aload_n hC dX8_holds_5 (by rfl) ?_
  refine o_iload_n hC dX8_holds_6 (by rfl) ?_
  refine o_callV1 hC rl_BW_good rl_Ns_nw (by exact hB.2.2.2.2.2) YX8_isTuple IX8_isTuple VX8_isTuple (mX8_199 hC) (by rw [hB.1]; exact ct_X8_isTuple l D ids H0 _ n m (m + 13) _ _ (fun _ => 0) (by repeat (first | with_reducible assumption | (rw [rl_u_s]; done) | (rw [rl_u_s]; rfl) | rw [rl_u_n (by first | with_reducible assumption | omega)])) rfl (by repeat (first | with_reducible assumption | (rw [rl_u_s]; done) | (rw [rl_u_s]; rfl) | rw [rl_u_n (by first | with_reducible assumption | omega)]))) (by repeat (first | with_reducible assumption | (rw [rl_u_s]; done) | (rw [rl_u_s]; rfl) | rw [rl_u_n (by first | with_reducible assumption | omega)])) rfl rfl (Nat.le_of_ble_eq_true rfl) (by rw [hB.2.1]; first | exact Nat.le_of_ble_eq_true rfl | (dsimp only; omega)) (by rw [hB.2.1]; first | exact Nat.le_of_ble_eq_true rfl | (dsimp only; omega)) (by rw [hB.2.1]; first | exact Nat.le_of_ble_eq_true rfl | (dsimp only; omega)) (by rw [hB.2.1]; first | exact Nat.le_of_ble_eq_true rfl | (dsimp only; omega)) dX8_holds_7 (fun v h_7 n_7 p_7 => ?_)
  obtain ⟨rfl, rfl, rfl⟩ := p_7
  rw [if_pos (rl_z0 _)]
  try dsimp only [Option.toList, List.cons_append, List.nil_append]
  refine o_if_ne (tgt := 17) hC dX8_holds_10 (by decide) (fun c_10 => ?_) (fun c_10 => ?_)
  · exact absurd rfl c_10
  · refine o_iconst (v := (-1 : Int32)) hC dX8_holds_13 (by decide +kernel) ?_
    refine o_goto (tgt := 34) hC dX8_holds_14 (by decide) ?_
    refine o_iret hC hB dX8_holds_34 (Nat.le_of_ble_eq_true rfl) (Nat.le_of_ble_eq_true rfl) ?_
    exact ⟨rfl, rfl⟩

set_option maxHeartbeats 4000000 in
set_option maxRecDepth 100000 in
theorem fr_X8_made (l : Launch) (D : va_G) (ids : Nat → ClassId) (H0 : Heap) (h : rl_H) (n : Nat) (m : Nat) (t : Int32) (hm : md_new ids h m) : rl_Met l (rl_e D ids H0) rl_BW rl_Ns yX8_made cX8_made 2 (some .int) ({ frames := 1, cells := 0, slots := 0, locals := 21 }) [.ref m, .int t] h n (fun v h' n' => v = some (.int (-1)) ∧ n' = n) := by
  obtain ⟨m0, m1, m2, m3, m4, m5, m6, m7, m8, m9, m10, m11, m12, m13, m14, m15, m16, m17, m18, m19, m20, m21, m22⟩ := id hm
  refine rl_Met.of (by decide +kernel) (Nat.le_of_ble_eq_true rfl) ?_
  intro X hC hB
  show rl_G X (rl_e D ids H0) 0 [some (.ref m), some (.int t)] [] h n 0 0
  refine o_aload_n hC dX8_made_0 (by rfl) ?_
  refine o_iconst (v := nI 0) hC dX8_made_1 (by decide +kernel) ?_
  refine o_putf hC (fX8_78 hC rfl) (fwX8 rfl rfl rfl (Or.inl rfl)) dX8_made_2 (by repeat (first | with_reducible assumption | (rw [rl_u_s]; done) | (rw [rl_u_s]; rfl) | rw [rl_u_n (by first | with_reducible assumption | omega)])) (Nat.le_of_ble_eq_true rfl) ?_
  try simp only [List.set_cons_zero, List.set_cons_succ]
  refine o_aload_n hC dX8_made_5 (by rfl) ?_
  refine o_iload_n hC dX8_made_6 (by rfl) ?_
  refine o_callV1 hC rl_BW_good rl_Ns_nw (by exact hB.2.2.2.2.2) YX8_isTuple IX8_isTuple VX8_isTuple (mX8_199 hC) (by rw [hB.1]; exact ct_X8_isTuple l D ids H0 _ n m (m + 13) _ _ (fun _ => 0) (by repeat (first | with_reducible assumption | (rw [rl_u_s]; done) | (rw [rl_u_s]; rfl) | rw [rl_u_n (by first | with_reducible assumption | omega)])) rfl (by repeat (first | with_reducible assumption | (rw [rl_u_s]; done) | (rw [rl_u_s]; rfl) | rw [rl_u_n (by first | with_reducible assumption | omega)]))) (by repeat (first | with_reducible assumption | (rw [rl_u_s]; done) | (rw [rl_u_s]; rfl) | rw [rl_u_n (by first | with_reducible assumption | omega)])) rfl rfl (Nat.le_of_ble_eq_true rfl) (by rw [hB.2.1]; first | exact Nat.le_of_ble_eq_true rfl | (dsimp only; omega)) (by rw [hB.2.1]; first | exact Nat.le_of_ble_eq_true rfl | (dsimp only; omega)) (by rw [hB.2.1]; first | exact Nat.le_of_ble_eq_true rfl | (dsimp only; omega)) (by rw [hB.2.1]; first | exact Nat.le_of_ble_eq_true rfl | (dsimp only; omega)) dX8_made_7 (fun v h_7 n_7 p_7 => ?_)
  obtain ⟨rfl, rfl, rfl⟩ := p_7
  rw [if_pos (rl_z0 _)]
  try dsimp only [Option.toList, List.cons_append, List.nil_append]
  refine o_if_ne (tgt := 17) hC dX8_made_10 (by decide) (fun c_10 => ?_) (fun c_10 => ?_)
  · exact absurd rfl c_10
  · refine o_iconst (v := (-1 : Int32)) hC dX8_made_13 (by decide +kernel) ?_
    refine o_goto (tgt := 26) hC dX8_made_14 (by decide) ?_
    refine o_iret hC hB dX8_made_26 (Nat.le_of_ble_eq_true rfl) (Nat.le_of_ble_eq_true rfl) ?_
    exact ⟨rfl, rfl⟩

set_option maxHeartbeats 4000000 in
set_option maxRecDepth 100000 in
theorem fr_X8_count (l : Launch) (D : va_G) (ids : Nat → ClassId) (H0 : Heap) (h : rl_H) (n : Nat) (m : Nat) (t : Int32) (hm : md_new ids h m) : rl_Met l (rl_e D ids H0) rl_BW rl_Ns yX8_count cX8_count 4 (some .int) ({ frames := 1, cells := 0, slots := 0, locals := 21 }) [.ref m, .int t] h n (fun v h' n' => v = some (.int (-1)) ∧ n' = n) := by
  obtain ⟨m0, m1, m2, m3, m4, m5, m6, m7, m8, m9, m10, m11, m12, m13, m14, m15, m16, m17, m18, m19, m20, m21, m22⟩ := id hm
  refine rl_Met.of (by decide +kernel) (Nat.le_of_ble_eq_true rfl) ?_
  intro X hC hB
  show rl_G X (rl_e D ids H0) 0 [some (.ref m), some (.int t), none, none] [] h n 0 0
  refine o_aload_n hC dX8_count_0 (by rfl) ?_
  refine o_iconst (v := nI 0) hC dX8_count_1 (by decide +kernel) ?_
  refine o_putf hC (fX8_78 hC rfl) (fwX8 rfl rfl rfl (Or.inl rfl)) dX8_count_2 (by repeat (first | with_reducible assumption | (rw [rl_u_s]; done) | (rw [rl_u_s]; rfl) | rw [rl_u_n (by first | with_reducible assumption | omega)])) (Nat.le_of_ble_eq_true rfl) ?_
  try simp only [List.set_cons_zero, List.set_cons_succ]
  refine o_aload_n hC dX8_count_5 (by rfl) ?_
  refine o_iload_n hC dX8_count_6 (by rfl) ?_
  refine o_callV1 hC rl_BW_good rl_Ns_nw (by exact hB.2.2.2.2.2) YX8_isTuple IX8_isTuple VX8_isTuple (mX8_199 hC) (by rw [hB.1]; exact ct_X8_isTuple l D ids H0 _ n m (m + 13) _ _ (fun _ => 0) (by repeat (first | with_reducible assumption | (rw [rl_u_s]; done) | (rw [rl_u_s]; rfl) | rw [rl_u_n (by first | with_reducible assumption | omega)])) rfl (by repeat (first | with_reducible assumption | (rw [rl_u_s]; done) | (rw [rl_u_s]; rfl) | rw [rl_u_n (by first | with_reducible assumption | omega)]))) (by repeat (first | with_reducible assumption | (rw [rl_u_s]; done) | (rw [rl_u_s]; rfl) | rw [rl_u_n (by first | with_reducible assumption | omega)])) rfl rfl (Nat.le_of_ble_eq_true rfl) (by rw [hB.2.1]; first | exact Nat.le_of_ble_eq_true rfl | (dsimp only; omega)) (by rw [hB.2.1]; first | exact Nat.le_of_ble_eq_true rfl | (dsimp only; omega)) (by rw [hB.2.1]; first | exact Nat.le_of_ble_eq_true rfl | (dsimp only; omega)) (by rw [hB.2.1]; first | exact Nat.le_of_ble_eq_true rfl | (dsimp only; omega)) dX8_count_7 (fun v h_7 n_7 p_7 => ?_)
  obtain ⟨rfl, rfl, rfl⟩ := p_7
  rw [if_pos (rl_z0 _)]
  try dsimp only [Option.toList, List.cons_append, List.nil_append]
  refine o_if_ne (tgt := 15) hC dX8_count_10 (by decide) (fun c_10 => ?_) (fun c_10 => ?_)
  · exact absurd rfl c_10
  · refine o_iconst (v := (-1 : Int32)) hC dX8_count_13 (by decide +kernel) ?_
    refine o_iret hC hB dX8_count_14 (Nat.le_of_ble_eq_true rfl) (Nat.le_of_ble_eq_true rfl) ?_
    exact ⟨rfl, rfl⟩

set_option maxHeartbeats 4000000 in
set_option maxRecDepth 100000 in
theorem fr_X8_blame (l : Launch) (D : va_G) (ids : Nat → ClassId) (H0 : Heap) (h : rl_H) (n : Nat) (m : Nat) (t : Int32) (hm : md_new ids h m) : rl_Met l (rl_e D ids H0) rl_BW rl_Ns yX8_blame cX8_blame 8 (some .int) ({ frames := 1, cells := 0, slots := 0, locals := 21 }) [.ref m, .int t] h n (fun v h' n' => v = some (.int (-1)) ∧ n' = n) := by
  obtain ⟨m0, m1, m2, m3, m4, m5, m6, m7, m8, m9, m10, m11, m12, m13, m14, m15, m16, m17, m18, m19, m20, m21, m22⟩ := id hm
  refine rl_Met.of (by decide +kernel) (Nat.le_of_ble_eq_true rfl) ?_
  intro X hC hB
  show rl_G X (rl_e D ids H0) 0 [some (.ref m), some (.int t), none, none, none, none, none, none] [] h n 0 0
  refine o_aload_n hC dX8_blame_0 (by rfl) ?_
  refine o_iconst (v := nI 0) hC dX8_blame_1 (by decide +kernel) ?_
  refine o_putf hC (fX8_78 hC rfl) (fwX8 rfl rfl rfl (Or.inl rfl)) dX8_blame_2 (by repeat (first | with_reducible assumption | (rw [rl_u_s]; done) | (rw [rl_u_s]; rfl) | rw [rl_u_n (by first | with_reducible assumption | omega)])) (Nat.le_of_ble_eq_true rfl) ?_
  try simp only [List.set_cons_zero, List.set_cons_succ]
  refine o_aload_n hC dX8_blame_5 (by rfl) ?_
  refine o_iload_n hC dX8_blame_6 (by rfl) ?_
  refine o_callV1 hC rl_BW_good rl_Ns_nw (by exact hB.2.2.2.2.2) YX8_isTuple IX8_isTuple VX8_isTuple (mX8_199 hC) (by rw [hB.1]; exact ct_X8_isTuple l D ids H0 _ n m (m + 13) _ _ (fun _ => 0) (by repeat (first | with_reducible assumption | (rw [rl_u_s]; done) | (rw [rl_u_s]; rfl) | rw [rl_u_n (by first | with_reducible assumption | omega)])) rfl (by repeat (first | with_reducible assumption | (rw [rl_u_s]; done) | (rw [rl_u_s]; rfl) | rw [rl_u_n (by first | with_reducible assumption | omega)]))) (by repeat (first | with_reducible assumption | (rw [rl_u_s]; done) | (rw [rl_u_s]; rfl) | rw [rl_u_n (by first | with_reducible assumption | omega)])) rfl rfl (Nat.le_of_ble_eq_true rfl) (by rw [hB.2.1]; first | exact Nat.le_of_ble_eq_true rfl | (dsimp only; omega)) (by rw [hB.2.1]; first | exact Nat.le_of_ble_eq_true rfl | (dsimp only; omega)) (by rw [hB.2.1]; first | exact Nat.le_of_ble_eq_true rfl | (dsimp only; omega)) (by rw [hB.2.1]; first | exact Nat.le_of_ble_eq_true rfl | (dsimp only; omega)) dX8_blame_7 (fun v h_7 n_7 p_7 => ?_)
  obtain ⟨rfl, rfl, rfl⟩ := p_7
  rw [if_pos (rl_z0 _)]
  try dsimp only [Option.toList, List.cons_append, List.nil_append]
  refine o_if_ne (tgt := 15) hC dX8_blame_10 (by decide) (fun c_10 => ?_) (fun c_10 => ?_)
  · exact absurd rfl c_10
  · refine o_iconst (v := (-1 : Int32)) hC dX8_blame_13 (by decide +kernel) ?_
    refine o_iret hC hB dX8_blame_14 (Nat.le_of_ble_eq_true rfl) (Nat.le_of_ble_eq_true rfl) ?_
    exact ⟨rfl, rfl⟩

set_option maxHeartbeats 4000000 in
set_option maxRecDepth 100000 in
theorem fr_X8_under (l : Launch) (D : va_G) (ids : Nat → ClassId) (H0 : Heap) (h : rl_H) (n : Nat) (m : Nat) (t : Int32) (s : Int64) (hm : md_new ids h m) : rl_Met l (rl_e D ids H0) rl_BW rl_Ns yX8_under cX8_under 4 (some .int) ({ frames := 1, cells := 0, slots := 0, locals := 21 }) [.ref m, .int t, .long s] h n (fun v h' n' => v = some (.int (-1)) ∧ n' = n) := by
  obtain ⟨m0, m1, m2, m3, m4, m5, m6, m7, m8, m9, m10, m11, m12, m13, m14, m15, m16, m17, m18, m19, m20, m21, m22⟩ := id hm
  refine rl_Met.of (by decide +kernel) (Nat.le_of_ble_eq_true rfl) ?_
  intro X hC hB
  show rl_G X (rl_e D ids H0) 0 [some (.ref m), some (.int t), some (.long s), none] [] h n 0 0
  refine o_aload_n hC dX8_under_0 (by rfl) ?_
  refine o_iconst (v := nI 0) hC dX8_under_1 (by decide +kernel) ?_
  refine o_putf hC (fX8_78 hC rfl) (fwX8 rfl rfl rfl (Or.inl rfl)) dX8_under_2 (by repeat (first | with_reducible assumption | (rw [rl_u_s]; done) | (rw [rl_u_s]; rfl) | rw [rl_u_n (by first | with_reducible assumption | omega)])) (Nat.le_of_ble_eq_true rfl) ?_
  try simp only [List.set_cons_zero, List.set_cons_succ]
  refine o_aload_n hC dX8_under_5 (by rfl) ?_
  refine o_iload_n hC dX8_under_6 (by rfl) ?_
  refine o_callV1 hC rl_BW_good rl_Ns_nw (by exact hB.2.2.2.2.2) YX8_isTuple IX8_isTuple VX8_isTuple (mX8_199 hC) (by rw [hB.1]; exact ct_X8_isTuple l D ids H0 _ n m (m + 13) _ _ (fun _ => 0) (by repeat (first | with_reducible assumption | (rw [rl_u_s]; done) | (rw [rl_u_s]; rfl) | rw [rl_u_n (by first | with_reducible assumption | omega)])) rfl (by repeat (first | with_reducible assumption | (rw [rl_u_s]; done) | (rw [rl_u_s]; rfl) | rw [rl_u_n (by first | with_reducible assumption | omega)]))) (by repeat (first | with_reducible assumption | (rw [rl_u_s]; done) | (rw [rl_u_s]; rfl) | rw [rl_u_n (by first | with_reducible assumption | omega)])) rfl rfl (Nat.le_of_ble_eq_true rfl) (by rw [hB.2.1]; first | exact Nat.le_of_ble_eq_true rfl | (dsimp only; omega)) (by rw [hB.2.1]; first | exact Nat.le_of_ble_eq_true rfl | (dsimp only; omega)) (by rw [hB.2.1]; first | exact Nat.le_of_ble_eq_true rfl | (dsimp only; omega)) (by rw [hB.2.1]; first | exact Nat.le_of_ble_eq_true rfl | (dsimp only; omega)) dX8_under_7 (fun v h_7 n_7 p_7 => ?_)
  obtain ⟨rfl, rfl, rfl⟩ := p_7
  rw [if_pos (rl_z0 _)]
  try dsimp only [Option.toList, List.cons_append, List.nil_append]
  refine o_if_ne (tgt := 15) hC dX8_under_10 (by decide) (fun c_10 => ?_) (fun c_10 => ?_)
  · exact absurd rfl c_10
  · refine o_iconst (v := (-1 : Int32)) hC dX8_under_13 (by decide +kernel) ?_
    refine o_iret hC hB dX8_under_14 (Nat.le_of_ble_eq_true rfl) (Nat.le_of_ble_eq_true rfl) ?_
    exact ⟨rfl, rfl⟩

set_option maxHeartbeats 4000000 in
set_option maxRecDepth 100000 in
theorem fr_X8_matters (l : Launch) (D : va_G) (ids : Nat → ClassId) (H0 : Heap) (h : rl_H) (n : Nat) (m : Nat) (t r : Int32) (hm : md_new ids h m) : rl_Met l (rl_e D ids H0) rl_BW rl_Ns yX8_matters cX8_matters 6 (some .int) ({ frames := 1, cells := 0, slots := 0, locals := 21 }) [.ref m, .int t, .int r] h n (fun v h' n' => v = some (.int (-1)) ∧ n' = n) := by
  obtain ⟨m0, m1, m2, m3, m4, m5, m6, m7, m8, m9, m10, m11, m12, m13, m14, m15, m16, m17, m18, m19, m20, m21, m22⟩ := id hm
  refine rl_Met.of (by decide +kernel) (Nat.le_of_ble_eq_true rfl) ?_
  intro X hC hB
  show rl_G X (rl_e D ids H0) 0 [some (.ref m), some (.int t), some (.int r), none, none, none] [] h n 0 0
  refine o_aload_n hC dX8_matters_0 (by rfl) ?_
  refine o_iconst (v := nI 0) hC dX8_matters_1 (by decide +kernel) ?_
  refine o_putf hC (fX8_78 hC rfl) (fwX8 rfl rfl rfl (Or.inl rfl)) dX8_matters_2 (by repeat (first | with_reducible assumption | (rw [rl_u_s]; done) | (rw [rl_u_s]; rfl) | rw [rl_u_n (by first | with_reducible assumption | omega)])) (Nat.le_of_ble_eq_true rfl) ?_
  try simp only [List.set_cons_zero, List.set_cons_succ]
  refine o_aload_n hC dX8_matters_5 (by rfl) ?_
  refine o_iload_n hC dX8_matters_6 (by rfl) ?_
  refine o_callV1 hC rl_BW_good rl_Ns_nw (by exact hB.2.2.2.2.2) YX8_isTuple IX8_isTuple VX8_isTuple (mX8_199 hC) (by rw [hB.1]; exact ct_X8_isTuple l D ids H0 _ n m (m + 13) _ _ (fun _ => 0) (by repeat (first | with_reducible assumption | (rw [rl_u_s]; done) | (rw [rl_u_s]; rfl) | rw [rl_u_n (by first | with_reducible assumption | omega)])) rfl (by repeat (first | with_reducible assumption | (rw [rl_u_s]; done) | (rw [rl_u_s]; rfl) | rw [rl_u_n (by first | with_reducible assumption | omega)]))) (by repeat (first | with_reducible assumption | (rw [rl_u_s]; done) | (rw [rl_u_s]; rfl) | rw [rl_u_n (by first | with_reducible assumption | omega)])) rfl rfl (Nat.le_of_ble_eq_true rfl) (by rw [hB.2.1]; first | exact Nat.le_of_ble_eq_true rfl | (dsimp only; omega)) (by rw [hB.2.1]; first | exact Nat.le_of_ble_eq_true rfl | (dsimp only; omega)) (by rw [hB.2.1]; first | exact Nat.le_of_ble_eq_true rfl | (dsimp only; omega)) (by rw [hB.2.1]; first | exact Nat.le_of_ble_eq_true rfl | (dsimp only; omega)) dX8_matters_7 (fun v h_7 n_7 p_7 => ?_)
  obtain ⟨rfl, rfl, rfl⟩ := p_7
  rw [if_pos (rl_z0 _)]
  try dsimp only [Option.toList, List.cons_append, List.nil_append]
  refine o_if_eq (tgt := 25) hC dX8_matters_10 (by decide) (fun c_10 => ?_) (fun c_10 => ?_)
  · refine o_iconst (v := (-1 : Int32)) hC dX8_matters_25 (by decide +kernel) ?_
    refine o_iret hC hB dX8_matters_26 (Nat.le_of_ble_eq_true rfl) (Nat.le_of_ble_eq_true rfl) ?_
    exact ⟨rfl, rfl⟩
  · exact absurd rfl c_10

set_option maxHeartbeats 4000000 in
set_option maxRecDepth 100000 in
theorem fr_X8_cell (l : Launch) (D : va_G) (ids : Nat → ClassId) (H0 : Heap) (h : rl_H) (n : Nat) (m : Nat) (t c : Int32) (hm : md_new ids h m) : rl_Met l (rl_e D ids H0) rl_BW rl_Ns yX8_cell cX8_cell 3 (some .int) ({ frames := 1, cells := 0, slots := 0, locals := 21 }) [.ref m, .int t, .int c] h n (fun v h' n' => v = some (.int (nI 0)) ∧ n' = n ∧ h' m = some (.inr (8, [.int (nI 1), .int (nI 0), .ref (m + 1), .int (nI 0), .ref (m + 2), .ref (m + 3), .long 0, .int (nI 0), .ref (m + 4), .ref (m + 5), .ref (m + 6), .ref (m + 7), .ref (m + 8), .ref (m + 9), .ref (m + 10), .ref (m + 11), .ref (m + 12), .ref (m + 13), .ref (m + 14), .int (nI 0), .ref (m + 15), .ref (m + 16), .ref (m + 17), .int (nI 0), .ref (m + 18), .ref (m + 19), .int (nI 0), .ref (m + 20), .ref (m + 21), .ref (m + 22), .int (nI 0)]))) := by
  obtain ⟨m0, m1, m2, m3, m4, m5, m6, m7, m8, m9, m10, m11, m12, m13, m14, m15, m16, m17, m18, m19, m20, m21, m22⟩ := id hm
  refine rl_Met.of (by decide +kernel) (Nat.le_of_ble_eq_true rfl) ?_
  intro X hC hB
  show rl_G X (rl_e D ids H0) 0 [some (.ref m), some (.int t), some (.int c)] [] h n 0 0
  refine o_aload_n hC dX8_cell_0 (by rfl) ?_
  refine o_iconst (v := nI 0) hC dX8_cell_1 (by decide +kernel) ?_
  refine o_putf hC (fX8_78 hC rfl) (fwX8 rfl rfl rfl (Or.inl rfl)) dX8_cell_2 (by repeat (first | with_reducible assumption | (rw [rl_u_s]; done) | (rw [rl_u_s]; rfl) | rw [rl_u_n (by first | with_reducible assumption | omega)])) (Nat.le_of_ble_eq_true rfl) ?_
  try simp only [List.set_cons_zero, List.set_cons_succ]
  refine o_aload_n hC dX8_cell_5 (by rfl) ?_
  refine o_iload_n hC dX8_cell_6 (by rfl) ?_
  refine o_callV1 hC rl_BW_good rl_Ns_nw (by exact hB.2.2.2.2.2) YX8_isTuple IX8_isTuple VX8_isTuple (mX8_199 hC) (by rw [hB.1]; exact ct_X8_isTuple l D ids H0 _ n m (m + 13) _ _ (fun _ => 0) (by repeat (first | with_reducible assumption | (rw [rl_u_s]; done) | (rw [rl_u_s]; rfl) | rw [rl_u_n (by first | with_reducible assumption | omega)])) rfl (by repeat (first | with_reducible assumption | (rw [rl_u_s]; done) | (rw [rl_u_s]; rfl) | rw [rl_u_n (by first | with_reducible assumption | omega)]))) (by repeat (first | with_reducible assumption | (rw [rl_u_s]; done) | (rw [rl_u_s]; rfl) | rw [rl_u_n (by first | with_reducible assumption | omega)])) rfl rfl (Nat.le_of_ble_eq_true rfl) (by rw [hB.2.1]; first | exact Nat.le_of_ble_eq_true rfl | (dsimp only; omega)) (by rw [hB.2.1]; first | exact Nat.le_of_ble_eq_true rfl | (dsimp only; omega)) (by rw [hB.2.1]; first | exact Nat.le_of_ble_eq_true rfl | (dsimp only; omega)) (by rw [hB.2.1]; first | exact Nat.le_of_ble_eq_true rfl | (dsimp only; omega)) dX8_cell_7 (fun v h_7 n_7 p_7 => ?_)
  obtain ⟨rfl, rfl, rfl⟩ := p_7
  rw [if_pos (rl_z0 _)]
  try dsimp only [Option.toList, List.cons_append, List.nil_append]
  refine o_if_eq (tgt := 25) hC dX8_cell_10 (by decide) (fun c_10 => ?_) (fun c_10 => ?_)
  · refine o_aload_n hC dX8_cell_25 (by rfl) ?_
    refine o_iconst (v := nI 1) hC dX8_cell_26 (by decide +kernel) ?_
    refine o_putf hC (fX8_78 hC rfl) (fwX8 rfl rfl rfl (Or.inl rfl)) dX8_cell_27 (by repeat (first | with_reducible assumption | (rw [rl_u_s]; done) | (rw [rl_u_s]; rfl) | rw [rl_u_n (by first | with_reducible assumption | omega)])) (Nat.le_of_ble_eq_true rfl) ?_
    try simp only [List.set_cons_zero, List.set_cons_succ]
    refine o_iconst (v := nI 0) hC dX8_cell_30 (by decide +kernel) ?_
    refine o_iret hC hB dX8_cell_31 (Nat.le_of_ble_eq_true rfl) (Nat.le_of_ble_eq_true rfl) ?_
    exact ⟨rfl, rfl, by repeat (first | with_reducible assumption | (rw [rl_u_s]; done) | (rw [rl_u_s]; rfl) | rw [rl_u_n (by first | with_reducible assumption | omega)])⟩
  · exact absurd rfl c_10

set_option maxHeartbeats 4000000 in
set_option maxRecDepth 100000 in
theorem fr_X8_way (l : Launch) (D : va_G) (ids : Nat → ClassId) (H0 : Heap) (h : rl_H) (n : Nat) (m : Nat) (t k w : Int32) (hm : md_new ids h m) : rl_Met l (rl_e D ids H0) rl_BW rl_Ns yX8_way cX8_way 5 (some .long) ({ frames := 1, cells := 0, slots := 0, locals := 21 }) [.ref m, .int t, .int k, .int w] h n (fun v h' n' => v = some (.long 0) ∧ n' = n ∧ h' m = some (.inr (8, [.int (nI 1), .int (nI 0), .ref (m + 1), .int (nI 0), .ref (m + 2), .ref (m + 3), .long 0, .int (nI 0), .ref (m + 4), .ref (m + 5), .ref (m + 6), .ref (m + 7), .ref (m + 8), .ref (m + 9), .ref (m + 10), .ref (m + 11), .ref (m + 12), .ref (m + 13), .ref (m + 14), .int (nI 0), .ref (m + 15), .ref (m + 16), .ref (m + 17), .int (nI 0), .ref (m + 18), .ref (m + 19), .int (nI 0), .ref (m + 20), .ref (m + 21), .ref (m + 22), .int (nI 0)]))) := by
  obtain ⟨m0, m1, m2, m3, m4, m5, m6, m7, m8, m9, m10, m11, m12, m13, m14, m15, m16, m17, m18, m19, m20, m21, m22⟩ := id hm
  refine rl_Met.of (by decide +kernel) (Nat.le_of_ble_eq_true rfl) ?_
  intro X hC hB
  show rl_G X (rl_e D ids H0) 0 [some (.ref m), some (.int t), some (.int k), some (.int w), none] [] h n 0 0
  refine o_aload_n hC dX8_way_0 (by rfl) ?_
  refine o_iconst (v := nI 0) hC dX8_way_1 (by decide +kernel) ?_
  refine o_putf hC (fX8_78 hC rfl) (fwX8 rfl rfl rfl (Or.inl rfl)) dX8_way_2 (by repeat (first | with_reducible assumption | (rw [rl_u_s]; done) | (rw [rl_u_s]; rfl) | rw [rl_u_n (by first | with_reducible assumption | omega)])) (Nat.le_of_ble_eq_true rfl) ?_
  try simp only [List.set_cons_zero, List.set_cons_succ]
  refine o_aload_n hC dX8_way_5 (by rfl) ?_
  refine o_iload_n hC dX8_way_6 (by rfl) ?_
  refine o_callV1 hC rl_BW_good rl_Ns_nw (by exact hB.2.2.2.2.2) YX8_isTuple IX8_isTuple VX8_isTuple (mX8_199 hC) (by rw [hB.1]; exact ct_X8_isTuple l D ids H0 _ n m (m + 13) _ _ (fun _ => 0) (by repeat (first | with_reducible assumption | (rw [rl_u_s]; done) | (rw [rl_u_s]; rfl) | rw [rl_u_n (by first | with_reducible assumption | omega)])) rfl (by repeat (first | with_reducible assumption | (rw [rl_u_s]; done) | (rw [rl_u_s]; rfl) | rw [rl_u_n (by first | with_reducible assumption | omega)]))) (by repeat (first | with_reducible assumption | (rw [rl_u_s]; done) | (rw [rl_u_s]; rfl) | rw [rl_u_n (by first | with_reducible assumption | omega)])) rfl rfl (Nat.le_of_ble_eq_true rfl) (by rw [hB.2.1]; first | exact Nat.le_of_ble_eq_true rfl | (dsimp only; omega)) (by rw [hB.2.1]; first | exact Nat.le_of_ble_eq_true rfl | (dsimp only; omega)) (by rw [hB.2.1]; first | exact Nat.le_of_ble_eq_true rfl | (dsimp only; omega)) (by rw [hB.2.1]; first | exact Nat.le_of_ble_eq_true rfl | (dsimp only; omega)) dX8_way_7 (fun v h_7 n_7 p_7 => ?_)
  obtain ⟨rfl, rfl, rfl⟩ := p_7
  rw [if_pos (rl_z0 _)]
  try dsimp only [Option.toList, List.cons_append, List.nil_append]
  refine o_if_eq (tgt := 31) hC dX8_way_10 (by decide) (fun c_10 => ?_) (fun c_10 => ?_)
  · refine o_aload_n hC dX8_way_31 (by rfl) ?_
    refine o_iconst (v := nI 1) hC dX8_way_32 (by decide +kernel) ?_
    refine o_putf hC (fX8_78 hC rfl) (fwX8 rfl rfl rfl (Or.inl rfl)) dX8_way_33 (by repeat (first | with_reducible assumption | (rw [rl_u_s]; done) | (rw [rl_u_s]; rfl) | rw [rl_u_n (by first | with_reducible assumption | omega)])) (Nat.le_of_ble_eq_true rfl) ?_
    try simp only [List.set_cons_zero, List.set_cons_succ]
    refine o_lconst (v := 0) hC dX8_way_36 (by decide +kernel) ?_
    refine o_lret hC hB dX8_way_37 (Nat.le_of_ble_eq_true rfl) (Nat.le_of_ble_eq_true rfl) ?_
    exact ⟨rfl, rfl, by repeat (first | with_reducible assumption | (rw [rl_u_s]; done) | (rw [rl_u_s]; rfl) | rw [rl_u_n (by first | with_reducible assumption | omega)])⟩
  · exact absurd rfl c_10

set_option maxHeartbeats 4000000 in
set_option maxRecDepth 100000 in
theorem fr_X8_clear (l : Launch) (D : va_G) (ids : Nat → ClassId) (H0 : Heap) (h : rl_H) (n : Nat) (m : Nat)  (hm : md_new ids h m) : rl_Met l (rl_e D ids H0) rl_BW rl_Ns yX8_clear cX8_clear 1 none ({ frames := 0, cells := 0, slots := 0, locals := 0 }) [.ref m] h n (fun v h' n' => v = none ∧ n' = n) := by
  obtain ⟨m0, m1, m2, m3, m4, m5, m6, m7, m8, m9, m10, m11, m12, m13, m14, m15, m16, m17, m18, m19, m20, m21, m22⟩ := id hm
  refine rl_Met.of (by decide +kernel) (Nat.le_of_ble_eq_true rfl) ?_
  intro X hC hB
  show rl_G X (rl_e D ids H0) 0 [some (.ref m)] [] h n 0 0
  refine o_aload_n hC dX8_clear_0 (by rfl) ?_
  refine o_iconst (v := nI 0) hC dX8_clear_1 (by decide +kernel) ?_
  refine o_putf hC (fX8_78 hC rfl) (fwX8 rfl rfl rfl (Or.inl rfl)) dX8_clear_2 (by repeat (first | with_reducible assumption | (rw [rl_u_s]; done) | (rw [rl_u_s]; rfl) | rw [rl_u_n (by first | with_reducible assumption | omega)])) (Nat.le_of_ble_eq_true rfl) ?_
  try simp only [List.set_cons_zero, List.set_cons_succ]
  refine o_aload_n hC dX8_clear_5 (by rfl) ?_
  refine o_iconst (v := nI 0) hC dX8_clear_6 (by decide +kernel) ?_
  refine o_putf hC (fX8_109 hC rfl) (fwX8 rfl rfl rfl (Or.inl rfl)) dX8_clear_7 (by repeat (first | with_reducible assumption | (rw [rl_u_s]; done) | (rw [rl_u_s]; rfl) | rw [rl_u_n (by first | with_reducible assumption | omega)])) (Nat.le_of_ble_eq_true rfl) ?_
  try simp only [List.set_cons_zero, List.set_cons_succ]
  refine o_aload_n hC dX8_clear_10 (by rfl) ?_
  refine o_iconst (v := nI 0) hC dX8_clear_11 (by decide +kernel) ?_
  refine o_putf hC (fX8_112 hC rfl) (fwX8 rfl rfl rfl (Or.inl rfl)) dX8_clear_12 (by repeat (first | with_reducible assumption | (rw [rl_u_s]; done) | (rw [rl_u_s]; rfl) | rw [rl_u_n (by first | with_reducible assumption | omega)])) (Nat.le_of_ble_eq_true rfl) ?_
  try simp only [List.set_cons_zero, List.set_cons_succ]
  refine o_aload_n hC dX8_clear_15 (by rfl) ?_
  refine o_iconst (v := nI 0) hC dX8_clear_16 (by decide +kernel) ?_
  refine o_putf hC (fX8_119 hC rfl) (fwX8 rfl rfl rfl (Or.inl rfl)) dX8_clear_17 (by repeat (first | with_reducible assumption | (rw [rl_u_s]; done) | (rw [rl_u_s]; rfl) | rw [rl_u_n (by first | with_reducible assumption | omega)])) (Nat.le_of_ble_eq_true rfl) ?_
  try simp only [List.set_cons_zero, List.set_cons_succ]
  refine o_aload_n hC dX8_clear_20 (by rfl) ?_
  refine o_lconst (v := 0) hC dX8_clear_21 (by decide +kernel) ?_
  refine o_putf hC (fX8_115 hC rfl) (fwX8 rfl rfl rfl (Or.inl rfl)) dX8_clear_22 (by repeat (first | with_reducible assumption | (rw [rl_u_s]; done) | (rw [rl_u_s]; rfl) | rw [rl_u_n (by first | with_reducible assumption | omega)])) (Nat.le_of_ble_eq_true rfl) ?_
  try simp only [List.set_cons_zero, List.set_cons_succ]
  refine o_aload_n hC dX8_clear_25 (by rfl) ?_
  refine o_getf hC (fX8_46 hC rfl) dX8_clear_26 (by repeat (first | with_reducible assumption | (rw [rl_u_s]; done) | (rw [rl_u_s]; rfl) | rw [rl_u_n (by first | with_reducible assumption | omega)])) (by first | rfl | with_reducible assumption) ?_
  refine o_bipush (v := nI 16) hC dX8_clear_29 (by decide +kernel) ?_
  refine o_iconst (v := nI 0) hC dX8_clear_31 (by decide +kernel) ?_
  refine o_iastN (t0 := 0) hC rfl dX8_clear_32 (by repeat (first | with_reducible assumption | (rw [rl_u_s]; done) | (rw [rl_u_s]; rfl) | rw [rl_u_n (by first | with_reducible assumption | omega)])) (by omega) (by decide) ?_
  refine o_vret hC hB dX8_clear_33 (Nat.le_of_ble_eq_true rfl) (Nat.le_of_ble_eq_true rfl) ?_
  exact ⟨rfl, rfl⟩

set_option maxHeartbeats 4000000 in
set_option maxRecDepth 100000 in
theorem fr_X8_source (l : Launch) (D : va_G) (ids : Nat → ClassId) (H0 : Heap) (h : rl_H) (n : Nat) (m : Nat) (c : Int32) (hm : md_new ids h m) : rl_Met l (rl_e D ids H0) rl_BW rl_Ns yX8_source cX8_source 2 (some .int) ({ frames := 0, cells := 0, slots := 0, locals := 0 }) [.ref m, .int c] h n (fun v h' n' => v = some (.int (if c < nI 1 ∨ ¬ c ≤ nI 4 then -2 else nI 0)) ∧ n' = n) := by
  obtain ⟨m0, m1, m2, m3, m4, m5, m6, m7, m8, m9, m10, m11, m12, m13, m14, m15, m16, m17, m18, m19, m20, m21, m22⟩ := id hm
  refine rl_Met.of (by decide +kernel) (Nat.le_of_ble_eq_true rfl) ?_
  intro X hC hB
  show rl_G X (rl_e D ids H0) 0 [some (.ref m), some (.int c)] [] h n 0 0
  refine o_aload_n hC dX8_source_0 (by rfl) ?_
  refine o_iconst (v := nI 0) hC dX8_source_1 (by decide +kernel) ?_
  refine o_putf hC (fX8_78 hC rfl) (fwX8 rfl rfl rfl (Or.inl rfl)) dX8_source_2 (by repeat (first | with_reducible assumption | (rw [rl_u_s]; done) | (rw [rl_u_s]; rfl) | rw [rl_u_n (by first | with_reducible assumption | omega)])) (Nat.le_of_ble_eq_true rfl) ?_
  try simp only [List.set_cons_zero, List.set_cons_succ]
  refine o_iload_n hC dX8_source_5 (by rfl) ?_
  refine o_iconst (v := nI 1) hC dX8_source_6 (by decide +kernel) ?_
  refine o_icmp_lt (tgt := 15) hC dX8_source_7 (by decide) (fun c_7 => ?_) (fun c_7 => ?_)
  · refine o_bipush (v := (-2 : Int32)) hC dX8_source_15 (by decide +kernel) ?_
    refine o_iret hC hB dX8_source_17 (Nat.le_of_ble_eq_true rfl) (Nat.le_of_ble_eq_true rfl) ?_
    refine ⟨?_, rfl⟩
    first | rw [if_pos (Or.inl c_7)] | rw [if_pos (Or.inr c_12)] | (rw [if_neg (fun q => q.elim c_7 (fun q => q c_12))]; rfl)
  · refine o_iload_n hC dX8_source_10 (by rfl) ?_
    refine o_iconst (v := nI 4) hC dX8_source_11 (by decide +kernel) ?_
    refine o_icmp_le (tgt := 18) hC dX8_source_12 (by decide) (fun c_12 => ?_) (fun c_12 => ?_)
    · refine o_aload_n hC dX8_source_18 (by rfl) ?_
      refine o_getf hC (fX8_109 hC rfl) dX8_source_19 (by repeat (first | with_reducible assumption | (rw [rl_u_s]; done) | (rw [rl_u_s]; rfl) | rw [rl_u_n (by first | with_reducible assumption | omega)])) (by first | rfl | with_reducible assumption) ?_
      refine o_iconst (v := nI 4) hC dX8_source_22 (by decide +kernel) ?_
      refine o_icmp_ne (tgt := 29) hC dX8_source_23 (by decide) (fun c_23 => ?_) (fun c_23 => ?_)
      · refine o_aload_n hC dX8_source_29 (by rfl) ?_
        refine o_getf hC (fX8_7 hC rfl) dX8_source_30 (by repeat (first | with_reducible assumption | (rw [rl_u_s]; done) | (rw [rl_u_s]; rfl) | rw [rl_u_n (by first | with_reducible assumption | omega)])) (by first | rfl | with_reducible assumption) ?_
        refine o_aload_n hC dX8_source_33 (by rfl) ?_
        refine o_getf hC (fX8_109 hC rfl) dX8_source_34 (by repeat (first | with_reducible assumption | (rw [rl_u_s]; done) | (rw [rl_u_s]; rfl) | rw [rl_u_n (by first | with_reducible assumption | omega)])) (by first | rfl | with_reducible assumption) ?_
        refine o_iload_n hC dX8_source_37 (by rfl) ?_
        refine o_iastN (t0 := 0) hC rfl dX8_source_38 (by repeat (first | with_reducible assumption | (rw [rl_u_s]; done) | (rw [rl_u_s]; rfl) | rw [rl_u_n (by first | with_reducible assumption | omega)])) (by omega) (by decide) ?_
        refine o_aload_n hC dX8_source_39 (by rfl) ?_
        refine o_dup hC dX8_source_40 rfl ?_
        refine o_getf hC (fX8_109 hC rfl) dX8_source_41 (by repeat (first | with_reducible assumption | (rw [rl_u_s]; done) | (rw [rl_u_s]; rfl) | rw [rl_u_n (by first | with_reducible assumption | omega)])) (by first | rfl | with_reducible assumption) ?_
        refine o_iconst (v := nI 1) hC dX8_source_44 (by decide +kernel) ?_
        refine o_iadd hC dX8_source_45 ?_
        refine o_putf hC (fX8_109 hC rfl) (fwX8 rfl rfl rfl (Or.inl rfl)) dX8_source_46 (by repeat (first | with_reducible assumption | (rw [rl_u_s]; done) | (rw [rl_u_s]; rfl) | rw [rl_u_n (by first | with_reducible assumption | omega)])) (Nat.le_of_ble_eq_true rfl) ?_
        try simp only [List.set_cons_zero, List.set_cons_succ]
        refine o_aload_n hC dX8_source_49 (by rfl) ?_
        refine o_getf hC (fX8_109 hC rfl) dX8_source_50 (by repeat (first | with_reducible assumption | (rw [rl_u_s]; done) | (rw [rl_u_s]; rfl) | rw [rl_u_n (by first | with_reducible assumption | omega)])) (by first | rfl | with_reducible assumption) ?_
        refine o_iconst (v := nI 1) hC dX8_source_53 (by decide +kernel) ?_
        refine o_isub hC dX8_source_54 ?_
        refine o_iret hC hB dX8_source_55 (Nat.le_of_ble_eq_true rfl) (Nat.le_of_ble_eq_true rfl) ?_
        refine ⟨?_, rfl⟩
        first | rw [if_pos (Or.inl c_7)] | rw [if_pos (Or.inr c_12)] | (rw [if_neg (fun q => q.elim c_7 (fun q => q c_12))]; rfl)
      · exact absurd c_23 (by decide +kernel)
    · refine o_bipush (v := (-2 : Int32)) hC dX8_source_15 (by decide +kernel) ?_
      refine o_iret hC hB dX8_source_17 (Nat.le_of_ble_eq_true rfl) (Nat.le_of_ble_eq_true rfl) ?_
      refine ⟨?_, rfl⟩
      first | rw [if_pos (Or.inl c_7)] | rw [if_pos (Or.inr c_12)] | (rw [if_neg (fun q => q.elim c_7 (fun q => q c_12))]; rfl)
end
section
/-! told and clear on fresh objects -/
theorem rl_out {w : Int32} {k : Nat} (hk : k < 2 ^ 31) (h : w < 0 ∨ nI k < w) : w.toInt < 0 ∨ (k : Int) < w.toInt := by
  rcases h with h | h
  · have h2 := Int32.lt_iff_toInt_lt.mp h
    exact Or.inl (by simpa using h2)
  · have h2 := Int32.lt_iff_toInt_lt.mp h
    rw [nI_toInt hk] at h2
    exact Or.inr h2
theorem rl_inn {w : Int32} {k : Nat} (hk : k < 2 ^ 31) (h : ¬ (w < 0 ∨ nI k < w)) : ∃ j : Nat, j ≤ k ∧ w = nI j :=
  nI_of2 (M := nI k) (nI_toInt hk) (fun q => h (Or.inl q)) (Int32.not_lt.mp (fun q => h (Or.inr q)))
theorem rl_on0 : ∀ j, j < 36 → ¬ lg_cmp (((0 : Int64) >>> ((nI j).toInt64 &&& 63)) &&& 1) 1 = 0 := by decide +kernel

set_option maxHeartbeats 4000000 in
set_option maxRecDepth 100000 in
theorem fr_X4_howManyHold (l : Launch) (D : va_G) (ids : Nat → ClassId) (H0 : Heap) (h : rl_H) (n : Nat) (a : Nat) (tv wv : Value) (x : Int64) (h1 : h a = some (.inr (4, [tv, .int (nI 0), wv]))) : rl_Met l (rl_e D ids H0) rl_BW rl_Ns yX4_howManyHold cX4_howManyHold 5 (some .int) ({ frames := 2, cells := 0, slots := 0, locals := 45 }) [.ref a, .long x] h n (fun v h' n' => v = some (.int (nI 0)) ∧ h' = h ∧ n' = n) := by
  refine rl_Met.of (by decide +kernel) (Nat.le_of_ble_eq_true rfl) ?_
  intro X hC hB
  show rl_G X (rl_e D ids H0) 0 [some (.ref a), some (.long x), none, none, none] [] h n 0 0
  refine o_iconst (v := nI 0) hC dX4_howManyHold_0 (by decide +kernel) ?_
  refine o_istore_n hC dX4_howManyHold_1 (Nat.le_of_ble_eq_true rfl) ?_
  refine o_iconst (v := nI 0) hC dX4_howManyHold_2 (by decide +kernel) ?_
  refine o_istore hC dX4_howManyHold_3 (Nat.le_of_ble_eq_true rfl) ?_
  refine o_iload hC dX4_howManyHold_5 (by rfl) ?_
  refine o_aload_n hC dX4_howManyHold_7 (by rfl) ?_
  refine o_getf hC (fX4_18 hC rfl) dX4_howManyHold_8 (by repeat (first | with_reducible assumption | (rw [rl_u_s]; done) | (rw [rl_u_s]; rfl) | rw [rl_u_n (by first | with_reducible assumption | omega)])) (by first | rfl | with_reducible assumption) ?_
  refine o_icmp_ge (tgt := 40) hC dX4_howManyHold_11 (by decide) (fun c_11 => ?_) (fun c_11 => ?_)
  · refine o_iload_n hC dX4_howManyHold_40 (by rfl) ?_
    refine o_iret hC hB dX4_howManyHold_41 (Nat.le_of_ble_eq_true rfl) (Nat.le_of_ble_eq_true rfl) ?_
    exact ⟨rfl, rfl, rfl⟩
  · exact absurd (by decide +kernel) c_11

set_option maxHeartbeats 4000000 in
set_option maxRecDepth 100000 in
theorem fr_X7_told (l : Launch) (D : va_G) (ids : Nat → ClassId) (H0 : Heap) (h : rl_H) (n : Nat) (x : Nat) (w : Int32) (hx : rw_new ids h x) : rl_Met l (rl_e D ids H0) rl_BW rl_Ns yX7_told cX7_told 2 (some .int) ({ frames := 3, cells := 0, slots := 0, locals := 69 }) [.ref x, .int w] h n (fun v h' n' => v = some (.int (if w < 0 ∨ nI 5 < w then -2 else nI 0)) ∧ h' = h ∧ n' = n) := by
  obtain ⟨h1, hso, hop, hnd, htb, hno, hbl⟩ := id hx
  refine rl_Met.of (by decide +kernel) (Nat.le_of_ble_eq_true rfl) ?_
  intro X hC hB
  show rl_G X (rl_e D ids H0) 0 [some (.ref x), some (.int w)] [] h n 0 0
  refine o_iload_n hC dX7_told_0 (by rfl) ?_
  obtain ⟨h2, h3, h4, h5, h6, h7, h8⟩ := id hso
  by_cases hw : w < 0 ∨ nI 5 < w
  · refine o_tableOut (tgt := 97) hC dX7_told_1 (rl_out (by decide) hw) (by decide) ?_
    refine o_bipush (v := (-2 : Int32)) hC dX7_told_97 (by decide +kernel) ?_
    refine o_iret hC hB dX7_told_99 (Nat.le_of_ble_eq_true rfl) (Nat.le_of_ble_eq_true rfl) ?_
    refine ⟨?_, rfl, rfl⟩
    first | rw [if_pos hw] | (rw [if_neg (by decide +kernel)]; done) | (rw [if_neg (by decide +kernel)]; rfl) | (rw [if_neg (by decide +kernel)]; decide +kernel)
  · obtain ⟨j, hj, rfl⟩ := rl_inn (by decide) hw
    rcases (show j = 0 ∨ j = 1 ∨ j = 2 ∨ j = 3 ∨ j = 4 ∨ j = 5 by omega) with rfl | rfl | rfl | rfl | rfl | rfl
    · refine o_tableIn (off := 39) (tgt := 40) hC dX7_told_1 (by decide +kernel) (by decide +kernel) (by decide +kernel) (by decide) ?_
      refine o_aload_n hC dX7_told_40 (by rfl) ?_
      refine o_getf hC (fX7_10 hC rfl) dX7_told_41 (by repeat (first | with_reducible assumption | (rw [rl_u_s]; done) | (rw [rl_u_s]; rfl) | rw [rl_u_n (by first | with_reducible assumption | omega)])) (by first | rfl | with_reducible assumption) ?_
      refine o_getf hC (fX7_53 hC rfl) dX7_told_44 (by repeat (first | with_reducible assumption | (rw [rl_u_s]; done) | (rw [rl_u_s]; rfl) | rw [rl_u_n (by first | with_reducible assumption | omega)])) (by first | rfl | with_reducible assumption) ?_
      refine o_iret hC hB dX7_told_47 (Nat.le_of_ble_eq_true rfl) (Nat.le_of_ble_eq_true rfl) ?_
      refine ⟨?_, rfl, rfl⟩
      first | rw [if_pos hw] | (rw [if_neg (by decide +kernel)]; done) | (rw [if_neg (by decide +kernel)]; rfl) | (rw [if_neg (by decide +kernel)]; decide +kernel)
    · refine o_tableIn (off := 47) (tgt := 48) hC dX7_told_1 (by decide +kernel) (by decide +kernel) (by decide +kernel) (by decide) ?_
      refine o_aload_n hC dX7_told_48 (by rfl) ?_
      refine o_getf hC (fX7_10 hC rfl) dX7_told_49 (by repeat (first | with_reducible assumption | (rw [rl_u_s]; done) | (rw [rl_u_s]; rfl) | rw [rl_u_n (by first | with_reducible assumption | omega)])) (by first | rfl | with_reducible assumption) ?_
      refine o_getf hC (fX7_64 hC rfl) dX7_told_52 (by repeat (first | with_reducible assumption | (rw [rl_u_s]; done) | (rw [rl_u_s]; rfl) | rw [rl_u_n (by first | with_reducible assumption | omega)])) (by first | rfl | with_reducible assumption) ?_
      refine o_iret hC hB dX7_told_55 (Nat.le_of_ble_eq_true rfl) (Nat.le_of_ble_eq_true rfl) ?_
      refine ⟨?_, rfl, rfl⟩
      first | rw [if_pos hw] | (rw [if_neg (by decide +kernel)]; done) | (rw [if_neg (by decide +kernel)]; rfl) | (rw [if_neg (by decide +kernel)]; decide +kernel)
    · refine o_tableIn (off := 55) (tgt := 56) hC dX7_told_1 (by decide +kernel) (by decide +kernel) (by decide +kernel) (by decide) ?_
      refine o_aload_n hC dX7_told_56 (by rfl) ?_
      refine o_getf hC (fX7_78 hC rfl) dX7_told_57 (by repeat (first | with_reducible assumption | (rw [rl_u_s]; done) | (rw [rl_u_s]; rfl) | rw [rl_u_n (by first | with_reducible assumption | omega)])) (by first | rfl | with_reducible assumption) ?_
      refine o_iret hC hB dX7_told_60 (Nat.le_of_ble_eq_true rfl) (Nat.le_of_ble_eq_true rfl) ?_
      refine ⟨?_, rfl, rfl⟩
      first | rw [if_pos hw] | (rw [if_neg (by decide +kernel)]; done) | (rw [if_neg (by decide +kernel)]; rfl) | (rw [if_neg (by decide +kernel)]; decide +kernel)
    · refine o_tableIn (off := 60) (tgt := 61) hC dX7_told_1 (by decide +kernel) (by decide +kernel) (by decide +kernel) (by decide) ?_
      refine o_aload_n hC dX7_told_61 (by rfl) ?_
      refine o_aload_n hC dX7_told_62 (by rfl) ?_
      refine o_getf hC (fX7_49 hC rfl) dX7_told_63 (by repeat (first | with_reducible assumption | (rw [rl_u_s]; done) | (rw [rl_u_s]; rfl) | rw [rl_u_n (by first | with_reducible assumption | omega)])) (by first | rfl | with_reducible assumption) ?_
      refine o_callV1 hC rl_BW_good rl_Ns_nw (by exact hB.2.2.2.2.2) YX7_tableOf IX7_tableOf VX7_tableOf (mX7_127 hC) (by rw [hB.1]; exact fr_X7_tableOf l D ids H0 h n x _ hx) (by exact h1) rfl rfl (Nat.le_of_ble_eq_true rfl) (by rw [hB.2.1]; first | exact Nat.le_of_ble_eq_true rfl | (dsimp only; omega)) (by rw [hB.2.1]; first | exact Nat.le_of_ble_eq_true rfl | (dsimp only; omega)) (by rw [hB.2.1]; first | exact Nat.le_of_ble_eq_true rfl | (dsimp only; omega)) (by rw [hB.2.1]; first | exact Nat.le_of_ble_eq_true rfl | (dsimp only; omega)) dX7_told_66 (fun v h_66 n_66 p_66 => ?_)
      obtain ⟨rfl, rfl, rfl⟩ := p_66
      try dsimp only [Option.toList, List.cons_append, List.nil_append]
      refine o_getf hC (fX7_138 hC rfl) dX7_told_69 (by repeat (first | with_reducible assumption | (rw [rl_u_s]; done) | (rw [rl_u_s]; rfl) | rw [rl_u_n (by first | with_reducible assumption | omega)])) (by first | rfl | with_reducible assumption) ?_
      refine o_iret hC hB dX7_told_72 (Nat.le_of_ble_eq_true rfl) (Nat.le_of_ble_eq_true rfl) ?_
      refine ⟨?_, rfl, rfl⟩
      first | rw [if_pos hw] | (rw [if_neg (by decide +kernel)]; done) | (rw [if_neg (by decide +kernel)]; rfl) | (rw [if_neg (by decide +kernel)]; decide +kernel)
    · refine o_tableIn (off := 72) (tgt := 73) hC dX7_told_1 (by decide +kernel) (by decide +kernel) (by decide +kernel) (by decide) ?_
      refine o_aload_n hC dX7_told_73 (by rfl) ?_
      refine o_aload_n hC dX7_told_74 (by rfl) ?_
      refine o_getf hC (fX7_49 hC rfl) dX7_told_75 (by repeat (first | with_reducible assumption | (rw [rl_u_s]; done) | (rw [rl_u_s]; rfl) | rw [rl_u_n (by first | with_reducible assumption | omega)])) (by first | rfl | with_reducible assumption) ?_
      refine o_callV1 hC rl_BW_good rl_Ns_nw (by exact hB.2.2.2.2.2) YX7_tableOf IX7_tableOf VX7_tableOf (mX7_127 hC) (by rw [hB.1]; exact fr_X7_tableOf l D ids H0 h n x _ hx) (by exact h1) rfl rfl (Nat.le_of_ble_eq_true rfl) (by rw [hB.2.1]; first | exact Nat.le_of_ble_eq_true rfl | (dsimp only; omega)) (by rw [hB.2.1]; first | exact Nat.le_of_ble_eq_true rfl | (dsimp only; omega)) (by rw [hB.2.1]; first | exact Nat.le_of_ble_eq_true rfl | (dsimp only; omega)) (by rw [hB.2.1]; first | exact Nat.le_of_ble_eq_true rfl | (dsimp only; omega)) dX7_told_78 (fun v h_78 n_78 p_78 => ?_)
      obtain ⟨rfl, rfl, rfl⟩ := p_78
      try dsimp only [Option.toList, List.cons_append, List.nil_append]
      refine o_aload_n hC dX7_told_81 (by rfl) ?_
      refine o_getf hC (fX7_71 hC rfl) dX7_told_82 (by repeat (first | with_reducible assumption | (rw [rl_u_s]; done) | (rw [rl_u_s]; rfl) | rw [rl_u_n (by first | with_reducible assumption | omega)])) (by first | rfl | with_reducible assumption) ?_
      refine o_callV1 hC rl_BW_good rl_Ns_nw (by exact hB.2.2.2.2.2) YX4_howManyHold IX4_howManyHold VX4_howManyHold (mX7_223 hC) (by rw [hB.1]; exact fr_X4_howManyHold l D ids H0 _ _ (x + 65) _ _ _ hno) (by exact hno) rfl rfl (Nat.le_of_ble_eq_true rfl) (by rw [hB.2.1]; first | exact Nat.le_of_ble_eq_true rfl | (dsimp only; omega)) (by rw [hB.2.1]; first | exact Nat.le_of_ble_eq_true rfl | (dsimp only; omega)) (by rw [hB.2.1]; first | exact Nat.le_of_ble_eq_true rfl | (dsimp only; omega)) (by rw [hB.2.1]; first | exact Nat.le_of_ble_eq_true rfl | (dsimp only; omega)) dX7_told_85 (fun v h_85 n_85 p_85 => ?_)
      obtain ⟨rfl, rfl, rfl⟩ := p_85
      try dsimp only [Option.toList, List.cons_append, List.nil_append]
      refine o_iret hC hB dX7_told_88 (Nat.le_of_ble_eq_true rfl) (Nat.le_of_ble_eq_true rfl) ?_
      refine ⟨?_, rfl, rfl⟩
      first | rw [if_pos hw] | (rw [if_neg (by decide +kernel)]; done) | (rw [if_neg (by decide +kernel)]; rfl) | (rw [if_neg (by decide +kernel)]; decide +kernel)
    · refine o_tableIn (off := 88) (tgt := 89) hC dX7_told_1 (by decide +kernel) (by decide +kernel) (by decide +kernel) (by decide) ?_
      refine o_aload_n hC dX7_told_89 (by rfl) ?_
      refine o_getf hC (fX7_71 hC rfl) dX7_told_90 (by repeat (first | with_reducible assumption | (rw [rl_u_s]; done) | (rw [rl_u_s]; rfl) | rw [rl_u_n (by first | with_reducible assumption | omega)])) (by first | rfl | with_reducible assumption) ?_
      refine o_callS1 hC rl_BW_good rl_Ns_nw (by exact hB.2.2.2.2.2) YJ13_bitCount_95d88 SJ13_bitCount_95d88 (mX7_203 hC) (by rw [hB.1]; exact ct_J13_bitCount_95d88 l D ids H0 h n 0) (Nat.le_of_ble_eq_true rfl) (by rw [hB.2.1]; first | exact Nat.le_of_ble_eq_true rfl | (dsimp only; omega)) (by rw [hB.2.1]; first | exact Nat.le_of_ble_eq_true rfl | (dsimp only; omega)) (by rw [hB.2.1]; first | exact Nat.le_of_ble_eq_true rfl | (dsimp only; omega)) (by rw [hB.2.1]; first | exact Nat.le_of_ble_eq_true rfl | (dsimp only; omega)) dX7_told_93 (fun v h_93 n_93 p_93 => ?_)
      obtain ⟨rfl, rfl, rfl⟩ := p_93
      try dsimp only [Option.toList, List.cons_append, List.nil_append]
      refine o_iret hC hB dX7_told_96 (Nat.le_of_ble_eq_true rfl) (Nat.le_of_ble_eq_true rfl) ?_
      refine ⟨?_, rfl, rfl⟩
      first | rw [if_pos hw] | (rw [if_neg (by decide +kernel)]; done) | (rw [if_neg (by decide +kernel)]; rfl) | (rw [if_neg (by decide +kernel)]; decide +kernel)

set_option maxHeartbeats 4000000 in
set_option maxRecDepth 100000 in
theorem fr_X7_forgetWhatNodesGave (l : Launch) (D : va_G) (ids : Nat → ClassId) (H0 : Heap) (h : rl_H) (n : Nat) (x : Nat) (a0 a1 a2 a3 a4 a5 : Value) (rs : Int32) (pr : Int64) (h1 : h x = some (.inr (7, [a0, a1, a2, a3, a4, a5, .int (nI 0), .int rs, .long pr]))) : rl_Met l (rl_e D ids H0) rl_BW rl_Ns yX7_forgetWhatNodesGave cX7_forgetWhatNodesGave 2 none ({ frames := 0, cells := 0, slots := 0, locals := 0 }) [.ref x] h n (fun v h' n' => v = none ∧ n' = n ∧ h' x = some (.inr (7, [a0, a1, a2, a3, a4, a5, .int (nI 0), .int (-1), .long pr])) ∧ rl_fr h h' x (x + 1)) := by
  refine rl_Met.of (by decide +kernel) (Nat.le_of_ble_eq_true rfl) ?_
  intro X hC hB
  show rl_G X (rl_e D ids H0) 0 [some (.ref x), none] [] h n 0 0
  refine o_iconst (v := nI 0) hC dX7_forgetWhatNodesGave_0 (by decide +kernel) ?_
  refine o_istore_n hC dX7_forgetWhatNodesGave_1 (Nat.le_of_ble_eq_true rfl) ?_
  refine o_iload_n hC dX7_forgetWhatNodesGave_2 (by rfl) ?_
  refine o_aload_n hC dX7_forgetWhatNodesGave_3 (by rfl) ?_
  refine o_getf hC (fX7_78 hC rfl) dX7_forgetWhatNodesGave_4 (by repeat (first | with_reducible assumption | (rw [rl_u_s]; done) | (rw [rl_u_s]; rfl) | rw [rl_u_n (by first | with_reducible assumption | omega)])) (by first | rfl | with_reducible assumption) ?_
  refine o_icmp_ge (tgt := 26) hC dX7_forgetWhatNodesGave_7 (by decide) (fun c_7 => ?_) (fun c_7 => ?_)
  · refine o_aload_n hC dX7_forgetWhatNodesGave_26 (by rfl) ?_
    refine o_iconst (v := (-1 : Int32)) hC dX7_forgetWhatNodesGave_27 (by decide +kernel) ?_
    refine o_putf hC (fX7_49 hC rfl) (fwX7 rfl rfl rfl (Or.inl rfl)) dX7_forgetWhatNodesGave_28 (by repeat (first | with_reducible assumption | (rw [rl_u_s]; done) | (rw [rl_u_s]; rfl) | rw [rl_u_n (by first | with_reducible assumption | omega)])) (Nat.le_of_ble_eq_true rfl) ?_
    try simp only [List.set_cons_zero, List.set_cons_succ]
    refine o_vret hC hB dX7_forgetWhatNodesGave_31 (Nat.le_of_ble_eq_true rfl) (Nat.le_of_ble_eq_true rfl) ?_
    refine ⟨rfl, rfl, by repeat (first | with_reducible assumption | (rw [rl_u_s]; done) | (rw [rl_u_s]; rfl) | rw [rl_u_n (by first | with_reducible assumption | omega)]), fun q hq => rl_u_n (by omega)⟩
  · exact absurd (by decide +kernel) c_7

set_option maxHeartbeats 4000000 in
set_option maxRecDepth 100000 in
theorem fr_X7_clear (l : Launch) (D : va_G) (ids : Nat → ClassId) (H0 : Heap) (h : rl_H) (n : Nat) (x : Nat) (hx : rw_new ids h x) : rl_Met l (rl_e D ids H0) rl_BW rl_Ns yX7_clear cX7_clear 1 none ({ frames := 1, cells := 0, slots := 0, locals := 21 }) [.ref x] h n (fun v h' n' => v = none ∧ n' = n ∧ rl_fr h h' x (x + 41)) := by
  obtain ⟨h1, hso, hop, hnd, htb, hno, hbl⟩ := id hx
  refine rl_Met.of (by decide +kernel) (Nat.le_of_ble_eq_true rfl) ?_
  intro X hC hB
  show rl_G X (rl_e D ids H0) 0 [some (.ref x)] [] h n 0 0
  refine o_aload_n hC dX7_clear_0 (by rfl) ?_
  refine o_getf hC (fX7_10 hC rfl) dX7_clear_1 (by repeat (first | with_reducible assumption | (rw [rl_u_s]; done) | (rw [rl_u_s]; rfl) | rw [rl_u_n (by first | with_reducible assumption | omega)] | rw [p2 _ (by omega)] | rw [q2 _ (by omega)])) (by first | rfl | with_reducible assumption) ?_
  refine o_callV0 hC rl_BW_good rl_Ns_nw (by exact hB.2.2.2.2.2) YX3_forgetAll IX3_forgetAll VX3_forgetAll (mX7_226 hC) (by rw [hB.1]; exact ct_X3_forgetAll l D ids H0 h n (x + 1) _ _ _ 0 0 hso) (by exact hso.1) rfl rfl (Nat.le_of_ble_eq_true rfl) (by rw [hB.2.1]; first | exact Nat.le_of_ble_eq_true rfl | (dsimp only; omega)) (by rw [hB.2.1]; first | exact Nat.le_of_ble_eq_true rfl | (dsimp only; omega)) (by rw [hB.2.1]; first | exact Nat.le_of_ble_eq_true rfl | (dsimp only; omega)) (by rw [hB.2.1]; first | exact Nat.le_of_ble_eq_true rfl | (dsimp only; omega)) dX7_clear_4 (fun v h_4 n_4 p_4 => ?_)
  obtain ⟨rfl, rfl, p1, p2⟩ := p_4
  have r1 : h_4 x = some (.inr (7, [.ref (x + 1), .ref (x + 41), .ref (x + 63), .ref (x + 64), .ref (x + 65), .ref (x + 67), .int (nI 0), .int (-1), .long 0])) := by
    rw [p2 x (by omega)]
    exact h1
  try dsimp only [Option.toList, List.cons_append, List.nil_append]
  refine o_aload_n hC dX7_clear_7 (by rfl) ?_
  refine o_callV0 hC rl_BW_good rl_Ns_nw (by exact hB.2.2.2.2.2) YX7_forgetWhatNodesGave IX7_forgetWhatNodesGave VX7_forgetWhatNodesGave (mX7_75 hC) (by rw [hB.1]; exact fr_X7_forgetWhatNodesGave l D ids H0 _ _ x _ _ _ _ _ _ _ _ r1) (by exact r1) rfl rfl (Nat.le_of_ble_eq_true rfl) (by rw [hB.2.1]; first | exact Nat.le_of_ble_eq_true rfl | (dsimp only; omega)) (by rw [hB.2.1]; first | exact Nat.le_of_ble_eq_true rfl | (dsimp only; omega)) (by rw [hB.2.1]; first | exact Nat.le_of_ble_eq_true rfl | (dsimp only; omega)) (by rw [hB.2.1]; first | exact Nat.le_of_ble_eq_true rfl | (dsimp only; omega)) dX7_clear_8 (fun v h_8 n_8 p_8 => ?_)
  obtain ⟨rfl, rfl, q1, q2⟩ := p_8
  try dsimp only [Option.toList, List.cons_append, List.nil_append]
  refine o_aload_n hC dX7_clear_11 (by rfl) ?_
  refine o_iconst (v := nI 0) hC dX7_clear_12 (by decide +kernel) ?_
  refine o_putf hC (fX7_78 hC rfl) (fwX7 rfl rfl rfl (Or.inl rfl)) dX7_clear_13 (by repeat (first | with_reducible assumption | (rw [rl_u_s]; done) | (rw [rl_u_s]; rfl) | rw [rl_u_n (by first | with_reducible assumption | omega)] | rw [p2 _ (by omega)] | rw [q2 _ (by omega)])) (Nat.le_of_ble_eq_true rfl) ?_
  try simp only [List.set_cons_zero, List.set_cons_succ]
  refine o_aload_n hC dX7_clear_16 (by rfl) ?_
  refine o_lconst (v := 0) hC dX7_clear_17 (by decide +kernel) ?_
  refine o_putf hC (fX7_71 hC rfl) (fwX7 rfl rfl rfl (Or.inl rfl)) dX7_clear_18 (by repeat (first | with_reducible assumption | (rw [rl_u_s]; done) | (rw [rl_u_s]; rfl) | rw [rl_u_n (by first | with_reducible assumption | omega)] | rw [p2 _ (by omega)] | rw [q2 _ (by omega)])) (Nat.le_of_ble_eq_true rfl) ?_
  try simp only [List.set_cons_zero, List.set_cons_succ]
  refine o_vret hC hB dX7_clear_21 (Nat.le_of_ble_eq_true rfl) (Nat.le_of_ble_eq_true rfl) ?_
  refine ⟨rfl, rfl, fun q hq => ?_⟩
  rw [rl_u_n (by omega), rl_u_n (by omega), q2 q (by omega)]
  exact p2 q (by omega)

set_option maxHeartbeats 4000000 in
set_option maxRecDepth 100000 in
theorem fr_X8_ones (l : Launch) (D : va_G) (ids : Nat → ClassId) (H0 : Heap) (h : rl_H) (n : Nat)   : rl_Met l (rl_e D ids H0) rl_BW rl_Ns yX8_ones cX8_ones 4 (some .int) ({ frames := 0, cells := 0, slots := 0, locals := 0 }) [.long 0] h n (fun v h' n' => v = some (.int (nI 0)) ∧ h' = h ∧ n' = n) := by
  refine rl_Met.of (by decide +kernel) (Nat.le_of_ble_eq_true rfl) ?_
  intro X hC hB
  have loop : ∀ (k j : Nat), j + k = 36 → rl_G X (rl_e D ids H0) 4 [some (.long 0), none, some (.int (nI 0)), some (.int (nI j))] [] h n 0 0 := by
    intro k
    induction k with
    | zero =>
      intro j hj
      refine o_iload_n hC dX8_ones_4 (by rfl) ?_
      refine o_bipush (v := nI 36) hC dX8_ones_5 (by decide +kernel) ?_
      refine o_icmp_ge (tgt := 34) hC dX8_ones_7 (by decide) (fun c_7 => ?_) (fun c_7 => ?_)
      · refine o_iload_n hC dX8_ones_34 (by rfl) ?_
        refine o_iret hC hB dX8_ones_35 (Nat.le_of_ble_eq_true rfl) (Nat.le_of_ble_eq_true rfl) ?_
        exact ⟨rfl, rfl, rfl⟩
      · exact absurd (nI_le (by omega) (by omega)) c_7
    | succ k ih =>
      intro j hj
      refine o_iload_n hC dX8_ones_4 (by rfl) ?_
      refine o_bipush (v := nI 36) hC dX8_ones_5 (by decide +kernel) ?_
      refine o_icmp_ge (tgt := 34) hC dX8_ones_7 (by decide) (fun c_7 => ?_) (fun c_7 => ?_)
      · exact absurd c_7 (nI_ge (by omega) (by omega))
      · refine o_iload_n hC dX8_ones_10 (by rfl) ?_
        refine o_lload_n hC dX8_ones_11 (by rfl) ?_
        refine o_iload_n hC dX8_ones_12 (by rfl) ?_
        refine o_lshr hC dX8_ones_13 ?_
        refine o_lconst (v := 1) hC dX8_ones_14 (by decide +kernel) ?_
        refine o_land hC dX8_ones_15 ?_
        refine o_lconst (v := 1) hC dX8_ones_16 (by decide +kernel) ?_
        refine o_lcmp hC dX8_ones_17 ?_
        refine o_if_ne (tgt := 25) hC dX8_ones_18 (by decide) (fun c_18 => ?_) (fun c_18 => ?_)
        · refine o_iconst (v := nI 0) hC dX8_ones_25 (by decide +kernel) ?_
          refine o_iadd hC dX8_ones_26 ?_
          refine o_istore_n hC dX8_ones_27 (Nat.le_of_ble_eq_true rfl) ?_
          refine o_iinc hC dX8_ones_28 (by rfl) (rl_inc _) (Nat.le_of_ble_eq_true rfl) ?_
          refine o_goto (tgt := 4) hC dX8_ones_31 (by decide) ?_
          exact ih (j + 1) (by omega)
        · exact absurd c_18 (rl_on0 j (by omega))
  show rl_G X (rl_e D ids H0) 0 [some (.long 0), none, none, none] [] h n 0 0
  refine o_iconst (v := nI 0) hC dX8_ones_0 (by decide +kernel) ?_
  refine o_istore_n hC dX8_ones_1 (Nat.le_of_ble_eq_true rfl) ?_
  refine o_iconst (v := nI 0) hC dX8_ones_2 (by decide +kernel) ?_
  refine o_istore_n hC dX8_ones_3 (Nat.le_of_ble_eq_true rfl) ?_
  exact loop 36 0 (by omega)

set_option maxHeartbeats 4000000 in
set_option maxRecDepth 100000 in
theorem fr_X8_told (l : Launch) (D : va_G) (ids : Nat → ClassId) (H0 : Heap) (h : rl_H) (n : Nat) (m : Nat) (w : Int32) (hm : md_new ids h m) : rl_Met l (rl_e D ids H0) rl_BW rl_Ns yX8_told cX8_told 4 (some .int) ({ frames := 1, cells := 0, slots := 0, locals := 23 }) [.ref m, .int w] h n (fun v h' n' => v = some (.int (if w < 0 ∨ nI 5 < w then -2 else nI 0)) ∧ n' = n) := by
  obtain ⟨m0, m1, m2, m3, m4, m5, m6, m7, m8, m9, m10, m11, m12, m13, m14, m15, m16, m17, m18, m19, m20, m21, m22⟩ := id hm
  refine rl_Met.of (by decide +kernel) (Nat.le_of_ble_eq_true rfl) ?_
  intro X hC hB
  show rl_G X (rl_e D ids H0) 0 [some (.ref m), some (.int w), none, none] [] h n 0 0
  refine o_aload_n hC dX8_told_0 (by rfl) ?_
  refine o_iconst (v := nI 0) hC dX8_told_1 (by decide +kernel) ?_
  refine o_putf hC (fX8_78 hC rfl) (fwX8 rfl rfl rfl (Or.inl rfl)) dX8_told_2 (by repeat (first | with_reducible assumption | (rw [rl_u_s]; done) | (rw [rl_u_s]; rfl) | rw [rl_u_n (by first | with_reducible assumption | omega)])) (Nat.le_of_ble_eq_true rfl) ?_
  try simp only [List.set_cons_zero, List.set_cons_succ]
  refine o_iconst (v := nI 0) hC dX8_told_5 (by decide +kernel) ?_
  refine o_istore_n hC dX8_told_6 (Nat.le_of_ble_eq_true rfl) ?_
  refine o_iload_n hC dX8_told_7 (by rfl) ?_
  by_cases hw : w < 0 ∨ nI 5 < w
  · refine o_tableOut (tgt := 120) hC dX8_told_8 (rl_out (by decide) hw) (by decide) ?_
    refine o_bipush (v := (-2 : Int32)) hC dX8_told_120 (by decide +kernel) ?_
    refine o_iret hC hB dX8_told_122 (Nat.le_of_ble_eq_true rfl) (Nat.le_of_ble_eq_true rfl) ?_
    refine ⟨?_, rfl⟩
    first | rw [if_pos hw] | (rw [if_neg (by decide +kernel)]; done) | (rw [if_neg (by decide +kernel)]; rfl) | (rw [if_neg (by decide +kernel)]; decide +kernel)
  · obtain ⟨j, hj, rfl⟩ := rl_inn (by decide) hw
    rcases (show j = 0 ∨ j = 1 ∨ j = 2 ∨ j = 3 ∨ j = 4 ∨ j = 5 by omega) with rfl | rfl | rfl | rfl | rfl | rfl
    · refine o_tableIn (off := 40) (tgt := 48) hC dX8_told_8 (by decide +kernel) (by decide +kernel) (by decide +kernel) (by decide) ?_
      refine o_aload_n hC dX8_told_48 (by rfl) ?_
      refine o_getf hC (fX8_109 hC rfl) dX8_told_49 (by repeat (first | with_reducible assumption | (rw [rl_u_s]; done) | (rw [rl_u_s]; rfl) | rw [rl_u_n (by first | with_reducible assumption | omega)])) (by first | rfl | with_reducible assumption) ?_
      refine o_iret hC hB dX8_told_52 (Nat.le_of_ble_eq_true rfl) (Nat.le_of_ble_eq_true rfl) ?_
      refine ⟨?_, rfl⟩
      first | rw [if_pos hw] | (rw [if_neg (by decide +kernel)]; done) | (rw [if_neg (by decide +kernel)]; rfl) | (rw [if_neg (by decide +kernel)]; decide +kernel)
    · refine o_tableIn (off := 45) (tgt := 53) hC dX8_told_8 (by decide +kernel) (by decide +kernel) (by decide +kernel) (by decide) ?_
      refine o_aload_n hC dX8_told_53 (by rfl) ?_
      refine o_getf hC (fX8_112 hC rfl) dX8_told_54 (by repeat (first | with_reducible assumption | (rw [rl_u_s]; done) | (rw [rl_u_s]; rfl) | rw [rl_u_n (by first | with_reducible assumption | omega)])) (by first | rfl | with_reducible assumption) ?_
      refine o_iret hC hB dX8_told_57 (Nat.le_of_ble_eq_true rfl) (Nat.le_of_ble_eq_true rfl) ?_
      refine ⟨?_, rfl⟩
      first | rw [if_pos hw] | (rw [if_neg (by decide +kernel)]; done) | (rw [if_neg (by decide +kernel)]; rfl) | (rw [if_neg (by decide +kernel)]; decide +kernel)
    · refine o_tableIn (off := 50) (tgt := 58) hC dX8_told_8 (by decide +kernel) (by decide +kernel) (by decide +kernel) (by decide) ?_
      refine o_aload_n hC dX8_told_58 (by rfl) ?_
      refine o_getf hC (fX8_119 hC rfl) dX8_told_59 (by repeat (first | with_reducible assumption | (rw [rl_u_s]; done) | (rw [rl_u_s]; rfl) | rw [rl_u_n (by first | with_reducible assumption | omega)])) (by first | rfl | with_reducible assumption) ?_
      refine o_iret hC hB dX8_told_62 (Nat.le_of_ble_eq_true rfl) (Nat.le_of_ble_eq_true rfl) ?_
      refine ⟨?_, rfl⟩
      first | rw [if_pos hw] | (rw [if_neg (by decide +kernel)]; done) | (rw [if_neg (by decide +kernel)]; rfl) | (rw [if_neg (by decide +kernel)]; decide +kernel)
    · refine o_tableIn (off := 55) (tgt := 63) hC dX8_told_8 (by decide +kernel) (by decide +kernel) (by decide +kernel) (by decide) ?_
      refine o_aload_n hC dX8_told_63 (by rfl) ?_
      refine o_getf hC (fX8_46 hC rfl) dX8_told_64 (by repeat (first | with_reducible assumption | (rw [rl_u_s]; done) | (rw [rl_u_s]; rfl) | rw [rl_u_n (by first | with_reducible assumption | omega)])) (by first | rfl | with_reducible assumption) ?_
      refine o_bipush (v := nI 16) hC dX8_told_67 (by decide +kernel) ?_
      refine o_ialdN (t0 := 0) hC rfl dX8_told_69 (by repeat (first | with_reducible assumption | (rw [rl_u_s]; done) | (rw [rl_u_s]; rfl) | rw [rl_u_n (by first | with_reducible assumption | omega)])) (by omega) (by decide) ?_
      refine o_iret hC hB dX8_told_70 (Nat.le_of_ble_eq_true rfl) (Nat.le_of_ble_eq_true rfl) ?_
      refine ⟨?_, rfl⟩
      first | rw [if_pos hw] | (rw [if_neg (by decide +kernel)]; done) | (rw [if_neg (by decide +kernel)]; rfl) | (rw [if_neg (by decide +kernel)]; decide +kernel)
    · refine o_tableIn (off := 63) (tgt := 71) hC dX8_told_8 (by decide +kernel) (by decide +kernel) (by decide +kernel) (by decide) ?_
      refine o_iconst (v := nI 0) hC dX8_told_71 (by decide +kernel) ?_
      refine o_istore_n hC dX8_told_72 (Nat.le_of_ble_eq_true rfl) ?_
      refine o_iload_n hC dX8_told_73 (by rfl) ?_
      refine o_aload_n hC dX8_told_74 (by rfl) ?_
      refine o_getf hC (fX8_46 hC rfl) dX8_told_75 (by repeat (first | with_reducible assumption | (rw [rl_u_s]; done) | (rw [rl_u_s]; rfl) | rw [rl_u_n (by first | with_reducible assumption | omega)])) (by first | rfl | with_reducible assumption) ?_
      refine o_bipush (v := nI 16) hC dX8_told_78 (by decide +kernel) ?_
      refine o_ialdN (t0 := 0) hC rfl dX8_told_80 (by repeat (first | with_reducible assumption | (rw [rl_u_s]; done) | (rw [rl_u_s]; rfl) | rw [rl_u_n (by first | with_reducible assumption | omega)])) (by omega) (by decide) ?_
      refine o_icmp_ge (tgt := 110) hC dX8_told_81 (by decide) (fun c_81 => ?_) (fun c_81 => ?_)
      · refine o_iload_n hC dX8_told_110 (by rfl) ?_
        refine o_iret hC hB dX8_told_111 (Nat.le_of_ble_eq_true rfl) (Nat.le_of_ble_eq_true rfl) ?_
        refine ⟨?_, rfl⟩
        first | rw [if_pos hw] | (rw [if_neg (by decide +kernel)]; done) | (rw [if_neg (by decide +kernel)]; rfl) | (rw [if_neg (by decide +kernel)]; decide +kernel)
      · exact absurd (by decide +kernel) c_81
    · refine o_tableIn (off := 104) (tgt := 112) hC dX8_told_8 (by decide +kernel) (by decide +kernel) (by decide +kernel) (by decide) ?_
      refine o_aload_n hC dX8_told_112 (by rfl) ?_
      refine o_getf hC (fX8_115 hC rfl) dX8_told_113 (by repeat (first | with_reducible assumption | (rw [rl_u_s]; done) | (rw [rl_u_s]; rfl) | rw [rl_u_n (by first | with_reducible assumption | omega)])) (by first | rfl | with_reducible assumption) ?_
      refine o_callS1 hC rl_BW_good rl_Ns_nw (by exact hB.2.2.2.2.2) YX8_ones SX8_ones (mX8_220 hC) (by rw [hB.1]; exact fr_X8_ones l D ids H0 _ n) (Nat.le_of_ble_eq_true rfl) (by rw [hB.2.1]; first | exact Nat.le_of_ble_eq_true rfl | (dsimp only; omega)) (by rw [hB.2.1]; first | exact Nat.le_of_ble_eq_true rfl | (dsimp only; omega)) (by rw [hB.2.1]; first | exact Nat.le_of_ble_eq_true rfl | (dsimp only; omega)) (by rw [hB.2.1]; first | exact Nat.le_of_ble_eq_true rfl | (dsimp only; omega)) dX8_told_116 (fun v h_116 n_116 p_116 => ?_)
      obtain ⟨rfl, rfl, rfl⟩ := p_116
      try dsimp only [Option.toList, List.cons_append, List.nil_append]
      refine o_iret hC hB dX8_told_119 (Nat.le_of_ble_eq_true rfl) (Nat.le_of_ble_eq_true rfl) ?_
      refine ⟨?_, rfl⟩
      first | rw [if_pos hw] | (rw [if_neg (by decide +kernel)]; done) | (rw [if_neg (by decide +kernel)]; rfl) | (rw [if_neg (by decide +kernel)]; decide +kernel)
end
section
/-! ===== BEGIN exceptions that leave a method, and their catching by the caller (launches without stack traces) ===== -/
section VXA
/-! The laws vx_back, vx_callV, vx_callS, vx_callSW, vx_throw0, vx_throwS follow proofs of the library, with one case more: JvmDerived/Free/Laws.lean (Back.of_free), Shelf42/LK1.lean (callV, callS), Shelf/KitTraced.lean (throwNew0V, throwNewS). -/
/-- where a method has thrown q: the class by its name, the cell, what was written, the world -/
def vx_T (XC : String → State → State → Prop) (st : State) (q : Addr) (t : State) (mc ms : Nat) (free : Addr → Prop) : Prop :=
  ∃ (E : String) (ce : Cell) (L : List Loc), XC E st t ∧ t.heap[q]? = some ce ∧ ce.vm = .none ∧ st.vm.findClass E = some ce.cls ∧ st.WarmedH t.vm ∧ st.sameButNew ({ t with vm := st.vm } : State) L mc ms ∧ ∀ z ∈ L, free z.base
def vx_Q (Qc : Array Value → State → Outcome → State → Prop) (XC : String → State → State → Prop) (mc ms : Nat) (free : Addr → Prop) : Array Value → State → Outcome → State → Prop := fun a st o t =>
  (Qc a st o t ∧ ∃ L, FrameEnd st o t L mc ms ∧ ∀ q ∈ L, free q.base) ∨ ∃ q, o = .threw q ∧ vx_T XC st q t mc ms free
/-- a callee that returns or throws -/
def vx_Met (l : Launch) (y : MethodName) (ws : List Cond) (rm : Room) (Pc : Array Value → State → Prop) (Qc : Array Value → State → Outcome → State → Prop) (XC : String → State → State → Prop) (mc ms : Nat) (free : Addr → Prop) : Prop :=
  MetFree l y (headSpec ws rm) Pc (fun _ _ _ _ _ => True) (vx_Q Qc XC mc ms free)
def vx_Post (XC : String → State → State → Prop) (mc ms : Nat) (free : Addr → Prop) : Pt → Array Value → Addr → Pt → Prop := fun A a q B =>
  ∃ (g : JFrame) (mk : MethodId) (t : State) (L : List Loc) (E : String) (ce : Cell), B.U.heap = t.heap ∧ B.U.vm = t.vm ∧ XC E (A.U.calling g mk a) t ∧ t.heap[q]? = some ce ∧ ce.vm = .none ∧ A.U.vm.findClass E = some ce.cls ∧ B.locs = A.locs ++ L ∧ (∀ z ∈ L, free z.base) ∧ B.cells = A.cells + mc ∧ B.slots = A.slots + ms
def vx_Back (l : Launch) (R : Room) (p : Program) (e : Env) (below : List Frame) (s : State) (sargs : Array Value) (y : MethodName) (len W9 : Nat)
    (Pre : Pt → Array Value → Prop) (Post : Pt → Array Value → Option Value → Pt → Prop) (PostX : Pt → Array Value → Addr → Pt → Prop) : Prop :=
  ∀ (m : MethodId) (meth : Method) (c : Code) (A : Pt) (g : JFrame) (ig : Instr) (mk : MethodId) (a : Array Value),
    Stand p l e R s m sargs below meth c A.U A.locs A.cells A.slots → g.method = m → g.locals.size = c.maxLocals → decode c.code g.pc = .ok (ig, len) →
    2 * g.monitorRoom + (g.stack.map fun v => v.category).sum ≤ W9 → A.U.methodNamed? y = some mk → Pre A a →
    (∃ (v : Option Value) (B : Pt), Stand p l e R s m sargs below meth c B.U B.locs B.cells B.slots ∧ Post A a v B ∧
      Steps p.tables e below (doInvoke e (A.U.setTop g) [] mk a).1 (B.U.setTop { g with pc := g.pc + len, stack := v.toList ++ g.stack })) ∨
    (∃ (q : Addr) (B : Pt), Stand p l e R s m sargs below meth c B.U B.locs B.cells B.slots ∧ PostX A a q B ∧
      Steps p.tables e below (doInvoke e (A.U.setTop g) [] mk a).1 ((B.U.setTop g).pushFrame (.throwing q)))
section Payer
variable {l : Launch} {R : Room} {p : Program} {e : Env} {below : List Frame} {s : State} {sargs : Array Value} {y : MethodName} {len W9 : Nat}
theorem vx_back {ws : List Cond} {rm : Room} {Pc : Array Value → State → Prop} {Qc : Array Value → State → Outcome → State → Prop} {XC : String → State → State → Prop} {mc ms : Nat} {free : Addr → Prop} {bytes : ByteArray} {maxL : Nat} {ret : Option FieldType}
    (hM : vx_Met l y ws rm Pc Qc XC mc ms free) (hblind : FrameBlind Pc) (hrc : rm.cells = mc) (hrs : rm.slots = ms)
    (hframes : rm.frames + 1 ≤ R.frames) (hlocals : W9 + (maxL + 11) + rm.locals ≤ R.locals)
    (hws : ∀ w ∈ ws, ∀ a' U, s.WarmedH U.vm → w.before a' U = true) (hcode : Cond.code y bytes maxL ret ∈ ws) (hinit : ∀ a' U, s.WarmedH U.vm → (Cond.initialized y.cls).before a' U = true) :
    vx_Back l R p e below s sargs y len W9 (PreOf R mc ms Pc) (PostOf Qc mc ms free) (vx_Post XC mc ms free) := by
  intro m meth c A g ig mk a X hg hsize hdg hW hn hp
  have h1 : (headSpec ws rm).pre.before a A.U = true := atoms_intro fun w hw => hws w hw _ _ X.warmed
  have h2 : (Cond.code y bytes maxL ret).before a A.U = true := hws _ hcode _ _ X.warmed
  have h3 : (Cond.initialized y.cls).before a A.U = true := hinit _ _ X.warmed
  have h4 : A.cells + (headSpec ws rm).room.cells ≤ R.cells := by rw [show (headSpec ws rm).room.cells = mc from hrc]; exact hp.1
  have h5 : A.slots + (headSpec ws rm).room.slots ≤ R.slots := by rw [show (headSpec ws rm).room.slots = ms from hrs]; exact hp.2.1
  have hPc : Pc a (A.U.calling g mk a) := hblind _ _ _ _ hp.2.2
  obtain ⟨U, Ls, c0, s0⟩ := A
  dsimp only [Pt.U, Pt.locs, Pt.cells, Pt.slots] at h1 h2 h3 h4 h5 X hn hPc ⊢
  obtain ⟨methY, cY, hmY, hcY, -, hlY, -, -, -, -⟩ := Cond.code_spec hn h2
  obtain ⟨kY, hkY, -⟩ := className_of_methodNamed hn
  have hinitY : kY.init = .initialized := Cond.initialized_spec (findClass_of_methodNamed hn) hkY h3
  have h : At U g.method c below := by rw [hg]; exact X.here
  have hlocals9 : W9 + (maxL + 11) + (headSpec ws rm).room.locals ≤ R.locals := hlocals
  have happ : (headSpec ws rm).appliesLoose y e.platform (U.calling g mk a) = true :=
    Spec.appliesLoose_calling (g := g) h hdg hn hkY hinitY
      (X.room_calling (g := g) (R' := (headSpec ws rm).room) hsize hmY hcY hframes (by rw [hlY]; omega) h4 h5) h1
  obtain ⟨mid, hmid⟩ := h.above
  have hfr : (U.setTop g).frames = (.java g :: mid) ++ below := by rw [State.frames_setTop' g h.top, hmid]; rfl
  obtain ⟨o, s₂, hsteps, -, hend, hq⟩ := Steps.callFree hM p X.admits X.cas X.clock (acts := []) hfr happ hPc trivial
  have hq' : vx_Q Qc XC mc ms free a (U.calling g mk a) o s₂ := hq
  rw [State.frames_setTop' g h.top] at hend
  obtain ⟨g₀, hg0⟩ := Option.isSome_iff_exists.mp h.top
  obtain ⟨r, hr⟩ := State.topJava?_eq_some.mp hg0
  have hr' : (({ U with heap := s₂.heap, slotsUsed := s₂.slotsUsed } : State).setVm s₂.vm).frames = .java g₀ :: r := hr
  rcases hq' with ⟨hqc, L, hfe, hL⟩ | ⟨q, rfl, E, ce, L, hx, hce, hcv, hcl, hW₂, hsm, hL⟩
  · obtain ⟨⟨v, rfl⟩, hW₂, e2, q2, q3, q4, q5, q6⟩ := id hfe
    have e3 : s₂ = ({ (U.calling g mk a).setFrames s₂.frames with heap := s₂.heap, slotsUsed := s₂.slotsUsed } : State).setVm s₂.vm := by
      have : s₂ = ({ s₂ with vm := (U.calling g mk a).vm } : State).setVm s₂.vm := rfl
      rw [e2] at this
      exact this
    obtain ⟨c₂, i₂, len₂, hc₂, hd₂, hf₂⟩ := hend
    have hW' : U.WarmedH s₂.vm := hW₂
    have hcc : c₂ = c := by
      have h1 : s₂.code? g.method = U.code? g.method := by
        rw [State.code?_eq, State.code?_eq, hW'.alike.method?]
      exact Option.some.inj (hc₂.symm.trans (h1.trans h.code))
    subst hcc
    have hlen : len₂ = len := by rw [hdg] at hd₂; cases hd₂; rfl
    subst hlen
    have hs₂ : s₂ = (({ U with heap := s₂.heap, slotsUsed := s₂.slotsUsed } : State).setVm s₂.vm).setTop { g with pc := g.pc + len₂, stack := v.toList ++ g.stack } := by
      refine e3.trans ?_
      rw [hf₂, State.calling_eq h.top, State.setFrames_setFrames, State.setTop_of_frames _ hr', hr]
      rfl
    have hsame : U.sameButNew ({ U with heap := s₂.heap, slotsUsed := s₂.slotsUsed } : State) L mc ms := by
      refine ⟨?_, q2, q3, q4, q5, q6⟩
      obtain ⟨t, ht, -⟩ := State.frames_cons hr
      show ({ U with heap := s₂.heap, slotsUsed := s₂.slotsUsed } : State) = { U.setFrames U.frames with heap := s₂.heap, slotsUsed := s₂.slotsUsed }
      rw [State.setFrames_self ht]
    subst hg
    refine Or.inl ⟨v, ⟨(({ U with heap := s₂.heap, slotsUsed := s₂.slotsUsed } : State).setVm s₂.vm), Ls ++ L, c0 + mc, s0 + ms⟩,
      ⟨X.admits, X.cas, X.clock, X.frames, X.room, X.hears, X.method, X.code, (X.here.setHeapUsed s₂.heap s₂.slotsUsed).setVm hW'.alike, X.tail, State.WarmedH.trans X.warmed hW', X.limits, X.bytes, X.same.trans (hsame.setVm s.vm)⟩,
      ⟨g, mk, s₂, L, rfl, rfl, hqc, rfl, hL, rfl, rfl⟩, ?_⟩
    show Steps p.tables e below _ ((({ U with heap := s₂.heap, slotsUsed := s₂.slotsUsed } : State).setVm s₂.vm).setTop { g with pc := g.pc + len₂, stack := v.toList ++ g.stack })
    rw [← hs₂]
    exact hsteps
  · obtain ⟨e2, q2, q3, q4, q5, q6⟩ := id hsm
    have e3 : s₂ = ({ (U.calling g mk a).setFrames s₂.frames with heap := s₂.heap, slotsUsed := s₂.slotsUsed } : State).setVm s₂.vm := by
      have : s₂ = ({ s₂ with vm := (U.calling g mk a).vm } : State).setVm s₂.vm := rfl
      rw [e2] at this
      exact this
    have hf₂ : s₂.frames = .throwing q :: .java g :: U.frames.tail := hend
    have hW' : U.WarmedH s₂.vm := hW₂
    have hs₂ : s₂ = ((({ U with heap := s₂.heap, slotsUsed := s₂.slotsUsed } : State).setVm s₂.vm).setTop g).pushFrame (.throwing q) := by
      refine e3.trans ?_
      rw [hf₂, State.calling_eq h.top, State.setFrames_setFrames, State.pushFrame, State.frames_setTop _ hr', State.setTop_of_frames _ hr', State.setFrames_setFrames, hr]
      rfl
    have hsame : U.sameButNew ({ U with heap := s₂.heap, slotsUsed := s₂.slotsUsed } : State) L mc ms := by
      refine ⟨?_, q2, q3, q4, q5, q6⟩
      obtain ⟨t, ht, -⟩ := State.frames_cons hr
      show ({ U with heap := s₂.heap, slotsUsed := s₂.slotsUsed } : State) = { U.setFrames U.frames with heap := s₂.heap, slotsUsed := s₂.slotsUsed }
      rw [State.setFrames_self ht]
    subst hg
    refine Or.inr ⟨q, ⟨(({ U with heap := s₂.heap, slotsUsed := s₂.slotsUsed } : State).setVm s₂.vm), Ls ++ L, c0 + mc, s0 + ms⟩,
      ⟨X.admits, X.cas, X.clock, X.frames, X.room, X.hears, X.method, X.code, (X.here.setHeapUsed s₂.heap s₂.slotsUsed).setVm hW'.alike, X.tail, State.WarmedH.trans X.warmed hW', X.limits, X.bytes, X.same.trans (hsame.setVm s.vm)⟩,
      ⟨g, mk, s₂, L, E, ce, rfl, rfl, hx, hce, hcv, hcl, rfl, hL, rfl, rfl⟩, ?_⟩
    show Steps p.tables e below _ (((({ U with heap := s₂.heap, slotsUsed := s₂.slotsUsed } : State).setVm s₂.vm).setTop g).pushFrame (.throwing q))
    rw [← hs₂]
    exact hsteps
end Payer
section Calls
variable {p : Program} {l : Launch} {e : Env} {R : Room} {s : State} {m : MethodId} {args : Array Value} {below : List Frame} {meth : Method} {c : Code} {T : State} {locs : List Loc} {cells slots : Nat}
theorem vx_callV (X : Stand p l e R s m args below meth c T locs cells slots) (hexec : p.tables.exec = Jvm.exec) {own C : String} {index : Nat} {y : MethodName} {bytes : ByteArray} {maxL : Nat} {ret : Option FieldType}
    (hown : s.vm.findClass own = some m.cls) (hlink : (Cond.methodLink own index y).before args s = true) (hinst : (Cond.instanceMethod y).before args s = true) (hsel : (Cond.selects C y y).before args s = true)
    (hcode : (Cond.code y bytes maxL ret).before args s = true) (hy : y.cls ≠ "java/lang/invoke/MethodHandle" ∧ y.cls ≠ "java/lang/invoke/VarHandle")
    {W9 : Nat} {Pre : Pt → Array Value → Prop} {Post : Pt → Array Value → Option Value → Pt → Prop} {PostX : Pt → Array Value → Addr → Pt → Prop} (hK : vx_Back l R p e below s args y 3 W9 Pre Post PostX)
    {b : Addr} {cellB : Cell} (hcell : T.heap[b]? = some cellB) (hobj : cellB.vm.isStatics = false) (hcls : s.vm.findClass C = some cellB.cls)
    {g : JFrame} (hg : g.method = m) (hsize : g.locals.size = c.maxLocals) {argsL rest : List Value} (hlen : ∀ sig, parseMethodDescriptor y.desc = some sig → argsL.length = sig.parameters.length)
    (hstack : g.stack = argsL.reverse ++ .ref b :: rest) (hW : 2 * g.monitorRoom + (rest.map fun v => v.category).sum ≤ W9) (hdg : decode c.code g.pc = .ok (.invokevirtual index, 3))
    (hpre : ∀ vm₁, s.WarmedH vm₁ → Pre ⟨T.setVm vm₁, locs, cells, slots⟩ (Value.ref b :: argsL).toArray) :
    (∃ (v : Option Value) (vm₁ : Vm) (B : Pt), s.WarmedH vm₁ ∧ Stand p l e R s m args below meth c B.U B.locs B.cells B.slots ∧ Post ⟨T.setVm vm₁, locs, cells, slots⟩ (Value.ref b :: argsL).toArray v B ∧
      ∀ target, Steps p.tables e below (B.U.setTop { g with pc := g.pc + 3, stack := v.toList ++ rest }) target → Steps p.tables e below (T.setTop g) target) ∨
    (∃ (q : Addr) (vm₁ : Vm) (B : Pt), s.WarmedH vm₁ ∧ Stand p l e R s m args below meth c B.U B.locs B.cells B.slots ∧ PostX ⟨T.setVm vm₁, locs, cells, slots⟩ (Value.ref b :: argsL).toArray q B ∧
      Steps p.tables e below (T.setTop g) ((B.U.setTop { g with stack := rest }).pushFrame (.throwing q))) := by
  obtain ⟨mk, methM, hnamed, hmethM, hstM, habM⟩ := Cond.instanceMethod_spec hinst
  obtain ⟨methM', cM, hmethM', -, -, -, -, -, -, hsigM⟩ := Cond.code_spec hnamed hcode
  cases hmethM.symm.trans hmethM'
  obtain ⟨c2, r2, m2, q1, q2, q3, q4, kP, hkP, hkPi⟩ := Cond.selects_spec hsel
  cases hcls.symm.trans q1
  cases (State.methodFound?_of_named hnamed hy).symm.trans q2
  cases hnamed.symm.trans q3
  have hselP : selectMethod e.platform s.vm cellB.cls mk = .method mk := by rw [Launch.admits_selectMethod X.admits]; exact q4
  obtain ⟨vm₁, X₁, hstep₁⟩ := X.invokevirtual hexec hown hlink hnamed hmethM hstM hkP hkPi hy (a := b) (cell := cellB) hcell
    (fun z h => by rw [h] at hobj; cases hobj) hselP hmethM habM hkP hkPi (g := g) hg (argsL := argsL) (rest := rest) (hlen _ hsigM) hstack hdg
  rcases hK m meth c ⟨T.setVm vm₁, locs, cells, slots⟩ { g with stack := rest } (.invokevirtual index) mk (Value.ref b :: argsL).toArray X₁ hg hsize hdg hW (X₁.named hnamed) (hpre vm₁ X₁.warmed) with ⟨v, B, X', hpost, hsteps⟩ | ⟨q, B, X', hpost, hsteps⟩
  · exact Or.inl ⟨v, vm₁, B, X₁.warmed, X', hpost, fun target h => hstep₁ _ fun acts => by rw [doInvoke_state]; exact hsteps.trans h⟩
  · exact Or.inr ⟨q, vm₁, B, X₁.warmed, X', hpost, hstep₁ _ fun acts => by rw [doInvoke_state]; exact hsteps⟩
theorem vx_callS (X : Stand p l e R s m args below meth c T locs cells slots) (hexec : p.tables.exec = Jvm.exec) {own : String} {index : Nat} {y : MethodName} {bytes : ByteArray} {maxL : Nat} {ret : Option FieldType}
    (hown : s.vm.findClass own = some m.cls) (hlink : (Cond.methodLink own index y).before args s = true) (hstat : (Cond.static y).before args s = true) (hinit : (Cond.initialized y.cls).before args s = true)
    (hcode : (Cond.code y bytes maxL ret).before args s = true) (hy : y.cls ≠ "java/lang/invoke/MethodHandle" ∧ y.cls ≠ "java/lang/invoke/VarHandle")
    {W9 : Nat} {Pre : Pt → Array Value → Prop} {Post : Pt → Array Value → Option Value → Pt → Prop} {PostX : Pt → Array Value → Addr → Pt → Prop} (hK : vx_Back l R p e below s args y 3 W9 Pre Post PostX)
    {g : JFrame} (hg : g.method = m) (hsize : g.locals.size = c.maxLocals) {argsL rest : List Value} (hlen : ∀ sig, parseMethodDescriptor y.desc = some sig → argsL.length = sig.parameters.length)
    (hstack : g.stack = argsL.reverse ++ rest) (hW : 2 * g.monitorRoom + (rest.map fun v => v.category).sum ≤ W9) (hdg : decode c.code g.pc = .ok (.invokestatic index, 3))
    (hpre : ∀ vm₁, s.WarmedH vm₁ → Pre ⟨T.setVm vm₁, locs, cells, slots⟩ argsL.toArray) :
    (∃ (v : Option Value) (vm₁ : Vm) (B : Pt), s.WarmedH vm₁ ∧ Stand p l e R s m args below meth c B.U B.locs B.cells B.slots ∧ Post ⟨T.setVm vm₁, locs, cells, slots⟩ argsL.toArray v B ∧
      ∀ target, Steps p.tables e below (B.U.setTop { g with pc := g.pc + 3, stack := v.toList ++ rest }) target → Steps p.tables e below (T.setTop g) target) ∨
    (∃ (q : Addr) (vm₁ : Vm) (B : Pt), s.WarmedH vm₁ ∧ Stand p l e R s m args below meth c B.U B.locs B.cells B.slots ∧ PostX ⟨T.setVm vm₁, locs, cells, slots⟩ argsL.toArray q B ∧
      Steps p.tables e below (T.setTop g) ((B.U.setTop { g with stack := rest }).pushFrame (.throwing q))) := by
  obtain ⟨mk, hnamed⟩ := Cond.code_named hcode
  obtain ⟨methM, cM, hmethM, -, -, -, -, -, -, hsigM⟩ := Cond.code_spec hnamed hcode
  have hstatic : methM.isStatic = true := Cond.static_spec hnamed hmethM hstat
  obtain ⟨kP, hkP, -⟩ := className_of_methodNamed hnamed
  have hinitP : kP.init = .initialized := Cond.initialized_spec (findClass_of_methodNamed hnamed) hkP hinit
  obtain ⟨vm₁, X₁, hstep₁⟩ := X.invokestatic hexec hown hlink hnamed hmethM hstatic hkP hinitP hy (g := g) hg (argsL := argsL) (rest := rest) (hlen _ hsigM) hstack hdg
  rcases hK m meth c ⟨T.setVm vm₁, locs, cells, slots⟩ { g with stack := rest } (.invokestatic index) mk argsL.toArray X₁ hg hsize hdg hW (X₁.named hnamed) (hpre vm₁ X₁.warmed) with ⟨v, B, X', hpost, hsteps⟩ | ⟨q, B, X', hpost, hsteps⟩
  · exact Or.inl ⟨v, vm₁, B, X₁.warmed, X', hpost, fun target h => hstep₁ _ fun acts => by rw [doInvoke_state]; exact hsteps.trans h⟩
  · exact Or.inr ⟨q, vm₁, B, X₁.warmed, X', hpost, hstep₁ _ fun acts => by rw [doInvoke_state]; exact hsteps⟩
end Calls
theorem vx_cls {s : State} {T : State} {vm₁ : Vm} {E : String} {k : ClassId} (hW : s.WarmedH vm₁) (h : (T.setVm vm₁).vm.findClass E = some k) : s.vm.findClass E = some k := by
  have h1 : vm₁.findClass E = some k := h
  rw [hW.alike.findClass] at h1
  exact h1
/-- the method's frame g, with q thrown over it -/
def vx_W (p : Program) (l : Launch) (e : Env) (R : Room) (s : State) (m : MethodId) (args : Array Value) (below : List Frame) (meth : Method) (c : Code) (H : Heap) (locs : List Loc) (cells slots : Nat) (Q : State → Prop) (g : JFrame) (q : Addr) : Prop :=
  ∀ T : State, T.heap = H → Stand p l e R s m args below meth c T locs cells slots → ∃ t, Steps p.tables e below ((T.setTop g).pushFrame (.throwing q)) t ∧ Q t
def vx_Run (p : Program) (l : Launch) (e : Env) (R : Room) (s : State) (m : MethodId) (args : Array Value) (below : List Frame) (meth : Method) (c : Code) (H : Heap) (locs : List Loc) (cells slots mc ms : Nat) (g : JFrame) (rest : List Value) (Qa : State → Outcome → State → Prop) (XC : String → State → State → Prop) (free : Addr → Prop) : Prop :=
  ∀ T : State, T.heap = H → Stand p l e R s m args below meth c T locs cells slots →
    (∃ (v : Option Value) (st₀ t T' : State) (L : List Loc), st₀.heap = H ∧ Stand p l e R s m args below meth c T' (locs ++ L) (cells + mc) (slots + ms) ∧ (∀ q ∈ L, free q.base) ∧ T'.heap = t.heap ∧ T'.vm = t.vm ∧ Qa st₀ (.returned v) t ∧
      Goes p e below T g T' { g with pc := g.pc + 3, stack := v.toList ++ rest }) ∨
    (∃ (q : Addr) (st₀ t T' : State) (L : List Loc) (E : String) (ce : Cell), st₀.heap = H ∧ Stand p l e R s m args below meth c T' (locs ++ L) (cells + mc) (slots + ms) ∧ (∀ z ∈ L, free z.base) ∧ T'.heap = t.heap ∧ T'.vm = t.vm ∧ XC E st₀ t ∧ t.heap[q]? = some ce ∧ ce.vm = .none ∧ s.vm.findClass E = some ce.cls ∧
      Steps p.tables e below (T.setTop g) ((T'.setTop { g with stack := rest }).pushFrame (.throwing q)))
def vx_X {S : Type} (px : S → Prop) (B : String → S → State → Prop) (A : Nat → Prop) : String → State → State → Prop := fun E st t => ∃ u : S, px u ∧ B E u t ∧ va_F A st t
section Runs
variable {p : Program} {l : Launch} {e : Env} {R : Room} {s : State} {m : MethodId} {args : Array Value} {below : List Frame} {meth : Method} {c : Code} {H : Heap} {locs : List Loc} {cells slots : Nat}
variable {y : MethodName} {bytes cc : ByteArray} {maxL nL mc ms n index : Nat} {ret : Option FieldType} {ws : List Cond} {rm : Room} {Pc : Array Value → State → Prop} {Qc : Array Value → State → Outcome → State → Prop} {XC : String → State → State → Prop} {free : Addr → Prop} {Ts : List Cond} {own C : String} {b : Addr} {As rest : List Value} {g : JFrame}
theorem vx_callBack (cb : CallB R s args own index y bytes maxL ret ws rm mc ms n) (hM : vx_Met l y ws rm Pc Qc XC mc ms free) (hbl : FrameBlind Pc) : vx_Back l R p e below s args y 3 8 (PreOf R mc ms Pc) (PostOf Qc mc ms free) (vx_Post XC mc ms free) := by
  obtain ⟨hrc, hrs, hfr, hlo, hws, hcw, -, hini, -⟩ := cb
  exact vx_back (bytes := bytes) (maxL := maxL) (ret := ret) hM hbl hrc hrs hfr hlo hws hcw (fun a' U hW => word_at hW (Or.inl (by first | rfl | simp [Cond.onTables, Cond.keeps, Cond.steady])) hini)
theorem vx_runV (S : CallFix p m c cc nL s args Ts own) (hM : vx_Met l y ws rm Pc Qc XC mc ms free) (cw : CallW R s args own C index y bytes maxL ret ws rm mc ms n) (hp : PreV s H C b Pc As)
    (hg : g.method = m) (hn : As.length = n) (hsize : g.locals.size = nL) (hstack : g.stack = As.reverse ++ .ref b :: rest) (hW : 2 * g.monitorRoom + (rest.map fun v => v.category).sum ≤ 8) (hdg : decode cc g.pc = .ok (.invokevirtual index, 3)) (hf : cells + mc ≤ R.cells ∧ slots + ms ≤ R.slots) :
    vx_Run p l e R s m args below meth c H locs cells slots mc ms g rest (Qc (Value.ref b :: As).toArray) XC free := by
  have hK : vx_Back l R p e below s args y 3 8 (PreOf R mc ms Pc) (PostOf Qc mc ms free) (vx_Post XC mc ms free) := vx_callBack cw.1 hM hp.1
  obtain ⟨⟨-, -, -, -, -, -, hcode, -, hy, hlen, hl⟩, hin, hse⟩ := cw
  obtain ⟨hx, hb, hml, ho, -⟩ := S
  obtain ⟨-, ⟨cellB, hcB, hoB, hclB⟩, hPc⟩ := hp
  intro T hT X
  rcases vx_callV X hx (C := C) (bytes := bytes) (maxL := maxL) (ret := ret) ho hl hin hse hcode hy hK (by rw [hT]; exact hcB) hoB hclB hg (hsize.trans hml.symm) (argsL := As) (rest := rest) (fun sig h => hn.trans (hlen sig h)) hstack hW (by rw [hb]; exact hdg)
    (fun vm₁ hW₁ => ⟨hf.1, hf.2, hPc (T.setVm vm₁) hT hW₁⟩) with ⟨v, vm₁, ⟨U', l2, c2, s2⟩, hW₁, X', ⟨g', mk, t, L, e1, e2, hq, h1, hL, h2, h3⟩, st⟩ | ⟨q, vm₁, ⟨U', l2, c2, s2⟩, hW₁, X', ⟨g', mk, t, L, E, ce, e1, e2, hq, hce, hcv, hcl, h1, hL, h2, h3⟩, st⟩
  · dsimp only [Pt.U, Pt.locs, Pt.cells, Pt.slots] at X' e1 e2 h1 h2 h3 st
    subst h1; subst h2; subst h3
    exact Or.inl ⟨v, (T.setVm vm₁).calling g' mk (Value.ref b :: As).toArray, t, U', L, hT, X', hL, e1, e2, hq, st⟩
  · dsimp only [Pt.U, Pt.locs, Pt.cells, Pt.slots] at X' e1 e2 h1 h2 h3 st hcl
    subst h1; subst h2; subst h3
    exact Or.inr ⟨q, (T.setVm vm₁).calling g' mk (Value.ref b :: As).toArray, t, U', L, E, ce, hT, X', hL, e1, e2, hq, hce, hcv, vx_cls hW₁ hcl, st⟩
theorem vx_runS (S : CallFix p m c cc nL s args Ts own) (hM : vx_Met l y ws rm Pc Qc XC mc ms free) (cw : CallB R s args own index y bytes maxL ret ws rm mc ms n ∧ (Cond.static y).before args s = true) (hp : PreS s H Pc As)
    (hg : g.method = m) (hn : As.length = n) (hsize : g.locals.size = nL) (hstack : g.stack = As.reverse ++ rest) (hW : 2 * g.monitorRoom + (rest.map fun v => v.category).sum ≤ 8) (hdg : decode cc g.pc = .ok (.invokestatic index, 3)) (hf : cells + mc ≤ R.cells ∧ slots + ms ≤ R.slots) :
    vx_Run p l e R s m args below meth c H locs cells slots mc ms g rest (Qc As.toArray) XC free := by
  have hK : vx_Back l R p e below s args y 3 8 (PreOf R mc ms Pc) (PostOf Qc mc ms free) (vx_Post XC mc ms free) := vx_callBack cw.1 hM hp.1
  obtain ⟨⟨-, -, -, -, -, -, hcode, hini, hy, hlen, hl⟩, hstt⟩ := cw
  obtain ⟨hx, hb, hml, ho, -⟩ := S
  intro T hT X
  rcases vx_callS X hx (bytes := bytes) (maxL := maxL) (ret := ret) ho hl hstt hini hcode hy hK hg (hsize.trans hml.symm) (argsL := As) (rest := rest) (fun sig h => hn.trans (hlen sig h)) hstack hW (by rw [hb]; exact hdg)
    (fun vm₁ hW₁ => ⟨hf.1, hf.2, hp.2 (T.setVm vm₁) hT hW₁⟩) with ⟨v, vm₁, ⟨U', l2, c2, s2⟩, hW₁, X', ⟨g', mk, t, L, e1, e2, hq, h1, hL, h2, h3⟩, st⟩ | ⟨q, vm₁, ⟨U', l2, c2, s2⟩, hW₁, X', ⟨g', mk, t, L, E, ce, e1, e2, hq, hce, hcv, hcl, h1, hL, h2, h3⟩, st⟩
  · dsimp only [Pt.U, Pt.locs, Pt.cells, Pt.slots] at X' e1 e2 h1 h2 h3 st
    subst h1; subst h2; subst h3
    exact Or.inl ⟨v, (T.setVm vm₁).calling g' mk As.toArray, t, U', L, hT, X', hL, e1, e2, hq, st⟩
  · dsimp only [Pt.U, Pt.locs, Pt.cells, Pt.slots] at X' e1 e2 h1 h2 h3 st hcl
    subst h1; subst h2; subst h3
    exact Or.inr ⟨q, (T.setVm vm₁).calling g' mk As.toArray, t, U', L, E, ce, hT, X', hL, e1, e2, hq, hce, hcv, vx_cls hW₁ hcl, st⟩
end Runs
section Rows
variable {p : Program} {l : Launch} {e : Env} {R : Room} {s : State} {m : MethodId} {args : Array Value} {below : List Frame} {meth : Method} {c : Code} {H : Heap} {locs : List Loc} {cells slots : Nat} {Q : State → Prop}
variable {mc ms : Nat} {free : Addr → Prop} {A0 A1 : Nat → Prop} {H0 : Heap} {a : Array Value} {pc : Nat} {ls : Array Slot} {st0 rest : List Value}
theorem vx_keep {st₀ t T' : State} {L : List Loc} (h0 : st₀.heap = H) (e1 : T'.heap = t.heap) (hS : va_S A0 H0 H locs) (hA : ∀ q, q < H.size → A1 q → A0 q) (hf : ∀ q, free q → A0 q) (hL : ∀ q ∈ L, free q.base) (hF : va_F A1 st₀ t) :
    H.size ≤ T'.heap.size ∧ (∀ q : Nat, q < H.size → ¬ A1 q → T'.heap[q]? = H[q]?) ∧ va_S A0 H0 T'.heap (locs ++ L) := by
  obtain ⟨hz, hk⟩ := hF
  rw [h0] at hz hk
  exact ⟨by rw [e1]; exact hz, fun q h1 h2 => by rw [e1]; exact hk q h1 h2,
    ⟨Nat.le_trans hS.1 (by rw [e1]; exact hz), fun q h1 h2 => by rw [e1, hk q (Nat.lt_of_lt_of_le h1 hS.1) (fun z => h2 (hA q (Nat.lt_of_lt_of_le h1 hS.1) z))]; exact hS.2.1 q h1 h2, fun q hq => by
      rcases List.mem_append.mp hq with h | h
      · exact hS.2.2 q h
      · exact hf _ (hL q h)⟩⟩
theorem vx_calli {S SX : Type} {post : Int32 → S → Prop} {px : SX → Prop} {B : S → State → Prop} {BX : String → SX → State → Prop} {AX : Nat → Prop} (hr : vx_Run p l e R s m args below meth c H locs cells slots mc ms (F0 m pc ls st0) rest (va_Qi post B A1 a) (vx_X px BX AX) free) (hS : va_S A0 H0 H locs) (hA : ∀ q, q < H.size → A1 q → A0 q) (hf : ∀ q, free q → A0 q) (hAX : ∀ q, q < H.size → AX q → A0 q)
    (kx : ∀ (E : String) (ce : Cell) (q9 : Addr) (u : SX) (t : State) (H1 : Heap) (locs1 : List Loc), t.heap = H1 → s.vm.Alike t.vm → px u → BX E u t → H.size ≤ H1.size → (∀ q : Nat, q < H.size → ¬ AX q → H1[q]? = H[q]?) → va_S A0 H0 H1 locs1 → H1[q9]? = some ce → ce.vm = .none → s.vm.findClass E = some ce.cls → vx_W p l e R s m args below meth c H1 locs1 (cells + mc) (slots + ms) Q (F0 m pc ls rest) q9)
    (kk : ∀ (r : Int32) (u : S) (t : State) (H1 : Heap) (locs1 : List Loc), t.heap = H1 → s.vm.Alike t.vm → post r u → B u t → H.size ≤ H1.size → (∀ q : Nat, q < H.size → ¬ A1 q → H1[q]? = H[q]?) → va_S A0 H0 H1 locs1 → W p l e R s m args below meth c H1 locs1 (cells + mc) (slots + ms) Q (F0 m (pc + 3) ls (.int r :: rest))) : W p l e R s m args below meth c H locs cells slots Q (F0 m pc ls st0) := by
  intro T hT X
  rcases hr T hT X with ⟨v, st₀, t, T', L, h0, X', hL, e1, e2, ⟨⟨r, u, hv, hp, hb⟩, hF⟩, st⟩ | ⟨q, st₀, t, T', L, E, ce, h0, X', hL, e1, e2, ⟨u, hp, hb, hF⟩, hce, hcv, hcl, st⟩
  · cases hv
    obtain ⟨k1, k2, k3⟩ := vx_keep h0 e1 hS hA hf hL hF
    obtain ⟨t2, a1, b1⟩ := kk r u t T'.heap (locs ++ L) e1.symm (by rw [← e2]; exact X'.warmed.alike) hp hb k1 k2 k3 T' rfl X'
    exact ⟨t2, st t2 a1, b1⟩
  · obtain ⟨k1, k2, k3⟩ := vx_keep h0 e1 hS hAX hf hL hF
    obtain ⟨t2, a1, b1⟩ := kx E ce q u t T'.heap (locs ++ L) e1.symm (by rw [← e2]; exact X'.warmed.alike) hp hb k1 k2 k3 (by rw [e1]; exact hce) hcv hcl T' rfl X'
    exact ⟨t2, st.trans a1, b1⟩
theorem vx_calll {S SX : Type} {post : Int64 → S → Prop} {px : SX → Prop} {B : S → State → Prop} {BX : String → SX → State → Prop} {AX : Nat → Prop} (hr : vx_Run p l e R s m args below meth c H locs cells slots mc ms (F0 m pc ls st0) rest (va_Ql post B A1 a) (vx_X px BX AX) free) (hS : va_S A0 H0 H locs) (hA : ∀ q, q < H.size → A1 q → A0 q) (hf : ∀ q, free q → A0 q) (hAX : ∀ q, q < H.size → AX q → A0 q)
    (kx : ∀ (E : String) (ce : Cell) (q9 : Addr) (u : SX) (t : State) (H1 : Heap) (locs1 : List Loc), t.heap = H1 → s.vm.Alike t.vm → px u → BX E u t → H.size ≤ H1.size → (∀ q : Nat, q < H.size → ¬ AX q → H1[q]? = H[q]?) → va_S A0 H0 H1 locs1 → H1[q9]? = some ce → ce.vm = .none → s.vm.findClass E = some ce.cls → vx_W p l e R s m args below meth c H1 locs1 (cells + mc) (slots + ms) Q (F0 m pc ls rest) q9)
    (kk : ∀ (r : Int64) (u : S) (t : State) (H1 : Heap) (locs1 : List Loc), t.heap = H1 → s.vm.Alike t.vm → post r u → B u t → H.size ≤ H1.size → (∀ q : Nat, q < H.size → ¬ A1 q → H1[q]? = H[q]?) → va_S A0 H0 H1 locs1 → W p l e R s m args below meth c H1 locs1 (cells + mc) (slots + ms) Q (F0 m (pc + 3) ls (.long r :: rest))) : W p l e R s m args below meth c H locs cells slots Q (F0 m pc ls st0) := by
  intro T hT X
  rcases hr T hT X with ⟨v, st₀, t, T', L, h0, X', hL, e1, e2, ⟨⟨r, u, hv, hp, hb⟩, hF⟩, st⟩ | ⟨q, st₀, t, T', L, E, ce, h0, X', hL, e1, e2, ⟨u, hp, hb, hF⟩, hce, hcv, hcl, st⟩
  · cases hv
    obtain ⟨k1, k2, k3⟩ := vx_keep h0 e1 hS hA hf hL hF
    obtain ⟨t2, a1, b1⟩ := kk r u t T'.heap (locs ++ L) e1.symm (by rw [← e2]; exact X'.warmed.alike) hp hb k1 k2 k3 T' rfl X'
    exact ⟨t2, st t2 a1, b1⟩
  · obtain ⟨k1, k2, k3⟩ := vx_keep h0 e1 hS hAX hf hL hF
    obtain ⟨t2, a1, b1⟩ := kx E ce q u t T'.heap (locs ++ L) e1.symm (by rw [← e2]; exact X'.warmed.alike) hp hb k1 k2 k3 (by rw [e1]; exact hce) hcv hcl T' rfl X'
    exact ⟨t2, st.trans a1, b1⟩
theorem vx_callf {S SX : Type} {post : UInt32 → S → Prop} {px : SX → Prop} {B : S → State → Prop} {BX : String → SX → State → Prop} {AX : Nat → Prop} (hr : vx_Run p l e R s m args below meth c H locs cells slots mc ms (F0 m pc ls st0) rest (va_Qf post B A1 a) (vx_X px BX AX) free) (hS : va_S A0 H0 H locs) (hA : ∀ q, q < H.size → A1 q → A0 q) (hf : ∀ q, free q → A0 q) (hAX : ∀ q, q < H.size → AX q → A0 q)
    (kx : ∀ (E : String) (ce : Cell) (q9 : Addr) (u : SX) (t : State) (H1 : Heap) (locs1 : List Loc), t.heap = H1 → s.vm.Alike t.vm → px u → BX E u t → H.size ≤ H1.size → (∀ q : Nat, q < H.size → ¬ AX q → H1[q]? = H[q]?) → va_S A0 H0 H1 locs1 → H1[q9]? = some ce → ce.vm = .none → s.vm.findClass E = some ce.cls → vx_W p l e R s m args below meth c H1 locs1 (cells + mc) (slots + ms) Q (F0 m pc ls rest) q9)
    (kk : ∀ (r : UInt32) (u : S) (t : State) (H1 : Heap) (locs1 : List Loc), t.heap = H1 → s.vm.Alike t.vm → post r u → B u t → H.size ≤ H1.size → (∀ q : Nat, q < H.size → ¬ A1 q → H1[q]? = H[q]?) → va_S A0 H0 H1 locs1 → W p l e R s m args below meth c H1 locs1 (cells + mc) (slots + ms) Q (F0 m (pc + 3) ls (.float r :: rest))) : W p l e R s m args below meth c H locs cells slots Q (F0 m pc ls st0) := by
  intro T hT X
  rcases hr T hT X with ⟨v, st₀, t, T', L, h0, X', hL, e1, e2, ⟨⟨r, u, hv, hp, hb⟩, hF⟩, st⟩ | ⟨q, st₀, t, T', L, E, ce, h0, X', hL, e1, e2, ⟨u, hp, hb, hF⟩, hce, hcv, hcl, st⟩
  · cases hv
    obtain ⟨k1, k2, k3⟩ := vx_keep h0 e1 hS hA hf hL hF
    obtain ⟨t2, a1, b1⟩ := kk r u t T'.heap (locs ++ L) e1.symm (by rw [← e2]; exact X'.warmed.alike) hp hb k1 k2 k3 T' rfl X'
    exact ⟨t2, st t2 a1, b1⟩
  · obtain ⟨k1, k2, k3⟩ := vx_keep h0 e1 hS hAX hf hL hF
    obtain ⟨t2, a1, b1⟩ := kx E ce q u t T'.heap (locs ++ L) e1.symm (by rw [← e2]; exact X'.warmed.alike) hp hb k1 k2 k3 (by rw [e1]; exact hce) hcv hcl T' rfl X'
    exact ⟨t2, st.trans a1, b1⟩
theorem vx_calld {S SX : Type} {post : UInt64 → S → Prop} {px : SX → Prop} {B : S → State → Prop} {BX : String → SX → State → Prop} {AX : Nat → Prop} (hr : vx_Run p l e R s m args below meth c H locs cells slots mc ms (F0 m pc ls st0) rest (va_Qd post B A1 a) (vx_X px BX AX) free) (hS : va_S A0 H0 H locs) (hA : ∀ q, q < H.size → A1 q → A0 q) (hf : ∀ q, free q → A0 q) (hAX : ∀ q, q < H.size → AX q → A0 q)
    (kx : ∀ (E : String) (ce : Cell) (q9 : Addr) (u : SX) (t : State) (H1 : Heap) (locs1 : List Loc), t.heap = H1 → s.vm.Alike t.vm → px u → BX E u t → H.size ≤ H1.size → (∀ q : Nat, q < H.size → ¬ AX q → H1[q]? = H[q]?) → va_S A0 H0 H1 locs1 → H1[q9]? = some ce → ce.vm = .none → s.vm.findClass E = some ce.cls → vx_W p l e R s m args below meth c H1 locs1 (cells + mc) (slots + ms) Q (F0 m pc ls rest) q9)
    (kk : ∀ (r : UInt64) (u : S) (t : State) (H1 : Heap) (locs1 : List Loc), t.heap = H1 → s.vm.Alike t.vm → post r u → B u t → H.size ≤ H1.size → (∀ q : Nat, q < H.size → ¬ A1 q → H1[q]? = H[q]?) → va_S A0 H0 H1 locs1 → W p l e R s m args below meth c H1 locs1 (cells + mc) (slots + ms) Q (F0 m (pc + 3) ls (.double r :: rest))) : W p l e R s m args below meth c H locs cells slots Q (F0 m pc ls st0) := by
  intro T hT X
  rcases hr T hT X with ⟨v, st₀, t, T', L, h0, X', hL, e1, e2, ⟨⟨r, u, hv, hp, hb⟩, hF⟩, st⟩ | ⟨q, st₀, t, T', L, E, ce, h0, X', hL, e1, e2, ⟨u, hp, hb, hF⟩, hce, hcv, hcl, st⟩
  · cases hv
    obtain ⟨k1, k2, k3⟩ := vx_keep h0 e1 hS hA hf hL hF
    obtain ⟨t2, a1, b1⟩ := kk r u t T'.heap (locs ++ L) e1.symm (by rw [← e2]; exact X'.warmed.alike) hp hb k1 k2 k3 T' rfl X'
    exact ⟨t2, st t2 a1, b1⟩
  · obtain ⟨k1, k2, k3⟩ := vx_keep h0 e1 hS hAX hf hL hF
    obtain ⟨t2, a1, b1⟩ := kx E ce q u t T'.heap (locs ++ L) e1.symm (by rw [← e2]; exact X'.warmed.alike) hp hb k1 k2 k3 (by rw [e1]; exact hce) hcv hcl T' rfl X'
    exact ⟨t2, st.trans a1, b1⟩
theorem vx_callv {S SX : Type} {post : S → Prop} {px : SX → Prop} {B : S → State → Prop} {BX : String → SX → State → Prop} {AX : Nat → Prop} (hr : vx_Run p l e R s m args below meth c H locs cells slots mc ms (F0 m pc ls st0) rest (va_Qv post B A1 a) (vx_X px BX AX) free) (hS : va_S A0 H0 H locs) (hA : ∀ q, q < H.size → A1 q → A0 q) (hf : ∀ q, free q → A0 q) (hAX : ∀ q, q < H.size → AX q → A0 q)
    (kx : ∀ (E : String) (ce : Cell) (q9 : Addr) (u : SX) (t : State) (H1 : Heap) (locs1 : List Loc), t.heap = H1 → s.vm.Alike t.vm → px u → BX E u t → H.size ≤ H1.size → (∀ q : Nat, q < H.size → ¬ AX q → H1[q]? = H[q]?) → va_S A0 H0 H1 locs1 → H1[q9]? = some ce → ce.vm = .none → s.vm.findClass E = some ce.cls → vx_W p l e R s m args below meth c H1 locs1 (cells + mc) (slots + ms) Q (F0 m pc ls rest) q9)
    (kk : ∀ (u : S) (t : State) (H1 : Heap) (locs1 : List Loc), t.heap = H1 → s.vm.Alike t.vm → post u → B u t → H.size ≤ H1.size → (∀ q : Nat, q < H.size → ¬ A1 q → H1[q]? = H[q]?) → va_S A0 H0 H1 locs1 → W p l e R s m args below meth c H1 locs1 (cells + mc) (slots + ms) Q (F0 m (pc + 3) ls (rest))) : W p l e R s m args below meth c H locs cells slots Q (F0 m pc ls st0) := by
  intro T hT X
  rcases hr T hT X with ⟨v, st₀, t, T', L, h0, X', hL, e1, e2, ⟨⟨u, hv, hp, hb⟩, hF⟩, st⟩ | ⟨q, st₀, t, T', L, E, ce, h0, X', hL, e1, e2, ⟨u, hp, hb, hF⟩, hce, hcv, hcl, st⟩
  · cases hv
    obtain ⟨k1, k2, k3⟩ := vx_keep h0 e1 hS hA hf hL hF
    obtain ⟨t2, a1, b1⟩ := kk u t T'.heap (locs ++ L) e1.symm (by rw [← e2]; exact X'.warmed.alike) hp hb k1 k2 k3 T' rfl X'
    exact ⟨t2, st t2 a1, b1⟩
  · obtain ⟨k1, k2, k3⟩ := vx_keep h0 e1 hS hAX hf hL hF
    obtain ⟨t2, a1, b1⟩ := kx E ce q u t T'.heap (locs ++ L) e1.symm (by rw [← e2]; exact X'.warmed.alike) hp hb k1 k2 k3 (by rw [e1]; exact hce) hcv hcl T' rfl X'
    exact ⟨t2, st.trans a1, b1⟩
/-- caught by the row x of this method's table; the rows ahead don't take it -/
theorem vx_catch {own name : String} {E : String} {ce : Cell} {q : Addr} (hown : s.vm.findClass own = some m.cls) (pre : List ExceptionTableEntry) (x : ExceptionTableEntry) (suf : List ExceptionTableEntry) (hsplit : c.exceptionTable.toList = pre ++ x :: suf)
    (hpass : ∀ z ∈ pre, covers z pc = false ∨ (z.catchType ≠ 0 ∧ ∃ nm : String, (Cond.classLink own z.catchType nm).before args s = true ∧ va_Nc E nm s)) (hx : covers x pc = true) (h0 : x.catchType ≠ 0)
    (hlink : (Cond.classLink own x.catchType name).before args s = true) (hcast : (Cond.castable E name).before args s = true) (hcell : H[q]? = some ce) (hv : ce.vm = .none) (hcl : s.vm.findClass E = some ce.cls)
    (kk : W p l e R s m args below meth c H locs cells slots Q (F0 m x.handlerPc ls [.ref q])) : vx_W p l e R s m args below meth c H locs cells slots Q (F0 m pc ls rest) q := by
  intro T hT X
  have hpl : e.platform.magicAccessors = ({} : Platform).magicAccessors := by rw [X.admits.platform]
  obtain ⟨c3, c4, hc3, hc4, hasg⟩ := Cond.castable_spec hcast
  cases Option.some.inj (hc3.symm.trans hcl)
  obtain ⟨c5, hc5, hcl5⟩ := Cond.classLink_spec hown hlink e.platform hpl
  cases Option.some.inj (hc4.symm.trans hc5)
  obtain ⟨vm', X', st⟩ := X.thenCaughtThrough q (g := F0 m pc ls rest) rfl (Steps.refl _) (by rw [hT]; exact hcell) (by rw [hv]; rfl) (by obtain ⟨k9, h9, -⟩ := Vm.findClass_spec hcl; exact ⟨k9, h9⟩) pre x suf hsplit
    (fun z hz => by
      rcases hpass z hz with h | ⟨hz0, nm, hl1, hn1⟩
      · exact Or.inl h
      · obtain ⟨c6, hc6, hcl6⟩ := Cond.classLink_spec hown hl1 e.platform hpl
        obtain ⟨a8, b8, h1, h2, h3⟩ := hn1
        cases Option.some.inj (h1.symm.trans hcl)
        cases Option.some.inj (h2.symm.trans hc6)
        exact Or.inr ⟨hz0, _, hcl6, h3⟩) hx (Or.inr ⟨h0, c4, hcl5, hasg⟩)
  obtain ⟨t, a1, b1⟩ := kk (T.setVm vm') hT X'
  exact ⟨t, st.trans a1, b1⟩
end Rows
section Ends
variable {p : Program} {l : Launch} {e : Env} {R : Room} {s : State} {m : MethodId} {args : Array Value} {below : List Frame} {meth : Method} {c : Code} {H : Heap} {locs : List Loc} {cells slots : Nat} {Q : State → Prop}
variable {mc ms : Nat} {free : Addr → Prop} {A0 A1 : Nat → Prop} {H0 : Heap} {a : Array Value} {ls : Array Slot} {st0 rest : List Value}
variable {Qc : Array Value → State → Outcome → State → Prop} {XC : String → State → State → Prop}
/-- what a body that may throw owes at its end -/
def vx_MQ (below : List Frame) (Qc : Array Value → State → Outcome → State → Prop) (XC : String → State → State → Prop) (a : Array Value) (s : State) (mc ms : Nat) (free : Addr → Prop) : State → Prop := fun t =>
  ∃ o, t.status = .running ∧ Ended t below o ∧ vx_Q Qc XC mc ms free a s o t
theorem vx_ret {g : JFrame} {mc ms : Nat} (k : W p l e R s m args below meth c H locs cells slots (MQ below Qc args s mc ms free) g) : W p l e R s m args below meth c H locs cells slots (vx_MQ below Qc XC args s mc ms free) g := by
  intro T hT X
  obtain ⟨t, a1, o, b1, b2, b3, b4⟩ := k T hT X
  exact ⟨t, a1, o, b1, b2, Or.inl ⟨b3, b4⟩⟩
/-- not caught here: it goes on to the caller -/
theorem vx_widen {g : JFrame} {q : Addr} {k n : Nat} (h1 : cells ≤ k) (h2 : slots ≤ n) (kk : vx_W p l e R s m args below meth c H locs k n Q g q) : vx_W p l e R s m args below meth c H locs cells slots Q g q := fun T hT X => kk T hT (stand_widen X h1 h2)
theorem vx_out {pc : Nat} {E : String} {ce : Cell} {q : Addr} {mc ms : Nat} (hout : ∀ x ∈ c.exceptionTable.toList, covers x pc = false) (hlocks : meth.locks = false) (hcell : H[q]? = some ce) (hv : ce.vm = .none) (hcl : s.vm.findClass E = some ce.cls)
    (hx : ∀ t : State, t.heap = H → s.vm.Alike t.vm → XC E s t) (hf : ∀ z ∈ locs, free z.base) (hc : cells ≤ mc) (hs : slots ≤ ms) :
    vx_W p l e R s m args below meth c H locs cells slots (vx_MQ below Qc XC args s mc ms free) (F0 m pc ls rest) q := by
  intro T hT X
  obtain ⟨st1, hrun, hend, hW, hsm⟩ := X.leaveThrown q (g := F0 m pc ls rest) rfl rfl rfl hout hlocks
  have hcell9 : (T.setFrames (.throwing q :: below)).heap[q]? = some ce := by
    show T.heap[q]? = some ce
    rw [hT]; exact hcell
  exact ⟨_, st1, .threw q, hrun, hend, Or.inr ⟨q, rfl, E, ce, locs, hx _ hT hW.alike, hcell9, hv, hcl, hW, hsm.mono hc hs, hf⟩⟩
theorem vx_frame {U : State} {k n : Nat} (h : s.sameButNew ({ U with vm := s.vm } : State) locs k n) : s.heap.size ≤ U.heap.size ∧ ∀ q : Nat, q < s.heap.size → (∀ z ∈ locs, z.base ≠ q) → U.heap[q]? = s.heap[q]? := by
  obtain ⟨-, h2, -, -, -, h6⟩ := h
  refine ⟨h2, fun q hq hz => ?_⟩
  obtain ⟨c9, e1, e2, e3, e4⟩ := h6 q _ (Array.getElem?_eq_getElem hq)
  have hs : c9.slots = (s.heap[q]).slots := Array.ext_getElem? fun i => e4 i fun hm => hz _ hm rfl
  have h9 : c9 = s.heap[q] := by
    rw [hs] at e2
    exact e2
  have e5 : U.heap[q]? = some c9 := e1
  rw [e5, h9, Array.getElem?_eq_getElem hq]
/-- the words of a throw but the four that speak of the heap -/
def vx_no (w : Cond) : Bool := decide (w ≠ .isRef (.static Bundle.tN "UNASSIGNED_STACK" Bundle.steD)) && decide (w ≠ .isRef (.static Bundle.tN "SUPPRESSED_SENTINEL" Bundle.listD)) && decide (w ≠ .laysStatic Bundle.tN "UNASSIGNED_STACK" Bundle.steD) && decide (w ≠ .laysStatic Bundle.tN "SUPPRESSED_SENTINEL" Bundle.listD)
def vx_at0 (own : String) (ic : Nat) (X : String) (names : List String) : List Cond := (Bundle.ownAtoms0 own ic X names).filter vx_no
def vx_atS (own : String) (ic : Nat) (X : String) (names : List String) : List Cond := (Bundle.ownAtoms own ic X names).filter vx_no
/-- a word that the tables alone decide, or a good one -/
def vx_ot (w : Cond) : Bool := w.onTables || goodWord w
theorem vx_ot_at {args a' : Array Value} {s U : State} {w : Cond} (hW : s.WarmedH U.vm) (hvm : s.vm = U.vm) (hg : vx_ot w = true) (h : w.before args s = true) : w.before a' U = true := by
  simp only [vx_ot, Bool.or_eq_true] at hg
  rcases hg with hg | hg
  · exact va_tabs hg hvm h
  · exact word_at hW (good_of_word hg) h
/-- a list's words: the good ones out of the method's own list, the others by premises of their own -/
theorem vx_hat {args : Array Value} {s : State} {L B : List Cond} (h1 : ∀ w ∈ L.filter goodWord, w.before args s = true) (h2 : ∀ w ∈ L.filter (fun w => !goodWord w), w ∈ B) (h3 : ∀ w ∈ B, w.before args s = true) : ∀ w ∈ L, w.before args s = true := by
  intro w hw
  by_cases g : goodWord w = true
  · exact h1 w (List.mem_filter.mpr ⟨hw, g⟩)
  · refine h3 w (h2 w (List.mem_filter.mpr ⟨hw, ?_⟩))
    show (!goodWord w) = true
    cases hgw : goodWord w
    · rfl
    · exact absurd hgw g
theorem vx_c {args : Array Value} {s : State} {w : Cond} {B : List Cond} (h : w.before args s = true) (t : ∀ w ∈ B, w.before args s = true) : ∀ w' ∈ w :: B, w'.before args s = true := fun w' h' => (List.mem_cons.mp h').elim (fun e => by rw [e]; exact h) (t w')
theorem vx_n {args : Array Value} {s : State} : ∀ w ∈ ([] : List Cond), w.before args s = true := fun _ h => nomatch h
theorem vx_own {args : Array Value} {s : State} {L : List Cond} (h1 : ∀ w ∈ L.filter vx_no, w.before args s = true)
    (hU : (Cond.isRef (.static Bundle.tN "UNASSIGNED_STACK" Bundle.steD)).before args s = true) (hN : (Cond.isRef (.static Bundle.tN "SUPPRESSED_SENTINEL" Bundle.listD)).before args s = true)
    (lU : (Cond.laysStatic Bundle.tN "UNASSIGNED_STACK" Bundle.steD).before args s = true) (lN : (Cond.laysStatic Bundle.tN "SUPPRESSED_SENTINEL" Bundle.listD).before args s = true) : ∀ w ∈ L, w.before args s = true := by
  intro w hw
  by_cases e1 : w = .isRef (.static Bundle.tN "UNASSIGNED_STACK" Bundle.steD)
  · rw [e1]; exact hU
  · by_cases e2 : w = .isRef (.static Bundle.tN "SUPPRESSED_SENTINEL" Bundle.listD)
    · rw [e2]; exact hN
    · by_cases e3 : w = .laysStatic Bundle.tN "UNASSIGNED_STACK" Bundle.steD
      · rw [e3]; exact lU
      · by_cases e4 : w = .laysStatic Bundle.tN "SUPPRESSED_SENTINEL" Bundle.listD
        · rw [e4]; exact lN
        · exact h1 w (List.mem_filter.mpr ⟨hw, by unfold vx_no; rw [decide_eq_true e1, decide_eq_true e2, decide_eq_true e3, decide_eq_true e4]; rfl⟩)
/-- where a static field lies, its class's statics cell in H -/
def vx_L (C n d : String) (A : Nat → Prop) (U : State) (H : Heap) : Prop := ∃ (c : ClassId) (k : Class) (i : Nat) (f : Field) (a : Nat) (cell : Cell), U.vm.findClass C = some c ∧ U.fieldFound? C n d = some (c, k, i, f) ∧ f.isStatic = true ∧ k.statics = some a ∧ H[a]? = some cell ∧ cell.vm.isStatics = true ∧ cell.cls = c ∧ f.slot < cell.slots.size ∧ k.staticTypes[f.slot]? = some f.type ∧ ¬ A a
theorem vx_L.moved {C n d : String} {A : Nat → Prop} {u U : State} {H : Heap} (hvm : u.vm.Alike U.vm) (h : vx_L C n d A u H) : vx_L C n d A U H := by
  obtain ⟨c, k, i, f, a, cell, h1, h2, h3, h4, h5, h6, h7, h8, h9, h10⟩ := h
  obtain ⟨k', hi', he⟩ := State.fieldFound?_setVm hvm h2
  exact ⟨c, k', i, f, a, cell, by rw [hvm.findClass]; exact h1, hi', h3, by rw [he]; exact h4, h5, h6, h7, h8, by rw [he]; exact h9, h10⟩
theorem vx_L.kept {C n d : String} {A : Nat → Prop} {U : State} {H H1 : Heap} (h : vx_L C n d A U H) (hq : ∀ a : Nat, a < H.size → ¬ A a → H1[a]? = H[a]?) : vx_L C n d A U H1 := by
  obtain ⟨c, k, i, f, a, cell, h1, h2, h3, h4, h5, h6, h7, h8, h9, h10⟩ := h
  exact ⟨c, k, i, f, a, cell, h1, h2, h3, h4, by rw [hq a (Array.getElem?_eq_some_iff.mp h5).1 h10]; exact h5, h6, h7, h8, h9, h10⟩
theorem vx_L.narrow {C n d : String} {A B : Nat → Prop} {U : State} {H : Heap} (h : vx_L C n d A U H) (hAB : ∀ q, B q → A q) : vx_L C n d B U H := by
  obtain ⟨c, k, i, f, a, cell, h1, h2, h3, h4, h5, h6, h7, h8, h9, h10⟩ := h
  exact ⟨c, k, i, f, a, cell, h1, h2, h3, h4, h5, h6, h7, h8, h9, fun z => h10 (hAB _ z)⟩
theorem vx_L.word {C n d : String} {A : Nat → Prop} {s : State} {args : Array Value} (h : vx_L C n d A s s.heap) : (Cond.laysStatic C n d).before args s = true := by
  obtain ⟨c, k, i, f, a, cell, h1, h2, h3, h4, h5, h6, h7, h8, h9, -⟩ := h
  show (Cond.laysStatic C n d).holds args s none s [] = true
  exact Cond.laysStatic_of h1 h2 h3 h4 h5 h6 h7 h8 h9
/-- .. and what it holds: null or some reference -/
def vx_Zq (C n d : String) (A : Nat → Prop) (U : State) (H : Heap) : Prop := va_Zq C n d A U H ∧ vx_L C n d A U H
theorem vx_Zq.moved {C n d : String} {A : Nat → Prop} {u U : State} {H : Heap} (hvm : u.vm.Alike U.vm) (h : vx_Zq C n d A u H) : vx_Zq C n d A U H := ⟨va_Zq.moved hvm h.1, vx_L.moved hvm h.2⟩
theorem vx_Zq.kept {C n d : String} {A : Nat → Prop} {U : State} {H H1 : Heap} (h : vx_Zq C n d A U H) (hq : ∀ a : Nat, a < H.size → ¬ A a → H1[a]? = H[a]?) : vx_Zq C n d A U H1 := ⟨va_Zq.kept h.1 hq, vx_L.kept h.2 hq⟩
theorem vx_Zq.narrow {C n d : String} {A B : Nat → Prop} {U : State} {H : Heap} (h : vx_Zq C n d A U H) (hAB : ∀ q, B q → A q) : vx_Zq C n d B U H := ⟨va_Zq.narrow h.1 hAB, vx_L.narrow h.2 hAB⟩
theorem vx_Zqof {args : Array Value} {s : State} {C n d : String} {A : Nat → Prop} (hl : (Cond.laysStatic C n d).before args s = true) (hini : (Cond.initialized C).before args s = true) (h : (Cond.isRef (.static C n d)).before args s = true) (hA : ∀ a : Nat, a < s.heap.size → ¬ A a) : vx_Zq C n d A s s.heap := by
  refine ⟨va_Zqof hl hini h hA, ?_⟩
  obtain ⟨c, k, i, f, a, cell, h1, h2, h3, h4, h5, h6, h7, h8, h9⟩ := Cond.laysStatic_spec hl
  exact ⟨c, k, i, f, a, cell, h1, h2, h3, h4, h5, h6, h7, h8, h9, hA a (Array.getElem?_eq_some_iff.mp h5).1⟩
theorem vx_isRef {C n d : String} {v : Value} {A : Nat → Prop} {s : State} {args : Array Value} (h : va_Z C n d v A s s.heap) (hv : v.isRef = true) : (Cond.isRef (.static C n d)).before args s = true := by
  obtain ⟨cf, kf, fi, f, a, cell, h1, h2, h3, h4, h5, h6, h7, -⟩ := h
  have he : (Term.static C n d).eval args s none [] s = some v := by
    simp [Term.eval, State.fieldNamed?, h1, h2, h4, h5, h6, h7]
  simp only [Cond.before, Cond.holds, Cond.value, he]
  cases v <;> simp_all [Value.isRef]
theorem vx_isRefq {C n d : String} {A : Nat → Prop} {s : State} {args : Array Value} (h : va_Zq C n d A s s.heap) : (Cond.isRef (.static C n d)).before args s = true := by
  rcases h with h | ⟨t, h⟩
  · exact vx_isRef h rfl
  · exact vx_isRef h rfl
/-- the same frame, seen from here: as if the method were called anew in this heap -/
theorem vx_rebase {T : State} (X : Stand p l e R s m args below meth c T locs cells slots) {R' : Room} (hf : R'.frames ≤ R.frames) (hl : R'.locals ≤ R.locals) (hc : cells + R'.cells ≤ R.cells) (hs : slots + R'.slots ≤ R.slots) :
    Stand p l e R' ((T.setVm s.vm).setFrames (.invoking m args :: below)) m args below meth c T [] 0 0 := by
  have htop : (T.setVm s.vm).topJava?.isSome := X.here.top
  have hF : ((T.setVm s.vm).setFrames (.invoking m args :: below)).frames = .invoking m args :: below := State.frames_setFrames _ (State.cur_lt_of_top htop)
  obtain ⟨g₀, hg0⟩ := Option.isSome_iff_exists.mp htop
  obtain ⟨r, hr⟩ := State.topJava?_eq_some.mp hg0
  have hl9 : e.platform.stackLimits (T.setVm s.vm).me = e.platform.stackLimits s.me := X.limits
  have hb9 : (T.setVm s.vm).me.stackBytes = s.me.stackBytes := X.bytes
  refine ⟨X.admits, X.cas, X.clock, hF, ?_, X.hears, X.method, X.code, X.here, X.tail, X.warmed, ?_, ?_, ?_⟩
  · have h := X.room
    have hU : ((T.setVm s.vm).setFrames (.invoking m args :: below)).localsInUse = s.localsInUse := by
      rw [State.localsInUse_invoking hF (meth := meth) (c := c) X.method X.code, State.localsInUse_invoking X.frames X.method X.code]
    simp only [State.hasRoom, Bool.and_eq_true, decide_eq_true_eq] at h ⊢
    obtain ⟨⟨⟨⟨h1, h2, h3, h4, h5, h6⟩, h7⟩, h8⟩, h9⟩ := h
    rw [X.frames, List.length_cons] at h2 h3
    have q1 := X.heapSize
    have q2 := X.used
    simp only [hF, hU, List.length_cons, State.stackLimits_setFrames, State.stackBytes_setFrames, hl9, hb9]
    refine ⟨⟨⟨⟨by omega, by omega, by omega, by omega, by omega, h6⟩, ?_⟩, ?_⟩, X.book⟩
    · show T.heap.size + R'.cells ≤ e.platform.maxCells
      omega
    · show T.slotsUsed + R'.slots ≤ e.platform.maxSlots
      omega
  · rw [State.stackLimits_setFrames]; rfl
  · rw [State.stackBytes_setFrames]; rfl
  · refine ⟨?_, Nat.le_refl _, Nat.le_refl _, ?_, ?_, fun a c9 h9 => ⟨c9, h9, rfl, rfl, fun _ _ => rfl⟩⟩
    · obtain ⟨t, ht, -⟩ := State.frames_cons hr
      show T.setVm s.vm = { ((T.setVm s.vm).setFrames (.invoking m args :: below)).setFrames (T.setVm s.vm).frames with heap := T.heap, slotsUsed := T.slotsUsed }
      rw [State.setFrames_setFrames, State.setFrames_self ht]
      rfl
    · show T.slotsUsed = T.slotsUsed + ((T.heap.toList.drop T.heap.size).map (·.slots.size)).sum
      rw [List.drop_eq_nil_of_le (Nat.le_of_eq Array.length_toList)]
      rfl
    · show ((T.heap.toList.drop T.heap.size).map (·.slots.size)).sum ≤ 0
      rw [List.drop_eq_nil_of_le (Nat.le_of_eq Array.length_toList)]
      exact Nat.le_refl _
/-- 'throw new E()': new; dup; invokespecial; athrow -/
theorem vx_throw0 {cc : ByteArray} {pc : Nat} (hexec : p.tables.exec = Jvm.exec) (hb : c.code = cc) (hl : l.stackTraces = false) {own cls : String} {names : List String} {ik ic mc ms : Nat} {A : Nat → Prop}
    (hown : s.vm.findClass own = some m.cls) (hcls : Bundle.fit cls = true) (hnames : ∀ n ∈ names, Bundle.fit n = true)
    (hk : (Cond.classLink own ik cls).before args s = true) (hini : (Cond.initialized cls).before args s = true) (hat : ∀ w ∈ vx_at0 own ic cls names, w.before args s = true)
    (hgood : ∀ w ∈ Cond.classLink own ik cls :: Cond.initialized cls :: vx_at0 own ic cls names, vx_ot w = true)
    (hU : vx_Zq Bundle.tN "UNASSIGNED_STACK" Bundle.steD A s s.heap) (hN : vx_Zq Bundle.tN "SUPPRESSED_SENTINEL" Bundle.listD A s s.heap) (hS : va_S A s.heap H locs) (hsize : ls.size = c.maxLocals)
    (d0 : decode cc pc = .ok (.new ik, 3)) (d3 : decode cc (pc + 3) = .ok (.dup, 1)) (d4 : decode cc (pc + 4) = .ok (.invokespecial ic, 3)) (d7 : decode cc (pc + 7) = .ok (.athrow, 1))
    (hout : ∀ x ∈ c.exceptionTable.toList, covers x (pc + 7) = false)
    (hRframes : names.length + 3 < R.frames) (hRlocals : (rest.map fun v => v.category).sum + (13 * (names.length + 1) + 42) ≤ R.locals) (hRcells : cells + 1 ≤ R.cells) (hRslots : slots + 6 ≤ R.slots) (hlocks : meth.locks = false)
    (hx : ∀ t : State, s.vm.Alike t.vm → H.size ≤ t.heap.size → (∀ q : Nat, q < H.size → t.heap[q]? = H[q]?) → XC cls s t)
    (hf : ∀ z ∈ locs, free z.base) (hc : cells + 1 ≤ mc) (hs : slots + 6 ≤ ms) :
    W p l e R s m args below meth c H locs cells slots (vx_MQ below Qc XC args s mc ms free) (F0 m pc ls rest) := by
  intro T hT X
  have htr : e.platform.stackTraces = false := (show e.platform.stackTraces = l.stackTraces by rw [X.admits.platform]).trans hl
  have Y := vx_rebase X (R' := { frames := R.frames, locals := R.locals, cells := 1, slots := 6 }) (Nat.le_refl _) (Nat.le_refl _) hRcells hRslots
  obtain ⟨s', hA⟩ : ∃ z, z = (T.setVm s.vm).setFrames (.invoking m args :: below) := ⟨_, rfl⟩
  rw [← hA] at Y
  have hvm : s'.vm = s.vm := by rw [hA]; rfl
  have hhp : s'.heap = H := by rw [hA]; exact hT
  have hW0 : s.WarmedH s'.vm := by rw [hvm]; exact State.WarmedH.refl s
  have hat' : ∀ w ∈ vx_at0 own ic cls names, w.before args s' = true := fun w hw => vx_ot_at hW0 hvm.symm (hgood w (List.mem_cons_of_mem _ (List.mem_cons_of_mem _ hw))) (hat w hw)
  have hk' : (Cond.classLink own ik cls).before args s' = true := vx_ot_at hW0 hvm.symm (hgood _ List.mem_cons_self) hk
  have hini' : (Cond.initialized cls).before args s' = true := vx_ot_at hW0 hvm.symm (hgood _ (List.mem_cons_of_mem _ List.mem_cons_self)) hini
  have hU' : vx_Zq Bundle.tN "UNASSIGNED_STACK" Bundle.steD A s' s'.heap := by rw [hhp]; exact vx_Zq.moved hW0.alike (hU.kept hS.2.1)
  have hN' : vx_Zq Bundle.tN "SUPPRESSED_SENTINEL" Bundle.listD A s' s'.heap := by rw [hhp]; exact vx_Zq.moved hW0.alike (hN.kept hS.2.1)
  have h : ∀ w ∈ Bundle.ownAtoms0 own ic cls names, w.before args s' = true := vx_own hat' (vx_isRefq hU'.1) (vx_isRefq hN'.1) hU'.2.word hN'.2.word
  have hown' : s'.vm.findClass own = some m.cls := by rw [hvm]; exact hown
  have hins : (Cond.instantiable cls 6).before args s' = true := h _ (by simp [Bundle.ownAtoms0])
  obtain ⟨vm₁, cX, kX, hfX, hkX, -, -, X₁, st1⟩ := Y.newCold hexec (own := own) (C := cls) (index := ik) (n := 6) hown' hk' hins hini'
    (g := F0 m pc ls rest) rfl (by rw [hb]; exact d0) (Nat.le_refl _) (Nat.le_refl _)
  generalize hT1 : (T.setVm vm₁).pushCell { cls := cX, slots := kX.instanceTypes.map defaultValue, vm := .none } = T1 at X₁ st1
  have hcat : (Value.ref T.heap.size).category = 1 := rfl
  have hcellA : T1.heap[T.heap.size]? = some (freshCell cX kX) := by rw [← hT1]; exact State.heap_pushCell_size _ _
  have d3' : decode c.code (pc + 3) = .ok (.dup, 1) := by rw [hb]; exact d3
  obtain ⟨U, hsteps, hrun, hend, hW, hsame, ce, hce, hO⟩ := X₁.ctorThrow0 hexec htr (own := own) (cls := cls) (names := names) (ic := ic) hown' hcls hnames h (fun x hx => nomatch hx) hfX hkX hcellA (by rw [hhp, hT]; exact Nat.le_refl _)
    (g := { method := m, pc := pc + 4, locals := ls, stack := .ref T.heap.size :: .ref T.heap.size :: rest, locked := none }) rfl hsize rfl rfl (rest := rest) rfl
    (by rw [hb]; exact d4) (by rw [hb]; exact d7) hout hRframes (by simp only [List.map_cons, List.sum_cons, hcat]; omega) hlocks
  obtain ⟨f1, f2⟩ := vx_frame hsame
  rw [hhp] at f1 f2
  have hWs : s.WarmedH U.vm := State.WarmedH.trans hW0 hW
  have hcl : s.vm.findClass cls = some ce.cls := by
    have h9 := hO.cls
    rw [hvm] at h9
    exact h9
  have hall : s.sameButNew ({ U with vm := s.vm } : State) locs mc ms := by
    subst hA
    obtain ⟨e1, e2⟩ := hsame
    rw [State.setFrames_setFrames] at e1
    have h2 : (T.setVm s.vm).sameButNew ({ U with vm := s.vm } : State) [] (0 + 1) (0 + 6) := ⟨e1, e2⟩
    have h3 := X.same.trans h2
    rw [List.append_nil] at h3
    exact h3.mono hc hs
  refine ⟨U, ?_, .threw T.heap.size, hrun, hend, Or.inr ⟨T.heap.size, rfl, cls, ce, locs, hx U hWs.alike f1 (fun q hq => f2 q hq (fun z hz => nomatch hz)), hce, hO.vm, hcl, hWs, hall, hf⟩⟩
  refine st1 _ ?_
  show Steps p.tables e below (T1.setTop { method := m, pc := pc + 3, locals := ls, stack := .ref T.heap.size :: rest, locked := none }) _
  jvm_step X₁.here [X₁.here.top, hexec, d3', Value.category]
  exact hsteps
/-- 'throw new E("text")': new; dup; ldc; invokespecial; athrow -/
theorem vx_throwS {cc : ByteArray} {pc : Nat} (hexec : p.tables.exec = Jvm.exec) (hb : c.code = cc) (hl : l.stackTraces = false) {own cls text : String} {names : List String} {ik is ic mc ms sa : Nat} {A : Nat → Prop}
    (hown : s.vm.findClass own = some m.cls) (hcls : Bundle.fit cls = true) (hnames : ∀ n ∈ names, Bundle.fit n = true)
    (hk : (Cond.classLink own ik cls).before args s = true) (hini : (Cond.initialized cls).before args s = true) (hstr : vk_R own is text sa s) (hat : ∀ w ∈ vx_atS own ic cls names, w.before args s = true)
    (hgood : ∀ w ∈ Cond.classLink own ik cls :: Cond.initialized cls :: vx_atS own ic cls names, vx_ot w = true)
    (hU : vx_Zq Bundle.tN "UNASSIGNED_STACK" Bundle.steD A s s.heap) (hN : vx_Zq Bundle.tN "SUPPRESSED_SENTINEL" Bundle.listD A s s.heap) (hS : va_S A s.heap H locs) (hsize : ls.size = c.maxLocals)
    (d0 : decode cc pc = .ok (.new ik, 3)) (d3 : decode cc (pc + 3) = .ok (.dup, 1)) (d4 : decode cc (pc + 4) = .ok (.ldc is, 2)) (d6 : decode cc (pc + 6) = .ok (.invokespecial ic, 3)) (d9 : decode cc (pc + 9) = .ok (.athrow, 1))
    (hout : ∀ x ∈ c.exceptionTable.toList, covers x (pc + 9) = false)
    (hRframes : names.length + 3 < R.frames) (hRlocals : (rest.map fun v => v.category).sum + (13 * (names.length + 1) + 43) ≤ R.locals) (hRcells : cells + 1 ≤ R.cells) (hRslots : slots + 6 ≤ R.slots) (hlocks : meth.locks = false)
    (hx : ∀ t : State, s.vm.Alike t.vm → H.size ≤ t.heap.size → (∀ q : Nat, q < H.size → t.heap[q]? = H[q]?) → XC cls s t)
    (hf : ∀ z ∈ locs, free z.base) (hc : cells + 1 ≤ mc) (hs : slots + 6 ≤ ms) :
    W p l e R s m args below meth c H locs cells slots (vx_MQ below Qc XC args s mc ms free) (F0 m pc ls rest) := by
  intro T hT X
  have htr : e.platform.stackTraces = false := (show e.platform.stackTraces = l.stackTraces by rw [X.admits.platform]).trans hl
  have Y := vx_rebase X (R' := { frames := R.frames, locals := R.locals, cells := 1, slots := 6 }) (Nat.le_refl _) (Nat.le_refl _) hRcells hRslots
  obtain ⟨s', hA⟩ : ∃ z, z = (T.setVm s.vm).setFrames (.invoking m args :: below) := ⟨_, rfl⟩
  rw [← hA] at Y
  have hvm : s'.vm = s.vm := by rw [hA]; rfl
  have hhp : s'.heap = H := by rw [hA]; exact hT
  have hW0 : s.WarmedH s'.vm := by rw [hvm]; exact State.WarmedH.refl s
  have hat' : ∀ w ∈ vx_atS own ic cls names, w.before args s' = true := fun w hw => vx_ot_at hW0 hvm.symm (hgood w (List.mem_cons_of_mem _ (List.mem_cons_of_mem _ hw))) (hat w hw)
  have hk' : (Cond.classLink own ik cls).before args s' = true := vx_ot_at hW0 hvm.symm (hgood _ List.mem_cons_self) hk
  have hini' : (Cond.initialized cls).before args s' = true := vx_ot_at hW0 hvm.symm (hgood _ (List.mem_cons_of_mem _ List.mem_cons_self)) hini
  have hU' : vx_Zq Bundle.tN "UNASSIGNED_STACK" Bundle.steD A s' s'.heap := by rw [hhp]; exact vx_Zq.moved hW0.alike (hU.kept hS.2.1)
  have hN' : vx_Zq Bundle.tN "SUPPRESSED_SENTINEL" Bundle.listD A s' s'.heap := by rw [hhp]; exact vx_Zq.moved hW0.alike (hN.kept hS.2.1)
  have h : ∀ w ∈ Bundle.ownAtoms own ic cls names, w.before args s' = true := vx_own hat' (vx_isRefq hU'.1) (vx_isRefq hN'.1) hU'.2.word hN'.2.word
  have hown' : s'.vm.findClass own = some m.cls := by rw [hvm]; exact hown
  have hins : (Cond.instantiable cls 6).before args s' = true := h _ (by simp [Bundle.ownAtoms])
  obtain ⟨vm₁, cX, kX, hfX, hkX, -, -, X₁, st1⟩ := Y.newCold hexec (own := own) (C := cls) (index := ik) (n := 6) hown' hk' hins hini'
    (g := F0 m pc ls rest) rfl (by rw [hb]; exact d0) (Nat.le_refl _) (Nat.le_refl _)
  generalize hT1 : (T.setVm vm₁).pushCell { cls := cX, slots := kX.instanceTypes.map defaultValue, vm := .none } = T1 at X₁ st1
  have hcat : (Value.ref T.heap.size).category = 1 := rfl
  have hcellA : T1.heap[T.heap.size]? = some (freshCell cX kX) := by rw [← hT1]; exact State.heap_pushCell_size _ _
  have d3' : decode c.code (pc + 3) = .ok (.dup, 1) := by rw [hb]; exact d3
  have d4' : decode c.code (pc + 4) = .ok (.ldc is, 2) := by rw [hb]; exact d4
  have hstr' : vk_R own is text sa s' := vk_R.warm hW0 hstr
  obtain ⟨U, hsteps, hrun, hend, hW, hsame, ce, hce, hO⟩ := X₁.ctorThrowS hexec htr (own := own) (cls := cls) (names := names) (ic := ic) hown' hcls hnames h (fun x hx => nomatch hx) hfX hkX hcellA (by rw [hhp, hT]; exact Nat.le_refl _) (msg := .ref sa) rfl
    (g := { method := m, pc := pc + 6, locals := ls, stack := .ref sa :: .ref T.heap.size :: .ref T.heap.size :: rest, locked := none }) rfl hsize rfl rfl (rest := rest) rfl
    (by rw [hb]; exact d6) (by rw [hb]; exact d9) hout hRframes (by simp only [List.map_cons, List.sum_cons, hcat]; omega) hlocks
  obtain ⟨f1, f2⟩ := vx_frame hsame
  rw [hhp] at f1 f2
  have hWs : s.WarmedH U.vm := State.WarmedH.trans hW0 hW
  have hcl : s.vm.findClass cls = some ce.cls := by
    have h9 := hO.cls
    rw [hvm] at h9
    exact h9
  have hall : s.sameButNew ({ U with vm := s.vm } : State) locs mc ms := by
    subst hA
    obtain ⟨e1, e2⟩ := hsame
    rw [State.setFrames_setFrames] at e1
    have h2 : (T.setVm s.vm).sameButNew ({ U with vm := s.vm } : State) [] (0 + 1) (0 + 6) := ⟨e1, e2⟩
    have h3 := X.same.trans h2
    rw [List.append_nil] at h3
    exact h3.mono hc hs
  refine ⟨U, ?_, .threw T.heap.size, hrun, hend, Or.inr ⟨T.heap.size, rfl, cls, ce, locs, hx U hWs.alike f1 (fun q hq => f2 q hq (fun z hz => nomatch hz)), hce, hO.vm, hcl, hWs, hall, hf⟩⟩
  refine st1 _ ?_
  show Steps p.tables e below (T1.setTop { method := m, pc := pc + 3, locals := ls, stack := .ref T.heap.size :: rest, locked := none }) _
  jvm_step X₁.here [X₁.here.top, hexec, d3', Value.category]
  exact X₁.ldcString hexec (own := own) (text := text) (index := is) (a := sa) hown' hstr'.1 hstr'.2
    (g := { method := m, pc := pc + 4, locals := ls, stack := .ref T.heap.size :: .ref T.heap.size :: rest, locked := none }) rfl d4' _ hsteps
/-- 'throw new E("text")', the text by a wide index -/
theorem vx_throwSW {cc : ByteArray} {pc : Nat} (hexec : p.tables.exec = Jvm.exec) (hb : c.code = cc) (hl : l.stackTraces = false) {own cls text : String} {names : List String} {ik is ic mc ms sa : Nat} {A : Nat → Prop}
    (hown : s.vm.findClass own = some m.cls) (hcls : Bundle.fit cls = true) (hnames : ∀ n ∈ names, Bundle.fit n = true)
    (hk : (Cond.classLink own ik cls).before args s = true) (hini : (Cond.initialized cls).before args s = true) (hstr : vk_R own is text sa s) (hat : ∀ w ∈ vx_atS own ic cls names, w.before args s = true)
    (hgood : ∀ w ∈ Cond.classLink own ik cls :: Cond.initialized cls :: vx_atS own ic cls names, vx_ot w = true)
    (hU : vx_Zq Bundle.tN "UNASSIGNED_STACK" Bundle.steD A s s.heap) (hN : vx_Zq Bundle.tN "SUPPRESSED_SENTINEL" Bundle.listD A s s.heap) (hS : va_S A s.heap H locs) (hsize : ls.size = c.maxLocals)
    (d0 : decode cc pc = .ok (.new ik, 3)) (d3 : decode cc (pc + 3) = .ok (.dup, 1)) (d4 : decode cc (pc + 4) = .ok (.ldc_w is, 3)) (d7 : decode cc (pc + 7) = .ok (.invokespecial ic, 3)) (d10 : decode cc (pc + 10) = .ok (.athrow, 1))
    (hout : ∀ x ∈ c.exceptionTable.toList, covers x (pc + 10) = false)
    (hRframes : names.length + 3 < R.frames) (hRlocals : (rest.map fun v => v.category).sum + (13 * (names.length + 1) + 43) ≤ R.locals) (hRcells : cells + 1 ≤ R.cells) (hRslots : slots + 6 ≤ R.slots) (hlocks : meth.locks = false)
    (hx : ∀ t : State, s.vm.Alike t.vm → H.size ≤ t.heap.size → (∀ q : Nat, q < H.size → t.heap[q]? = H[q]?) → XC cls s t)
    (hf : ∀ z ∈ locs, free z.base) (hc : cells + 1 ≤ mc) (hs : slots + 6 ≤ ms) :
    W p l e R s m args below meth c H locs cells slots (vx_MQ below Qc XC args s mc ms free) (F0 m pc ls rest) := by
  intro T hT X
  have htr : e.platform.stackTraces = false := (show e.platform.stackTraces = l.stackTraces by rw [X.admits.platform]).trans hl
  have Y := vx_rebase X (R' := { frames := R.frames, locals := R.locals, cells := 1, slots := 6 }) (Nat.le_refl _) (Nat.le_refl _) hRcells hRslots
  obtain ⟨s', hA⟩ : ∃ z, z = (T.setVm s.vm).setFrames (.invoking m args :: below) := ⟨_, rfl⟩
  rw [← hA] at Y
  have hvm : s'.vm = s.vm := by rw [hA]; rfl
  have hhp : s'.heap = H := by rw [hA]; exact hT
  have hW0 : s.WarmedH s'.vm := by rw [hvm]; exact State.WarmedH.refl s
  have hat' : ∀ w ∈ vx_atS own ic cls names, w.before args s' = true := fun w hw => vx_ot_at hW0 hvm.symm (hgood w (List.mem_cons_of_mem _ (List.mem_cons_of_mem _ hw))) (hat w hw)
  have hk' : (Cond.classLink own ik cls).before args s' = true := vx_ot_at hW0 hvm.symm (hgood _ List.mem_cons_self) hk
  have hini' : (Cond.initialized cls).before args s' = true := vx_ot_at hW0 hvm.symm (hgood _ (List.mem_cons_of_mem _ List.mem_cons_self)) hini
  have hU' : vx_Zq Bundle.tN "UNASSIGNED_STACK" Bundle.steD A s' s'.heap := by rw [hhp]; exact vx_Zq.moved hW0.alike (hU.kept hS.2.1)
  have hN' : vx_Zq Bundle.tN "SUPPRESSED_SENTINEL" Bundle.listD A s' s'.heap := by rw [hhp]; exact vx_Zq.moved hW0.alike (hN.kept hS.2.1)
  have h : ∀ w ∈ Bundle.ownAtoms own ic cls names, w.before args s' = true := vx_own hat' (vx_isRefq hU'.1) (vx_isRefq hN'.1) hU'.2.word hN'.2.word
  have hown' : s'.vm.findClass own = some m.cls := by rw [hvm]; exact hown
  have hins : (Cond.instantiable cls 6).before args s' = true := h _ (by simp [Bundle.ownAtoms])
  obtain ⟨vm₁, cX, kX, hfX, hkX, -, -, X₁, st1⟩ := Y.newCold hexec (own := own) (C := cls) (index := ik) (n := 6) hown' hk' hins hini'
    (g := F0 m pc ls rest) rfl (by rw [hb]; exact d0) (Nat.le_refl _) (Nat.le_refl _)
  generalize hT1 : (T.setVm vm₁).pushCell { cls := cX, slots := kX.instanceTypes.map defaultValue, vm := .none } = T1 at X₁ st1
  have hcat : (Value.ref T.heap.size).category = 1 := rfl
  have hcellA : T1.heap[T.heap.size]? = some (freshCell cX kX) := by rw [← hT1]; exact State.heap_pushCell_size _ _
  have d3' : decode c.code (pc + 3) = .ok (.dup, 1) := by rw [hb]; exact d3
  have d4' : decode c.code (pc + 4) = .ok (.ldc_w is, 3) := by rw [hb]; exact d4
  have hstr' : vk_R own is text sa s' := vk_R.warm hW0 hstr
  obtain ⟨U, hsteps, hrun, hend, hW, hsame, ce, hce, hO⟩ := X₁.ctorThrowS hexec htr (own := own) (cls := cls) (names := names) (ic := ic) hown' hcls hnames h (fun x hx => nomatch hx) hfX hkX hcellA (by rw [hhp, hT]; exact Nat.le_refl _) (msg := .ref sa) rfl
    (g := { method := m, pc := pc + 7, locals := ls, stack := .ref sa :: .ref T.heap.size :: .ref T.heap.size :: rest, locked := none }) rfl hsize rfl rfl (rest := rest) rfl
    (by rw [hb]; exact d7) (by rw [hb]; exact d10) hout hRframes (by simp only [List.map_cons, List.sum_cons, hcat]; omega) hlocks
  obtain ⟨f1, f2⟩ := vx_frame hsame
  rw [hhp] at f1 f2
  have hWs : s.WarmedH U.vm := State.WarmedH.trans hW0 hW
  have hcl : s.vm.findClass cls = some ce.cls := by
    have h9 := hO.cls
    rw [hvm] at h9
    exact h9
  have hall : s.sameButNew ({ U with vm := s.vm } : State) locs mc ms := by
    subst hA
    obtain ⟨e1, e2⟩ := hsame
    rw [State.setFrames_setFrames] at e1
    have h2 : (T.setVm s.vm).sameButNew ({ U with vm := s.vm } : State) [] (0 + 1) (0 + 6) := ⟨e1, e2⟩
    have h3 := X.same.trans h2
    rw [List.append_nil] at h3
    exact h3.mono hc hs
  refine ⟨U, ?_, .threw T.heap.size, hrun, hend, Or.inr ⟨T.heap.size, rfl, cls, ce, locs, hx U hWs.alike f1 (fun q hq => f2 q hq (fun z hz => nomatch hz)), hce, hO.vm, hcl, hWs, hall, hf⟩⟩
  refine st1 _ ?_
  show Steps p.tables e below (T1.setTop { method := m, pc := pc + 3, locals := ls, stack := .ref T.heap.size :: rest, locked := none }) _
  jvm_step X₁.here [X₁.here.top, hexec, d3', Value.category]
  exact X₁.ldcStringW hexec (own := own) (text := text) (index := is) (a := sa) hown' hstr'.1 hstr'.2
    (g := { method := m, pc := pc + 4, locals := ls, stack := .ref T.heap.size :: .ref T.heap.size :: rest, locked := none }) rfl d4' _ hsteps
end Ends
section Bodies
variable {l : Launch}
theorem vx_ofW {y : MethodName} {ws ws' : List Cond} {rm : Room} {Pc : Array Value → State → Prop} {Qc : Array Value → State → Outcome → State → Prop} {XC : String → State → State → Prop} {mc ms : Nat} {free : Addr → Prop} {cc : ByteArray} {maxL : Nat} {ret : Option FieldType}
    (hy : plainName y.cls = true) (hw : ws = Cond.code y cc maxL ret :: ws')
    (body : ∀ p e s m args below meth c s₁, BodyLoose p l y (headSpec ws rm) cc maxL ret e s m args below meth c s₁ → c.maxLocals = maxL → (∀ x ∈ c.exceptionTable.toList, False) → Pc args s →
      W p l e (headSpec ws rm).room s m args below meth c s.heap [] 0 0 (vx_MQ below Qc XC args s mc ms free) (entryFrame m args maxL)) : vx_Met l y ws rm Pc Qc XC mc ms free := by
  refine MetFree.of_bodyS (code := cc) (maxLocals := maxL) (ret := ret) hy ?_ ?_
  · intro args s m h hn
    obtain ⟨meth, c, h1, h2, h3, h4, h5, h6, -, -⟩ := Cond.code_spec hn (atoms_spec (ws := ws) h _ (by rw [hw]; exact List.mem_cons_self))
    exact ⟨meth, c, h1, h2, h3, h4, h5, h6⟩
  · intro p e s m args below meth c s₁ B hml hP _
    have hh0 : s₁.heap = s.heap := by rw [B.state]; rfl
    have ht : ∀ x ∈ c.exceptionTable.toList, False := by
      obtain ⟨meth9, c9, h1, h2, -, -, -, -, h7, -⟩ := Cond.code_spec B.named (atoms_spec (ws := ws) B.pre _ (by rw [hw]; exact List.mem_cons_self))
      cases Option.some.inj (h1.symm.trans B.method)
      cases Option.some.inj (h2.symm.trans (Stand.of_body B).code)
      intro x hx
      rw [Array.isEmpty_iff.mp h7] at hx
      cases hx
    obtain ⟨t, a1, o, b1, b2, b3⟩ := body p e s m args below meth c s₁ B hml ht hP s₁ hh0 (Stand.of_body B)
    exact ⟨t, o, a1, b1, b2, b3⟩
/-- the table of a body with handlers -/
theorem vx_table {p : Program} {x y : MethodName} {S : Spec} {cc bytes : ByteArray} {maxL maxL' : Nat} {ret ret' : Option FieldType} {e : Env} {s s₁ : State} {m : MethodId} {args : Array Value} {below : List Frame} {meth : Method} {c : Code} {hh : List (Nat × Nat × Nat × Nat)}
    (B : BodyLoose p l y S cc maxL ret e s m args below meth c s₁) (h : (Cond.codeWith y bytes maxL' ret' hh).before args s = true) : c.exceptionTable.toList = tableOf hh := by
  obtain ⟨m9, meth9, c9, hn9, h1, h2, -, -, h6, -⟩ := Cond.codeWith_spec h
  cases Option.some.inj (hn9.symm.trans B.named)
  cases Option.some.inj (h1.symm.trans B.method)
  cases Option.some.inj (h2.symm.trans (Stand.of_body B).code)
  rw [← h6, table_eq]
end Bodies
end VXA
/-! ===== END ===== -/
/-! ===== BEGIN a static call of a method with an exception table ===== -/
section VXS
variable {p : Program} {l : Launch} {e : Env} {R : Room} {s : State} {m : MethodId} {args : Array Value} {below : List Frame} {meth : Method} {c : Code} {T : State} {H : Heap} {locs : List Loc} {cells slots : Nat}
abbrev vx_CSW (R : Room) (s : State) (args : Array Value) (own : String) (index : Nat) (y : MethodName) (bytes : ByteArray) (maxL : Nat) (ret : Option FieldType) (hh : List (Nat × Nat × Nat × Nat)) (ws : List Cond) (rm : Room) (mc ms n : Nat) : Prop :=
  (rm.cells = mc ∧ rm.slots = ms ∧ rm.frames + 1 ≤ R.frames ∧ 8 + (maxL + 11) + rm.locals ≤ R.locals ∧ (∀ w ∈ ws, ∀ (a' : Array Value) (U : State), s.WarmedH U.vm → w.before a' U = true) ∧ Cond.codeWith y bytes maxL ret hh ∈ ws) ∧
  (Cond.codeWith y bytes maxL ret hh).before args s = true ∧ (Cond.initialized y.cls).before args s = true ∧ (y.cls ≠ "java/lang/invoke/MethodHandle" ∧ y.cls ≠ "java/lang/invoke/VarHandle") ∧
  (∀ sig, parseMethodDescriptor y.desc = some sig → n = sig.parameters.length) ∧ (Cond.methodLink own index y).before args s = true ∧ (Cond.static y).before args s = true
theorem vx_cwSW {own : String} {index maxL mc ms : Nat} {y : MethodName} {bytes : ByteArray} {ret : Option FieldType} {hh : List (Nat × Nat × Nat × Nat)} {Ts ws ws' : List Cond} {rm : Room} (n : Nat) (ht : ∀ w ∈ Ts, w.before args s = true) (hT : GoodIn Ts (va_wsS own index y ws)) (hw : ws = Cond.codeWith y bytes maxL ret hh :: ws') (hrc : rm.cells = mc) (hrs : rm.slots = ms)
    (hd : y.cls ≠ "java/lang/invoke/MethodHandle" ∧ y.cls ≠ "java/lang/invoke/VarHandle" ∧ (parseMethodDescriptor y.desc).map (fun d => d.parameters.length) = some n) (hR : rm.frames + 1 ≤ R.frames ∧ 8 + (maxL + 11) + rm.locals ≤ R.locals) :
    vx_CSW R s args own index y bytes maxL ret hh ws rm mc ms n := by
  have ok : ∀ w ∈ va_wsS own index y ws, w.before args s = true := fun w h => ht w (hT w h).1
  have hG : GoodIn Ts ws := fun w h => hT w (by unfold va_wsS; exact List.mem_append_right _ h)
  have hc : Cond.codeWith y bytes maxL ret hh ∈ ws := by rw [hw]; exact List.mem_cons_self
  refine ⟨⟨hrc, hrs, hR.1, hR.2, pay_in ht hG, hc⟩, ht _ (hG _ hc).1, ok _ (by simp [va_wsS]), ⟨hd.1, hd.2.1⟩, fun sig h => ?_, ok _ (by simp [va_wsS]), ok _ (by simp [va_wsS])⟩
  have h2 := hd.2.2
  rw [h] at h2
  exact (Option.some.inj h2).symm
theorem vx_callSW (X : Stand p l e R s m args below meth c T locs cells slots) (hexec : p.tables.exec = Jvm.exec) {own : String} {index : Nat} {y : MethodName} {bytes : ByteArray} {maxL : Nat} {ret : Option FieldType} {hh : List (Nat × Nat × Nat × Nat)}
    (hown : s.vm.findClass own = some m.cls) (hlink : (Cond.methodLink own index y).before args s = true) (hstat : (Cond.static y).before args s = true) (hinit : (Cond.initialized y.cls).before args s = true)
    (hcode : (Cond.codeWith y bytes maxL ret hh).before args s = true) (hy : y.cls ≠ "java/lang/invoke/MethodHandle" ∧ y.cls ≠ "java/lang/invoke/VarHandle")
    {W9 : Nat} {Pre : Pt → Array Value → Prop} {Post : Pt → Array Value → Option Value → Pt → Prop} (hK : Back l R p e below s args y 3 W9 Pre Post)
    {g : JFrame} (hg : g.method = m) (hsize : g.locals.size = c.maxLocals) {argsL rest : List Value} (hlen : ∀ sig, parseMethodDescriptor y.desc = some sig → argsL.length = sig.parameters.length)
    (hstack : g.stack = argsL.reverse ++ rest) (hW : 2 * g.monitorRoom + (rest.map fun v => v.category).sum ≤ W9) (hdg : decode c.code g.pc = .ok (.invokestatic index, 3))
    (hpre : ∀ vm₁, s.WarmedH vm₁ → Pre ⟨T.setVm vm₁, locs, cells, slots⟩ argsL.toArray) :
    ∃ (v : Option Value) (vm₁ : Vm) (B : Pt), s.WarmedH vm₁ ∧ Stand p l e R s m args below meth c B.U B.locs B.cells B.slots ∧ Post ⟨T.setVm vm₁, locs, cells, slots⟩ argsL.toArray v B ∧
      ∀ target, Steps p.tables e below (B.U.setTop { g with pc := g.pc + 3, stack := v.toList ++ rest }) target → Steps p.tables e below (T.setTop g) target := by
  obtain ⟨mk, methM, cM, hnamed, hmethM, -, -, -, -, -, -, hsigM⟩ := Cond.codeWith_spec hcode
  have hstatic : methM.isStatic = true := Cond.static_spec hnamed hmethM hstat
  obtain ⟨kP, hkP, -⟩ := className_of_methodNamed hnamed
  have hinitP : kP.init = .initialized := Cond.initialized_spec (findClass_of_methodNamed hnamed) hkP hinit
  obtain ⟨vm₁, X₁, hstep₁⟩ := X.invokestatic hexec hown hlink hnamed hmethM hstatic hkP hinitP hy (g := g) hg (argsL := argsL) (rest := rest) (hlen _ hsigM) hstack hdg
  obtain ⟨v, B, X', hpost, hsteps⟩ := hK m meth c ⟨T.setVm vm₁, locs, cells, slots⟩ { g with stack := rest } (.invokestatic index) mk argsL.toArray X₁ hg hsize hdg hW (X₁.named hnamed) (hpre vm₁ X₁.warmed)
  exact ⟨v, vm₁, B, X₁.warmed, X', hpost, fun target h => hstep₁ _ fun acts => by rw [doInvoke_state]; exact hsteps.trans h⟩
theorem vx_runSW {y : MethodName} {bytes cc : ByteArray} {maxL nL mc ms n index : Nat} {ret : Option FieldType} {hh : List (Nat × Nat × Nat × Nat)} {ws : List Cond} {rm : Room} {Pc : Array Value → State → Prop} {Qc : Array Value → State → Outcome → State → Prop} {free : Addr → Prop} {Ts : List Cond} {own : String} {As rest : List Value} {g : JFrame}
    (S : CallFix p m c cc nL s args Ts own) (hM : Met l y ws rm Pc Qc mc ms free) (cw : vx_CSW R s args own index y bytes maxL ret hh ws rm mc ms n) (hp : PreS s H Pc As)
    (hg : g.method = m) (hn : As.length = n) (hsize : g.locals.size = nL) (hstack : g.stack = As.reverse ++ rest) (hW : 2 * g.monitorRoom + (rest.map fun v => v.category).sum ≤ 8) (hdg : decode cc g.pc = .ok (.invokestatic index, 3)) (hf : cells + mc ≤ R.cells ∧ slots + ms ≤ R.slots) :
    va_Run p l e R s m args below meth c H locs cells slots mc ms g rest (Qc As.toArray) (free) := by
  obtain ⟨⟨hrc, hrs, hfr, hlo, hws, hcw⟩, hcode, hini, hy, hlen, hl, hstt⟩ := cw
  have hK : Back l R p e below s args y 3 8 (PreOf R mc ms Pc) (PostOf Qc mc ms free) := va_backW (hh := hh) (bytes := bytes) (maxL := maxL) (ret := ret) hM hp.1 hrc hrs hfr hlo hws hcw (fun a' U hW => word_at hW (Or.inl (by first | rfl | simp [Cond.onTables, Cond.keeps, Cond.steady])) hini)
  obtain ⟨hx, hb, hml, ho, -⟩ := S
  intro T hT X
  obtain ⟨v, vm₁, ⟨U', l2, c2, s2⟩, hW₁, X', ⟨g', mk, t, L, e1, e2, hq, h1, hL, h2, h3⟩, st⟩ := vx_callSW X hx (hh := hh) (bytes := bytes) (maxL := maxL) (ret := ret) ho hl hstt hini hcode hy hK hg (hsize.trans hml.symm) (argsL := As) (rest := rest) (fun sig h => hn.trans (hlen sig h)) hstack hW (by rw [hb]; exact hdg)
    (fun vm₁ hW₁ => ⟨hf.1, hf.2, hp.2 (T.setVm vm₁) hT hW₁⟩)
  dsimp only [Pt.U, Pt.locs, Pt.cells, Pt.slots] at X' e1 e2 h1 h2 h3 st
  subst h1; subst h2; subst h3
  exact ⟨v, (T.setVm vm₁).calling g' mk As.toArray, t, U', L, hT, X', hL, e1, e2, hq, st⟩
/-- not caught here, past rows that name other classes: it goes on to the caller -/
theorem vx_outP {p : Program} {l : Launch} {e : Env} {R : Room} {s : State} {m : MethodId} {args : Array Value} {below : List Frame} {meth : Method} {c : Code} {H : Heap} {locs : List Loc} {cells slots : Nat} {free : Addr → Prop} {ls : Array Slot} {rest : List Value} {Qc : Array Value → State → Outcome → State → Prop} {XC : String → State → State → Prop}
    {pc : Nat} {own E : String} {ce : Cell} {q : Addr} {mc ms : Nat} (hown : s.vm.findClass own = some m.cls) (hlocks : meth.locks = false)
    (hpass : ∀ z ∈ c.exceptionTable.toList, covers z pc = false ∨ (z.catchType ≠ 0 ∧ ∃ nm : String, (Cond.classLink own z.catchType nm).before args s = true ∧ va_Nc E nm s)) (hcell : H[q]? = some ce) (hv : ce.vm = .none) (hcl : s.vm.findClass E = some ce.cls)
    (hx : ∀ t : State, t.heap = H → s.vm.Alike t.vm → XC E s t) (hf : ∀ z ∈ locs, free z.base) (hc : cells ≤ mc) (hs : slots ≤ ms) :
    vx_W p l e R s m args below meth c H locs cells slots (vx_MQ below Qc XC args s mc ms free) (F0 m pc ls rest) q := by
  intro T hT X
  have hpl : e.platform.magicAccessors = ({} : Platform).magicAccessors := by rw [X.admits.platform]
  obtain ⟨vm', hW', X', st⟩ := X.outThrough hlocks q (g := F0 m pc ls rest) rfl rfl rfl (cell := ce) (by rw [hT]; exact hcell) (by rw [hv]; rfl)
    (by obtain ⟨k9, h9, -⟩ := Vm.findClass_spec hcl; exact ⟨k9, h9⟩) (fun z hz => by
      rcases hpass z hz with h | ⟨hz0, nm, hl1, hn1⟩
      · exact Or.inl h
      · obtain ⟨c6, hc6, hcl6⟩ := Cond.classLink_spec hown hl1 e.platform hpl
        obtain ⟨a8, b8, h1, h2, h3⟩ := hn1
        cases Option.some.inj (h1.symm.trans hcl)
        cases Option.some.inj (h2.symm.trans hc6)
        exact Or.inr ⟨hz0, _, hcl6, h3⟩)
  obtain ⟨g₀, hfr⟩ := X'.frames_eq
  have hcell9 : ((T.setVm vm').setFrames (.throwing q :: below)).heap[q]? = some ce := by
    show T.heap[q]? = some ce
    rw [hT]; exact hcell
  have hend : Ended ((T.setVm vm').setFrames (.throwing q :: below)) below (.threw q) := State.frames_setFrames _ (State.cur_lt_of_frames hfr)
  refine ⟨(T.setVm vm').setFrames (.throwing q :: below), ?_, .threw q, X'.here.running, hend, Or.inr ⟨q, rfl, E, ce, locs, hx _ hT (X'.ends _).1.alike, hcell9, hv, hcl, (X'.ends _).1, (X'.ends _).2.mono hc hs, hf⟩⟩
  rw [X.pushThrowing_eq]
  exact st
/-- a thing of a world lies in the heap -/
theorem vx_lt {D : va_G} {cl : List vw_C} {ws : va_W} {H1 : Heap} (h : va_P D cl ws H1) {k : Nat} {q : Nat × va_E} (hk : ws[k]? = some q) : q.1 < H1.size := (h k q hk).lt
end VXS
/-! ===== END ===== -/
/-! ===== BEGIN methods with a table of their own: called by a name, returning or throwing ===== -/
section VXH
/-! vx_backW, vx_callVX, vx_callSX, vx_callVW, vx_runVW, vx_runVX, vx_runSX, vx_ofWH follow the same proofs as their sisters above (Free/Laws.lean, Shelf42/LK1.lean); vx_outP calls Shelf42/NT130.lean (outThrough). -/
section
variable {l : Launch} {R : Room} {p : Program} {e : Env} {below : List Frame} {s : State} {sargs : Array Value} {y : MethodName} {len W9 : Nat}
theorem vx_backW {ws : List Cond} {rm : Room} {Pc : Array Value → State → Prop} {Qc : Array Value → State → Outcome → State → Prop} {XC : String → State → State → Prop} {mc ms : Nat} {free : Addr → Prop} {bytes : ByteArray} {maxL : Nat} {ret : Option FieldType} {hh : List (Nat × Nat × Nat × Nat)}
    (hM : vx_Met l y ws rm Pc Qc XC mc ms free) (hblind : FrameBlind Pc) (hrc : rm.cells = mc) (hrs : rm.slots = ms)
    (hframes : rm.frames + 1 ≤ R.frames) (hlocals : W9 + (maxL + 11) + rm.locals ≤ R.locals)
    (hws : ∀ w ∈ ws, ∀ a' U, s.WarmedH U.vm → w.before a' U = true) (hcode : Cond.codeWith y bytes maxL ret hh ∈ ws) (hinit : ∀ a' U, s.WarmedH U.vm → (Cond.initialized y.cls).before a' U = true) :
    vx_Back l R p e below s sargs y len W9 (PreOf R mc ms Pc) (PostOf Qc mc ms free) (vx_Post XC mc ms free) := by
  intro m meth c A g ig mk a X hg hsize hdg hW hn hp
  have h1 : (headSpec ws rm).pre.before a A.U = true := atoms_intro fun w hw => hws w hw _ _ X.warmed
  have h2 : (Cond.codeWith y bytes maxL ret hh).before a A.U = true := hws _ hcode _ _ X.warmed
  have h3 : (Cond.initialized y.cls).before a A.U = true := hinit _ _ X.warmed
  have h4 : A.cells + (headSpec ws rm).room.cells ≤ R.cells := by rw [show (headSpec ws rm).room.cells = mc from hrc]; exact hp.1
  have h5 : A.slots + (headSpec ws rm).room.slots ≤ R.slots := by rw [show (headSpec ws rm).room.slots = ms from hrs]; exact hp.2.1
  have hPc : Pc a (A.U.calling g mk a) := hblind _ _ _ _ hp.2.2
  obtain ⟨U, Ls, c0, s0⟩ := A
  dsimp only [Pt.U, Pt.locs, Pt.cells, Pt.slots] at h1 h2 h3 h4 h5 X hn hPc ⊢
  obtain ⟨m9, methY, cY, hn9, hmY, hcY, -, hlY, -⟩ := Cond.codeWith_spec h2
  cases Option.some.inj (hn9.symm.trans hn)
  obtain ⟨kY, hkY, -⟩ := className_of_methodNamed hn
  have hinitY : kY.init = .initialized := Cond.initialized_spec (findClass_of_methodNamed hn) hkY h3
  have h : At U g.method c below := by rw [hg]; exact X.here
  have hlocals9 : W9 + (maxL + 11) + (headSpec ws rm).room.locals ≤ R.locals := hlocals
  have happ : (headSpec ws rm).appliesLoose y e.platform (U.calling g mk a) = true :=
    Spec.appliesLoose_calling (g := g) h hdg hn hkY hinitY
      (X.room_calling (g := g) (R' := (headSpec ws rm).room) hsize hmY hcY hframes (by rw [hlY]; omega) h4 h5) h1
  obtain ⟨mid, hmid⟩ := h.above
  have hfr : (U.setTop g).frames = (.java g :: mid) ++ below := by rw [State.frames_setTop' g h.top, hmid]; rfl
  obtain ⟨o, s₂, hsteps, -, hend, hq⟩ := Steps.callFree hM p X.admits X.cas X.clock (acts := []) hfr happ hPc trivial
  have hq' : vx_Q Qc XC mc ms free a (U.calling g mk a) o s₂ := hq
  rw [State.frames_setTop' g h.top] at hend
  obtain ⟨g₀, hg0⟩ := Option.isSome_iff_exists.mp h.top
  obtain ⟨r, hr⟩ := State.topJava?_eq_some.mp hg0
  have hr' : (({ U with heap := s₂.heap, slotsUsed := s₂.slotsUsed } : State).setVm s₂.vm).frames = .java g₀ :: r := hr
  rcases hq' with ⟨hqc, L, hfe, hL⟩ | ⟨q, rfl, E, ce, L, hx, hce, hcv, hcl, hW₂, hsm, hL⟩
  · obtain ⟨⟨v, rfl⟩, hW₂, e2, q2, q3, q4, q5, q6⟩ := id hfe
    have e3 : s₂ = ({ (U.calling g mk a).setFrames s₂.frames with heap := s₂.heap, slotsUsed := s₂.slotsUsed } : State).setVm s₂.vm := by
      have : s₂ = ({ s₂ with vm := (U.calling g mk a).vm } : State).setVm s₂.vm := rfl
      rw [e2] at this
      exact this
    obtain ⟨c₂, i₂, len₂, hc₂, hd₂, hf₂⟩ := hend
    have hW' : U.WarmedH s₂.vm := hW₂
    have hcc : c₂ = c := by
      have h1 : s₂.code? g.method = U.code? g.method := by
        rw [State.code?_eq, State.code?_eq, hW'.alike.method?]
      exact Option.some.inj (hc₂.symm.trans (h1.trans h.code))
    subst hcc
    have hlen : len₂ = len := by rw [hdg] at hd₂; cases hd₂; rfl
    subst hlen
    have hs₂ : s₂ = (({ U with heap := s₂.heap, slotsUsed := s₂.slotsUsed } : State).setVm s₂.vm).setTop { g with pc := g.pc + len₂, stack := v.toList ++ g.stack } := by
      refine e3.trans ?_
      rw [hf₂, State.calling_eq h.top, State.setFrames_setFrames, State.setTop_of_frames _ hr', hr]
      rfl
    have hsame : U.sameButNew ({ U with heap := s₂.heap, slotsUsed := s₂.slotsUsed } : State) L mc ms := by
      refine ⟨?_, q2, q3, q4, q5, q6⟩
      obtain ⟨t, ht, -⟩ := State.frames_cons hr
      show ({ U with heap := s₂.heap, slotsUsed := s₂.slotsUsed } : State) = { U.setFrames U.frames with heap := s₂.heap, slotsUsed := s₂.slotsUsed }
      rw [State.setFrames_self ht]
    subst hg
    refine Or.inl ⟨v, ⟨(({ U with heap := s₂.heap, slotsUsed := s₂.slotsUsed } : State).setVm s₂.vm), Ls ++ L, c0 + mc, s0 + ms⟩,
      ⟨X.admits, X.cas, X.clock, X.frames, X.room, X.hears, X.method, X.code, (X.here.setHeapUsed s₂.heap s₂.slotsUsed).setVm hW'.alike, X.tail, State.WarmedH.trans X.warmed hW', X.limits, X.bytes, X.same.trans (hsame.setVm s.vm)⟩,
      ⟨g, mk, s₂, L, rfl, rfl, hqc, rfl, hL, rfl, rfl⟩, ?_⟩
    show Steps p.tables e below _ ((({ U with heap := s₂.heap, slotsUsed := s₂.slotsUsed } : State).setVm s₂.vm).setTop { g with pc := g.pc + len₂, stack := v.toList ++ g.stack })
    rw [← hs₂]
    exact hsteps
  · obtain ⟨e2, q2, q3, q4, q5, q6⟩ := id hsm
    have e3 : s₂ = ({ (U.calling g mk a).setFrames s₂.frames with heap := s₂.heap, slotsUsed := s₂.slotsUsed } : State).setVm s₂.vm := by
      have : s₂ = ({ s₂ with vm := (U.calling g mk a).vm } : State).setVm s₂.vm := rfl
      rw [e2] at this
      exact this
    have hf₂ : s₂.frames = .throwing q :: .java g :: U.frames.tail := hend
    have hW' : U.WarmedH s₂.vm := hW₂
    have hs₂ : s₂ = ((({ U with heap := s₂.heap, slotsUsed := s₂.slotsUsed } : State).setVm s₂.vm).setTop g).pushFrame (.throwing q) := by
      refine e3.trans ?_
      rw [hf₂, State.calling_eq h.top, State.setFrames_setFrames, State.pushFrame, State.frames_setTop _ hr', State.setTop_of_frames _ hr', State.setFrames_setFrames, hr]
      rfl
    have hsame : U.sameButNew ({ U with heap := s₂.heap, slotsUsed := s₂.slotsUsed } : State) L mc ms := by
      refine ⟨?_, q2, q3, q4, q5, q6⟩
      obtain ⟨t, ht, -⟩ := State.frames_cons hr
      show ({ U with heap := s₂.heap, slotsUsed := s₂.slotsUsed } : State) = { U.setFrames U.frames with heap := s₂.heap, slotsUsed := s₂.slotsUsed }
      rw [State.setFrames_self ht]
    subst hg
    refine Or.inr ⟨q, ⟨(({ U with heap := s₂.heap, slotsUsed := s₂.slotsUsed } : State).setVm s₂.vm), Ls ++ L, c0 + mc, s0 + ms⟩,
      ⟨X.admits, X.cas, X.clock, X.frames, X.room, X.hears, X.method, X.code, (X.here.setHeapUsed s₂.heap s₂.slotsUsed).setVm hW'.alike, X.tail, State.WarmedH.trans X.warmed hW', X.limits, X.bytes, X.same.trans (hsame.setVm s.vm)⟩,
      ⟨g, mk, s₂, L, E, ce, rfl, rfl, hx, hce, hcv, hcl, rfl, hL, rfl, rfl⟩, ?_⟩
    show Steps p.tables e below _ (((({ U with heap := s₂.heap, slotsUsed := s₂.slotsUsed } : State).setVm s₂.vm).setTop g).pushFrame (.throwing q))
    rw [← hs₂]
    exact hsteps
end
variable {p : Program} {l : Launch} {e : Env} {R : Room} {s : State} {m : MethodId} {args : Array Value} {below : List Frame} {meth : Method} {c : Code} {T : State} {H : Heap} {locs : List Loc} {cells slots : Nat}
theorem vx_callVX (X : Stand p l e R s m args below meth c T locs cells slots) (hexec : p.tables.exec = Jvm.exec) {own C : String} {index : Nat} {y : MethodName} {bytes : ByteArray} {maxL : Nat} {ret : Option FieldType} {hh : List (Nat × Nat × Nat × Nat)}
    (hown : s.vm.findClass own = some m.cls) (hlink : (Cond.methodLink own index y).before args s = true) (hinst : (Cond.instanceMethod y).before args s = true) (hsel : (Cond.selects C y y).before args s = true)
    (hcode : (Cond.codeWith y bytes maxL ret hh).before args s = true) (hy : y.cls ≠ "java/lang/invoke/MethodHandle" ∧ y.cls ≠ "java/lang/invoke/VarHandle")
    {W9 : Nat} {Pre : Pt → Array Value → Prop} {Post : Pt → Array Value → Option Value → Pt → Prop} {PostX : Pt → Array Value → Addr → Pt → Prop} (hK : vx_Back l R p e below s args y 3 W9 Pre Post PostX)
    {b : Addr} {cellB : Cell} (hcell : T.heap[b]? = some cellB) (hobj : cellB.vm.isStatics = false) (hcls : s.vm.findClass C = some cellB.cls)
    {g : JFrame} (hg : g.method = m) (hsize : g.locals.size = c.maxLocals) {argsL rest : List Value} (hlen : ∀ sig, parseMethodDescriptor y.desc = some sig → argsL.length = sig.parameters.length)
    (hstack : g.stack = argsL.reverse ++ .ref b :: rest) (hW : 2 * g.monitorRoom + (rest.map fun v => v.category).sum ≤ W9) (hdg : decode c.code g.pc = .ok (.invokevirtual index, 3))
    (hpre : ∀ vm₁, s.WarmedH vm₁ → Pre ⟨T.setVm vm₁, locs, cells, slots⟩ (Value.ref b :: argsL).toArray) :
    (∃ (v : Option Value) (vm₁ : Vm) (B : Pt), s.WarmedH vm₁ ∧ Stand p l e R s m args below meth c B.U B.locs B.cells B.slots ∧ Post ⟨T.setVm vm₁, locs, cells, slots⟩ (Value.ref b :: argsL).toArray v B ∧
      ∀ target, Steps p.tables e below (B.U.setTop { g with pc := g.pc + 3, stack := v.toList ++ rest }) target → Steps p.tables e below (T.setTop g) target) ∨
    (∃ (q : Addr) (vm₁ : Vm) (B : Pt), s.WarmedH vm₁ ∧ Stand p l e R s m args below meth c B.U B.locs B.cells B.slots ∧ PostX ⟨T.setVm vm₁, locs, cells, slots⟩ (Value.ref b :: argsL).toArray q B ∧
      Steps p.tables e below (T.setTop g) ((B.U.setTop { g with stack := rest }).pushFrame (.throwing q))) := by
  obtain ⟨mk, methM, hnamed, hmethM, hstM, habM⟩ := Cond.instanceMethod_spec hinst
  obtain ⟨m8, methM', cM, hn8, hmethM', -, -, -, -, -, -, hsigM⟩ := Cond.codeWith_spec hcode
  cases Option.some.inj (hn8.symm.trans hnamed)
  cases hmethM.symm.trans hmethM'
  obtain ⟨c2, r2, m2, q1, q2, q3, q4, kP, hkP, hkPi⟩ := Cond.selects_spec hsel
  cases hcls.symm.trans q1
  cases (State.methodFound?_of_named hnamed hy).symm.trans q2
  cases hnamed.symm.trans q3
  have hselP : selectMethod e.platform s.vm cellB.cls mk = .method mk := by rw [Launch.admits_selectMethod X.admits]; exact q4
  obtain ⟨vm₁, X₁, hstep₁⟩ := X.invokevirtual hexec hown hlink hnamed hmethM hstM hkP hkPi hy (a := b) (cell := cellB) hcell
    (fun z h => by rw [h] at hobj; cases hobj) hselP hmethM habM hkP hkPi (g := g) hg (argsL := argsL) (rest := rest) (hlen _ hsigM) hstack hdg
  rcases hK m meth c ⟨T.setVm vm₁, locs, cells, slots⟩ { g with stack := rest } (.invokevirtual index) mk (Value.ref b :: argsL).toArray X₁ hg hsize hdg hW (X₁.named hnamed) (hpre vm₁ X₁.warmed) with ⟨v, B, X', hpost, hsteps⟩ | ⟨q, B, X', hpost, hsteps⟩
  · exact Or.inl ⟨v, vm₁, B, X₁.warmed, X', hpost, fun target h => hstep₁ _ fun acts => by rw [doInvoke_state]; exact hsteps.trans h⟩
  · exact Or.inr ⟨q, vm₁, B, X₁.warmed, X', hpost, hstep₁ _ fun acts => by rw [doInvoke_state]; exact hsteps⟩
theorem vx_callSX (X : Stand p l e R s m args below meth c T locs cells slots) (hexec : p.tables.exec = Jvm.exec) {own : String} {index : Nat} {y : MethodName} {bytes : ByteArray} {maxL : Nat} {ret : Option FieldType} {hh : List (Nat × Nat × Nat × Nat)}
    (hown : s.vm.findClass own = some m.cls) (hlink : (Cond.methodLink own index y).before args s = true) (hstat : (Cond.static y).before args s = true) (hinit : (Cond.initialized y.cls).before args s = true)
    (hcode : (Cond.codeWith y bytes maxL ret hh).before args s = true) (hy : y.cls ≠ "java/lang/invoke/MethodHandle" ∧ y.cls ≠ "java/lang/invoke/VarHandle")
    {W9 : Nat} {Pre : Pt → Array Value → Prop} {Post : Pt → Array Value → Option Value → Pt → Prop} {PostX : Pt → Array Value → Addr → Pt → Prop} (hK : vx_Back l R p e below s args y 3 W9 Pre Post PostX)
    {g : JFrame} (hg : g.method = m) (hsize : g.locals.size = c.maxLocals) {argsL rest : List Value} (hlen : ∀ sig, parseMethodDescriptor y.desc = some sig → argsL.length = sig.parameters.length)
    (hstack : g.stack = argsL.reverse ++ rest) (hW : 2 * g.monitorRoom + (rest.map fun v => v.category).sum ≤ W9) (hdg : decode c.code g.pc = .ok (.invokestatic index, 3))
    (hpre : ∀ vm₁, s.WarmedH vm₁ → Pre ⟨T.setVm vm₁, locs, cells, slots⟩ argsL.toArray) :
    (∃ (v : Option Value) (vm₁ : Vm) (B : Pt), s.WarmedH vm₁ ∧ Stand p l e R s m args below meth c B.U B.locs B.cells B.slots ∧ Post ⟨T.setVm vm₁, locs, cells, slots⟩ argsL.toArray v B ∧
      ∀ target, Steps p.tables e below (B.U.setTop { g with pc := g.pc + 3, stack := v.toList ++ rest }) target → Steps p.tables e below (T.setTop g) target) ∨
    (∃ (q : Addr) (vm₁ : Vm) (B : Pt), s.WarmedH vm₁ ∧ Stand p l e R s m args below meth c B.U B.locs B.cells B.slots ∧ PostX ⟨T.setVm vm₁, locs, cells, slots⟩ argsL.toArray q B ∧
      Steps p.tables e below (T.setTop g) ((B.U.setTop { g with stack := rest }).pushFrame (.throwing q))) := by
  obtain ⟨mk, methM, cM, hnamed, hmethM, -, -, -, -, -, -, hsigM⟩ := Cond.codeWith_spec hcode
  have hstatic : methM.isStatic = true := Cond.static_spec hnamed hmethM hstat
  obtain ⟨kP, hkP, -⟩ := className_of_methodNamed hnamed
  have hinitP : kP.init = .initialized := Cond.initialized_spec (findClass_of_methodNamed hnamed) hkP hinit
  obtain ⟨vm₁, X₁, hstep₁⟩ := X.invokestatic hexec hown hlink hnamed hmethM hstatic hkP hinitP hy (g := g) hg (argsL := argsL) (rest := rest) (hlen _ hsigM) hstack hdg
  rcases hK m meth c ⟨T.setVm vm₁, locs, cells, slots⟩ { g with stack := rest } (.invokestatic index) mk argsL.toArray X₁ hg hsize hdg hW (X₁.named hnamed) (hpre vm₁ X₁.warmed) with ⟨v, B, X', hpost, hsteps⟩ | ⟨q, B, X', hpost, hsteps⟩
  · exact Or.inl ⟨v, vm₁, B, X₁.warmed, X', hpost, fun target h => hstep₁ _ fun acts => by rw [doInvoke_state]; exact hsteps.trans h⟩
  · exact Or.inr ⟨q, vm₁, B, X₁.warmed, X', hpost, hstep₁ _ fun acts => by rw [doInvoke_state]; exact hsteps⟩
theorem vx_callVW (X : Stand p l e R s m args below meth c T locs cells slots) (hexec : p.tables.exec = Jvm.exec) {own C : String} {index : Nat} {y : MethodName} {bytes : ByteArray} {maxL : Nat} {ret : Option FieldType} {hh : List (Nat × Nat × Nat × Nat)}
    (hown : s.vm.findClass own = some m.cls) (hlink : (Cond.methodLink own index y).before args s = true) (hinst : (Cond.instanceMethod y).before args s = true) (hsel : (Cond.selects C y y).before args s = true)
    (hcode : (Cond.codeWith y bytes maxL ret hh).before args s = true) (hy : y.cls ≠ "java/lang/invoke/MethodHandle" ∧ y.cls ≠ "java/lang/invoke/VarHandle")
    {W9 : Nat} {Pre : Pt → Array Value → Prop} {Post : Pt → Array Value → Option Value → Pt → Prop} (hK : Back l R p e below s args y 3 W9 Pre Post)
    {b : Addr} {cellB : Cell} (hcell : T.heap[b]? = some cellB) (hobj : cellB.vm.isStatics = false) (hcls : s.vm.findClass C = some cellB.cls)
    {g : JFrame} (hg : g.method = m) (hsize : g.locals.size = c.maxLocals) {argsL rest : List Value} (hlen : ∀ sig, parseMethodDescriptor y.desc = some sig → argsL.length = sig.parameters.length)
    (hstack : g.stack = argsL.reverse ++ .ref b :: rest) (hW : 2 * g.monitorRoom + (rest.map fun v => v.category).sum ≤ W9) (hdg : decode c.code g.pc = .ok (.invokevirtual index, 3))
    (hpre : ∀ vm₁, s.WarmedH vm₁ → Pre ⟨T.setVm vm₁, locs, cells, slots⟩ (Value.ref b :: argsL).toArray) :
    ∃ (v : Option Value) (vm₁ : Vm) (B : Pt), s.WarmedH vm₁ ∧ Stand p l e R s m args below meth c B.U B.locs B.cells B.slots ∧ Post ⟨T.setVm vm₁, locs, cells, slots⟩ (Value.ref b :: argsL).toArray v B ∧
      ∀ target, Steps p.tables e below (B.U.setTop { g with pc := g.pc + 3, stack := v.toList ++ rest }) target → Steps p.tables e below (T.setTop g) target := by
  obtain ⟨mk, methM, hnamed, hmethM, hstM, habM⟩ := Cond.instanceMethod_spec hinst
  obtain ⟨m8, methM', cM, hn8, hmethM', -, -, -, -, -, -, hsigM⟩ := Cond.codeWith_spec hcode
  cases Option.some.inj (hn8.symm.trans hnamed)
  cases hmethM.symm.trans hmethM'
  obtain ⟨c2, r2, m2, q1, q2, q3, q4, kP, hkP, hkPi⟩ := Cond.selects_spec hsel
  cases hcls.symm.trans q1
  cases (State.methodFound?_of_named hnamed hy).symm.trans q2
  cases hnamed.symm.trans q3
  have hselP : selectMethod e.platform s.vm cellB.cls mk = .method mk := by rw [Launch.admits_selectMethod X.admits]; exact q4
  obtain ⟨vm₁, X₁, hstep₁⟩ := X.invokevirtual hexec hown hlink hnamed hmethM hstM hkP hkPi hy (a := b) (cell := cellB) hcell
    (fun z h => by rw [h] at hobj; cases hobj) hselP hmethM habM hkP hkPi (g := g) hg (argsL := argsL) (rest := rest) (hlen _ hsigM) hstack hdg
  obtain ⟨v, B, X', hpost, hsteps⟩ := hK m meth c ⟨T.setVm vm₁, locs, cells, slots⟩ { g with stack := rest } (.invokevirtual index) mk (Value.ref b :: argsL).toArray X₁ hg hsize hdg hW (X₁.named hnamed) (hpre vm₁ X₁.warmed)
  exact ⟨v, vm₁, B, X₁.warmed, X', hpost, fun target h => hstep₁ _ fun acts => by rw [doInvoke_state]; exact hsteps.trans h⟩
abbrev vx_CVW (R : Room) (s : State) (args : Array Value) (own C : String) (index : Nat) (y : MethodName) (bytes : ByteArray) (maxL : Nat) (ret : Option FieldType) (hh : List (Nat × Nat × Nat × Nat)) (ws : List Cond) (rm : Room) (mc ms n : Nat) : Prop :=
  (rm.cells = mc ∧ rm.slots = ms ∧ rm.frames + 1 ≤ R.frames ∧ 8 + (maxL + 11) + rm.locals ≤ R.locals ∧ (∀ w ∈ ws, ∀ (a' : Array Value) (U : State), s.WarmedH U.vm → w.before a' U = true) ∧ Cond.codeWith y bytes maxL ret hh ∈ ws) ∧
  (Cond.codeWith y bytes maxL ret hh).before args s = true ∧ (Cond.initialized y.cls).before args s = true ∧ (y.cls ≠ "java/lang/invoke/MethodHandle" ∧ y.cls ≠ "java/lang/invoke/VarHandle") ∧
  (∀ sig, parseMethodDescriptor y.desc = some sig → n = sig.parameters.length) ∧ (Cond.methodLink own index y).before args s = true ∧ (Cond.instanceMethod y).before args s = true ∧ (Cond.selects C y y).before args s = true
theorem vx_cwVW {own C : String} {index maxL mc ms : Nat} {y : MethodName} {bytes : ByteArray} {ret : Option FieldType} {hh : List (Nat × Nat × Nat × Nat)} {Ts ws ws' : List Cond} {rm : Room} (n : Nat) (ht : ∀ w ∈ Ts, w.before args s = true) (hT : GoodIn Ts (wsV own index C y ws)) (hw : ws = Cond.codeWith y bytes maxL ret hh :: ws') (hrc : rm.cells = mc) (hrs : rm.slots = ms)
    (hd : y.cls = C ∧ y.cls ≠ "java/lang/invoke/MethodHandle" ∧ y.cls ≠ "java/lang/invoke/VarHandle" ∧ (parseMethodDescriptor y.desc).map (fun d => d.parameters.length) = some n) (hR : rm.frames + 1 ≤ R.frames ∧ 8 + (maxL + 11) + rm.locals ≤ R.locals) :
    vx_CVW R s args own C index y bytes maxL ret hh ws rm mc ms n := by
  obtain ⟨hC, hd⟩ := hd
  subst hC
  have ok : ∀ w ∈ wsV own index y.cls y ws, w.before args s = true := fun w h => ht w (hT w h).1
  have hG : GoodIn Ts ws := fun w h => hT w (by unfold wsV; exact List.mem_append_right _ h)
  have hc : Cond.codeWith y bytes maxL ret hh ∈ ws := by rw [hw]; exact List.mem_cons_self
  refine ⟨⟨hrc, hrs, hR.1, hR.2, pay_in ht hG, hc⟩, ht _ (hG _ hc).1, ok _ (by simp [wsV]), ⟨hd.1, hd.2.1⟩, fun sig h => ?_, ok _ (by simp [wsV]), ok _ (by simp [wsV]), ok _ (by simp [wsV])⟩
  have h2 := hd.2.2
  rw [h] at h2
  exact (Option.some.inj h2).symm
theorem vx_runVW {y : MethodName} {bytes cc : ByteArray} {maxL nL mc ms n index : Nat} {ret : Option FieldType} {hh : List (Nat × Nat × Nat × Nat)} {ws : List Cond} {rm : Room} {Pc : Array Value → State → Prop} {Qc : Array Value → State → Outcome → State → Prop} {free : Addr → Prop} {Ts : List Cond} {own C : String} {b : Addr} {As rest : List Value} {g : JFrame}
    (S : CallFix p m c cc nL s args Ts own) (hM : Met l y ws rm Pc Qc mc ms free) (cw : vx_CVW R s args own C index y bytes maxL ret hh ws rm mc ms n) (hp : PreV s H C b Pc As)
    (hg : g.method = m) (hn : As.length = n) (hsize : g.locals.size = nL) (hstack : g.stack = As.reverse ++ .ref b :: rest) (hW : 2 * g.monitorRoom + (rest.map fun v => v.category).sum ≤ 8) (hdg : decode cc g.pc = .ok (.invokevirtual index, 3)) (hf : cells + mc ≤ R.cells ∧ slots + ms ≤ R.slots) :
    va_Run p l e R s m args below meth c H locs cells slots mc ms g rest (Qc (Value.ref b :: As).toArray) free := by
  obtain ⟨⟨hrc, hrs, hfr, hlo, hws, hcw⟩, hcode, hini, hy, hlen, hl, hin, hse⟩ := cw
  have hK : Back l R p e below s args y 3 8 (PreOf R mc ms Pc) (PostOf Qc mc ms free) := va_backW (hh := hh) (bytes := bytes) (maxL := maxL) (ret := ret) hM hp.1 hrc hrs hfr hlo hws hcw (fun a' U hW => word_at hW (Or.inl (by first | rfl | simp [Cond.onTables, Cond.keeps, Cond.steady])) hini)
  obtain ⟨hx, hb, hml, ho, -⟩ := S
  obtain ⟨-, ⟨cellB, hcB, hoB, hclB⟩, hPc⟩ := hp
  intro T hT X
  obtain ⟨v, vm₁, ⟨U', l2, c2, s2⟩, hW₁, X', ⟨g', mk, t, L, e1, e2, hq, h1, hL, h2, h3⟩, st⟩ := vx_callVW X hx (C := C) (hh := hh) (bytes := bytes) (maxL := maxL) (ret := ret) ho hl hin hse hcode hy hK (by rw [hT]; exact hcB) hoB hclB hg (hsize.trans hml.symm) (argsL := As) (rest := rest) (fun sig h => hn.trans (hlen sig h)) hstack hW (by rw [hb]; exact hdg)
    (fun vm₁ hW₁ => ⟨hf.1, hf.2, hPc (T.setVm vm₁) hT hW₁⟩)
  dsimp only [Pt.U, Pt.locs, Pt.cells, Pt.slots] at X' e1 e2 h1 h2 h3 st
  subst h1; subst h2; subst h3
  exact ⟨v, (T.setVm vm₁).calling g' mk (Value.ref b :: As).toArray, t, U', L, hT, X', hL, e1, e2, hq, st⟩
section
variable {y : MethodName} {bytes cc : ByteArray} {maxL nL mc ms n index : Nat} {ret : Option FieldType} {ws : List Cond} {rm : Room} {Pc : Array Value → State → Prop} {Qc : Array Value → State → Outcome → State → Prop} {XC : String → State → State → Prop} {free : Addr → Prop} {Ts : List Cond} {own C : String} {b : Addr} {As rest : List Value} {g : JFrame}
theorem vx_runVX {hh : List (Nat × Nat × Nat × Nat)} (S : CallFix p m c cc nL s args Ts own) (hM : vx_Met l y ws rm Pc Qc XC mc ms free) (cw : vx_CVW R s args own C index y bytes maxL ret hh ws rm mc ms n) (hp : PreV s H C b Pc As)
    (hg : g.method = m) (hn : As.length = n) (hsize : g.locals.size = nL) (hstack : g.stack = As.reverse ++ .ref b :: rest) (hW : 2 * g.monitorRoom + (rest.map fun v => v.category).sum ≤ 8) (hdg : decode cc g.pc = .ok (.invokevirtual index, 3)) (hf : cells + mc ≤ R.cells ∧ slots + ms ≤ R.slots) :
    vx_Run p l e R s m args below meth c H locs cells slots mc ms g rest (Qc (Value.ref b :: As).toArray) XC free := by
  obtain ⟨⟨hrc, hrs, hfr, hlo, hws, hcw⟩, hcode, hini, hy, hlen, hl, hin, hse⟩ := cw
  have hK : vx_Back l R p e below s args y 3 8 (PreOf R mc ms Pc) (PostOf Qc mc ms free) (vx_Post XC mc ms free) := vx_backW (hh := hh) (bytes := bytes) (maxL := maxL) (ret := ret) hM hp.1 hrc hrs hfr hlo hws hcw (fun a' U hW => word_at hW (Or.inl (by first | rfl | simp [Cond.onTables, Cond.keeps, Cond.steady])) hini)
  obtain ⟨hx, hb, hml, ho, -⟩ := S
  obtain ⟨-, ⟨cellB, hcB, hoB, hclB⟩, hPc⟩ := hp
  intro T hT X
  rcases vx_callVX X hx (C := C) (hh := hh) (bytes := bytes) (maxL := maxL) (ret := ret) ho hl hin hse hcode hy hK (by rw [hT]; exact hcB) hoB hclB hg (hsize.trans hml.symm) (argsL := As) (rest := rest) (fun sig h => hn.trans (hlen sig h)) hstack hW (by rw [hb]; exact hdg)
    (fun vm₁ hW₁ => ⟨hf.1, hf.2, hPc (T.setVm vm₁) hT hW₁⟩) with ⟨v, vm₁, ⟨U', l2, c2, s2⟩, hW₁, X', ⟨g', mk, t, L, e1, e2, hq, h1, hL, h2, h3⟩, st⟩ | ⟨q, vm₁, ⟨U', l2, c2, s2⟩, hW₁, X', ⟨g', mk, t, L, E, ce, e1, e2, hq, hce, hcv, hcl, h1, hL, h2, h3⟩, st⟩
  · dsimp only [Pt.U, Pt.locs, Pt.cells, Pt.slots] at X' e1 e2 h1 h2 h3 st
    subst h1; subst h2; subst h3
    exact Or.inl ⟨v, (T.setVm vm₁).calling g' mk (Value.ref b :: As).toArray, t, U', L, hT, X', hL, e1, e2, hq, st⟩
  · dsimp only [Pt.U, Pt.locs, Pt.cells, Pt.slots] at X' e1 e2 h1 h2 h3 st hcl
    subst h1; subst h2; subst h3
    exact Or.inr ⟨q, (T.setVm vm₁).calling g' mk (Value.ref b :: As).toArray, t, U', L, E, ce, hT, X', hL, e1, e2, hq, hce, hcv, vx_cls hW₁ hcl, st⟩
theorem vx_runSX {hh : List (Nat × Nat × Nat × Nat)} (S : CallFix p m c cc nL s args Ts own) (hM : vx_Met l y ws rm Pc Qc XC mc ms free) (cw : vx_CSW R s args own index y bytes maxL ret hh ws rm mc ms n) (hp : PreS s H Pc As)
    (hg : g.method = m) (hn : As.length = n) (hsize : g.locals.size = nL) (hstack : g.stack = As.reverse ++ rest) (hW : 2 * g.monitorRoom + (rest.map fun v => v.category).sum ≤ 8) (hdg : decode cc g.pc = .ok (.invokestatic index, 3)) (hf : cells + mc ≤ R.cells ∧ slots + ms ≤ R.slots) :
    vx_Run p l e R s m args below meth c H locs cells slots mc ms g rest (Qc As.toArray) XC free := by
  obtain ⟨⟨hrc, hrs, hfr, hlo, hws, hcw⟩, hcode, hini, hy, hlen, hl, hstt⟩ := cw
  have hK : vx_Back l R p e below s args y 3 8 (PreOf R mc ms Pc) (PostOf Qc mc ms free) (vx_Post XC mc ms free) := vx_backW (hh := hh) (bytes := bytes) (maxL := maxL) (ret := ret) hM hp.1 hrc hrs hfr hlo hws hcw (fun a' U hW => word_at hW (Or.inl (by first | rfl | simp [Cond.onTables, Cond.keeps, Cond.steady])) hini)
  obtain ⟨hx, hb, hml, ho, -⟩ := S
  intro T hT X
  rcases vx_callSX X hx (hh := hh) (bytes := bytes) (maxL := maxL) (ret := ret) ho hl hstt hini hcode hy hK hg (hsize.trans hml.symm) (argsL := As) (rest := rest) (fun sig h => hn.trans (hlen sig h)) hstack hW (by rw [hb]; exact hdg)
    (fun vm₁ hW₁ => ⟨hf.1, hf.2, hp.2 (T.setVm vm₁) hT hW₁⟩) with ⟨v, vm₁, ⟨U', l2, c2, s2⟩, hW₁, X', ⟨g', mk, t, L, e1, e2, hq, h1, hL, h2, h3⟩, st⟩ | ⟨q, vm₁, ⟨U', l2, c2, s2⟩, hW₁, X', ⟨g', mk, t, L, E, ce, e1, e2, hq, hce, hcv, hcl, h1, hL, h2, h3⟩, st⟩
  · dsimp only [Pt.U, Pt.locs, Pt.cells, Pt.slots] at X' e1 e2 h1 h2 h3 st
    subst h1; subst h2; subst h3
    exact Or.inl ⟨v, (T.setVm vm₁).calling g' mk As.toArray, t, U', L, hT, X', hL, e1, e2, hq, st⟩
  · dsimp only [Pt.U, Pt.locs, Pt.cells, Pt.slots] at X' e1 e2 h1 h2 h3 st hcl
    subst h1; subst h2; subst h3
    exact Or.inr ⟨q, (T.setVm vm₁).calling g' mk As.toArray, t, U', L, E, ce, hT, X', hL, e1, e2, hq, hce, hcv, vx_cls hW₁ hcl, st⟩
end
end VXH
theorem vx_ofWH {l : Launch} {y : MethodName} {ws ws' : List Cond} {rm : Room} {Pc : Array Value → State → Prop} {Qc : Array Value → State → Outcome → State → Prop} {XC : String → State → State → Prop} {mc ms : Nat} {free : Addr → Prop} {cc : ByteArray} {maxL : Nat} {ret : Option FieldType} {hh : List (Nat × Nat × Nat × Nat)}
    (hy : plainName y.cls = true) (hw : ws = Cond.codeWith y cc maxL ret hh :: ws')
    (body : ∀ p e s m args below meth c s₁, BodyLoose p l y (headSpec ws rm) cc maxL ret e s m args below meth c s₁ → c.maxLocals = maxL → Pc args s →
      W p l e (headSpec ws rm).room s m args below meth c s.heap [] 0 0 (vx_MQ below Qc XC args s mc ms free) (entryFrame m args maxL)) : vx_Met l y ws rm Pc Qc XC mc ms free := by
  refine MetFree.of_bodyS (code := cc) (maxLocals := maxL) (ret := ret) hy ?_ ?_
  · intro args s m h hn
    obtain ⟨m9, meth, c, hn9, h1, h2, h3, h4, -, h5, h6, -⟩ := Cond.codeWith_spec (atoms_spec (ws := ws) h _ (by rw [hw]; exact List.mem_cons_self))
    cases hn.symm.trans hn9
    exact ⟨meth, c, h1, h2, h3, h4, h5, h6⟩
  · intro p e s m args below meth c s₁ B hml hP _
    have hh0 : s₁.heap = s.heap := by rw [B.state]; rfl
    obtain ⟨t, a1, o, b1, b2, b3⟩ := body p e s m args below meth c s₁ B hml hP s₁ hh0 (Stand.of_body B)
    exact ⟨t, o, a1, b1, b2, b3⟩
/-! ===== END ===== -/
end
section
/-! throws: what they need beside the words, their contract, the throw, the call that catches -/
def rl_nx : Cond → Bool
  | .castable _ _ => true
  | .declares _ => true
  | _ => false
def rl_Xs : List Cond := tables_1.filter rl_nx
theorem rl_nx_ot {w : Cond} (hw : rl_nx w = true) : w.onTables = true := by
  cases w <;> first | rfl | cases hw
theorem rl_nx_warm {w : Cond} (hw : rl_nx w = true) {s U : State} (hW : s.WarmedH U.vm) (h : w.before #[] s = true) : w.before #[] U = true := by
  cases w with
  | castable => exact va_Nw.warmC hW h
  | declares => exact va_Nw.warmD hW h
  | _ => cases hw
def rl_strs : List (Nat × String) := [(147, "no such tuple"), (153, "no such column"), (164, "no such term"), (168, "what is 0 or 1")]
def rl_KX (E : rl_E) (U : State) : Prop :=
  (∀ w ∈ rl_Xs, w.before #[] U = true) ∧ vx_Zq Bundle.tN "UNASSIGNED_STACK" Bundle.steD (fun q => E.2.2.2.size ≤ q) U U.heap ∧ vx_Zq Bundle.tN "SUPPRESSED_SENTINEL" Bundle.listD (fun q => E.2.2.2.size ≤ q) U U.heap ∧ (∀ q ∈ rl_strs, ∃ sa, vk_R RX7 q.1 q.2 sa U) ∧ va_Nc "java/lang/IllegalArgumentException" "java/lang/IndexOutOfBoundsException" U
theorem rl_KX.to {E : rl_E} {s U : State} (hW : s.WarmedH U.vm) (hq : ∀ a : Nat, a < E.2.2.2.size → U.heap[a]? = s.heap[a]?) (h : rl_KX E s) : rl_KX E U := by
  obtain ⟨h1, h2, h3, h4, h5⟩ := h
  refine ⟨fun w hw => rl_nx_warm (List.mem_filter.mp hw).2 hW (h1 w hw), (h2.moved hW.alike).kept (fun a _ hA => hq a (Nat.not_le.mp hA)), (h3.moved hW.alike).kept (fun a _ hA => hq a (Nat.not_le.mp hA)), fun q hq => ?_, h5.moved hW.alike⟩
  obtain ⟨sa, hs⟩ := h4 q hq
  exact ⟨sa, hs.warm hW⟩
theorem rl_KX.vm {E : rl_E} {s U : State} (hv : s.vm = U.vm) (hh : U.heap = s.heap) (h : rl_KX E s) : rl_KX E U := by
  obtain ⟨h1, h2, h3, h4, h5⟩ := h
  refine ⟨fun w hw => va_Nw.same (rl_nx_ot (List.mem_filter.mp hw).2) hv (h1 w hw), ?_, ?_, fun q hq => ?_, h5.moved (by rw [hv]; exact Vm.Alike.refl _)⟩
  · rw [hh]
    exact h2.moved (by rw [hv]; exact Vm.Alike.refl _)
  · rw [hh]
    exact h3.moved (by rw [hv]; exact Vm.Alike.refl _)
  · obtain ⟨sa, hs⟩ := h4 q hq
    exact ⟨sa, hs.same hv.symm⟩
abbrev rl_PcX (E : rl_E) (Ns : List Cond) (av : List Value) (h : rl_H) (n : Nat) : Array Value → State → Prop := va_Pc av (fun U => (rl_R E h n U.heap ∧ va_K E.1 E.2.1 E.2.2.1 U ∧ ∀ w ∈ Ns, w.before #[] U = true) ∧ rl_KX E U)
abbrev rl_XC (E : rl_E) (h : rl_H) (n : Nat) (PX : String → Prop) : String → State → State → Prop := fun C _ t => PX C ∧ ∃ n', n ≤ n' ∧ rl_R E h n' t.heap
/-- the contract of a method that returns or throws; what it throws leaves h as it was -/
def rl_MetX (l : Launch) (E : rl_E) (BW Ns : List Cond) (y : MethodName) (cc : ByteArray) (nL : Nat) (ret : Option FieldType) (rm : Room) (av : List Value) (h : rl_H) (n : Nat) (Post : Option Value → rl_H → Nat → Prop) (PX : String → Prop) : Prop :=
  vx_Met l y (Cond.code y cc nL ret :: BW) rm (rl_PcX E Ns av h n) (rl_Qc E Post) (rl_XC E h n PX) rm.cells rm.slots (fun q => E.2.2.2.size ≤ q)
theorem rl_blindX {E : rl_E} {Ns : List Cond} (hN : ∀ w ∈ Ns, rl_nw w = true) {av : List Value} {h : rl_H} {n : Nat} : FrameBlind (rl_PcX E Ns av h n) := by
  intro a U g mk q
  obtain ⟨q0, ⟨q1, q2, q3⟩, q4⟩ := q
  exact ⟨q0, ⟨q1, va_K.moved (u := U) (U := U.calling g mk a) (Vm.Alike.refl U.vm) q2, fun w hw => rl_nw_vm (hN w hw) (s := U) rfl (q3 w hw)⟩, rl_KX.vm (s := U) rfl rfl q4⟩
section RLX
variable {X : rl_X} {E : rl_E} {cc : ByteArray} {own : String} {BW Ns : List Cond} {pc : Nat} {lo : List (Option Value)} {st : List Value} {h : rl_H} {n ce sl : Nat}
/-- the start of a walk with throws: the heap at the entry, what throws need -/
def rl_S0 (X : rl_X) (E : rl_E) : Prop := (∃ (h0 : rl_H) (n0 : Nat), rl_R E h0 n0 X.1.2.2.2.2.heap) ∧ rl_KX E X.1.2.2.2.2
/-- what a walk of a throwing method has beside rl_C -/
def rl_BX (X : rl_X) (E : rl_E) (l : Launch) (nL : Nat) (ret : Option FieldType) (rm : Room) (Post : Option Value → rl_H → Nat → Prop) (XC : String → State → State → Prop) : Prop :=
  X.1.2.1 = l ∧ X.1.2.2.2.1 = rm ∧ X.2.2 = vx_MQ X.2.1.2.2.1 (rl_Qc E Post) XC X.2.1.2.1 X.1.2.2.2.2 rm.cells rm.slots (fun q => E.2.2.2.size ≤ q) ∧ X.2.1.2.2.2.1.sig.returnType = ret ∧ X.2.1.2.2.2.2.maxLocals = nL ∧ ∀ x ∈ X.2.1.2.2.2.2.exceptionTable.toList, False
theorem rl_MetX.of {l : Launch} {y : MethodName} {nL : Nat} {ret : Option FieldType} {rm : Room} {av : List Value} {Post : Option Value → rl_H → Nat → Prop} {PX : String → Prop} (hy : plainName y.cls = true) (hav : (rl_a av).length ≤ nL)
    (body : ∀ X : rl_X, rl_C X E cc y.cls BW Ns → rl_BX X E l nL ret rm Post (rl_XC E h n PX) → rl_S0 X E → X.1.2.2.2.2.heap.size = n → rl_G X E 0 (rl_in nL av) [] h n 0 0) : rl_MetX l E BW Ns y cc nL ret rm av h n Post PX := by
  refine vx_ofW (cc := cc) (maxL := nL) (ret := ret) hy rfl ?_
  intro p e s m args below meth c s₁ B hml ht hv
  obtain ⟨rfl, ⟨hR, hK, hN⟩, hX⟩ := hv
  have hts := atoms_spec (ws := Cond.code y cc nL ret :: BW) B.pre
  have hown : s.vm.findClass y.cls = some m.cls := findClass_of_methodNamed B.named
  have hb := body ((p, l, e, rm, s), (m, av.toArray, below, meth, c), vx_MQ below (rl_Qc E Post) (rl_XC E h n PX) av.toArray s rm.cells rm.slots (fun q => E.2.2.2.size ≤ q))
    ⟨B.exec, B.bytes, hown, fun w hw => hts w (List.mem_cons_of_mem _ hw), hN, hK, B.notSynchronized⟩ ⟨rfl, rfl, rfl, B.returns, hml, ht⟩ ⟨⟨h, n, hR⟩, hX⟩ hR.1
  rw [lg_entry_eq]
  exact hb s.heap [] _ hR (fun q hq => by cases hq) (rl_in_L hav)
/-- throw new E("text") -/
theorem o_throwS {l : Launch} {nL : Nat} {ret : Option FieldType} {rm : Room} {Post : Option Value → rl_H → Nat → Prop} {PX : String → Prop} {n0 : Nat} (hC : rl_C X E cc own BW Ns) (hl : l.stackTraces = false) (hB : rl_BX X E l nL ret rm Post (rl_XC E h n0 PX)) (hS : rl_S0 X E) (hn0 : X.1.2.2.2.2.heap.size = n0) (hnn : n0 ≤ n) {cls text : String} {names : List String} {ik is ic : Nat}
    (hcls : Bundle.fit cls = true) (hnames : ∀ x ∈ names, Bundle.fit x = true) (hk : Cond.classLink own ik cls ∈ BW) (hini : Cond.initialized cls ∈ BW) (hstr : ∃ sa, vk_R own is text sa X.1.2.2.2.2)
    (ha1 : ∀ w ∈ (vx_atS own ic cls names).filter goodWord, w ∈ BW) (ha2 : ∀ w ∈ (vx_atS own ic cls names).filter (fun w => !goodWord w), w ∈ rl_Xs) (hgood : ∀ w ∈ Cond.classLink own ik cls :: Cond.initialized cls :: vx_atS own ic cls names, vx_ot w = true)
    (d0 : decode cc pc = .ok (.new ik, 3)) (d3 : decode cc (pc + 3) = .ok (.dup, 1)) (d4 : decode cc (pc + 4) = .ok (.ldc is, 2)) (d6 : decode cc (pc + 6) = .ok (.invokespecial ic, 3)) (d9 : decode cc (pc + 9) = .ok (.athrow, 1))
    (hr1 : names.length + 3 < rm.frames) (hr2 : (st.map fun v => v.category).sum + (13 * (names.length + 1) + 43) ≤ rm.locals) (hr3 : ce + 1 ≤ rm.cells) (hr4 : sl + 6 ≤ rm.slots) (hml : X.2.1.2.2.2.2.maxLocals = lo.length) (hPX : PX cls) : rl_G X E pc lo st h n ce sl := by
  intro H locs ls a1 b1 c1
  show W _ _ _ _ _ _ _ _ _ _ _ _ _ _ X.2.2 _
  obtain ⟨e1, e2, e3, e4, e5, e6⟩ := hB
  obtain ⟨⟨h0, n00, r0⟩, kx⟩ := hS
  obtain ⟨sa, hstr⟩ := hstr
  rw [e3]
  have hts := hC.2.2.2.1
  have hat : ∀ w ∈ vx_atS own ic cls names, w.before X.2.1.2.1 X.1.2.2.2.2 = true := vx_hat (fun w hw => hts w (ha1 w hw)) ha2 (fun w hw => va_Nw.use (rl_nx_ot (List.mem_filter.mp hw).2) (kx.1 w hw))
  have hS2 : va_S (fun q => E.2.2.2.size ≤ q) X.1.2.2.2.2.heap H locs := ⟨by rw [hn0, a1.1]; exact hnn, fun q hq hA => by rw [a1.2.2.1 q (Nat.not_le.mp hA), r0.2.2.1 q (Nat.not_le.mp hA)], b1⟩
  refine vx_throwS hC.1 hC.2.1 (by rw [e1]; exact hl) hC.2.2.1 hcls hnames (hts _ hk) (hts _ hini) hstr hat hgood kx.2.1 kx.2.2.1 hS2 (by rw [hml]; exact c1.1) d0 d3 d4 d6 d9 (fun x hx => (e6 x hx).elim) (by rw [e2]; exact hr1) (by rw [e2]; exact hr2) (by rw [e2]; exact hr3) (by rw [e2]; exact hr4) hC.2.2.2.2.2.2 ?_ b1 hr3 hr4
  intro t hal hsz hkp
  refine ⟨hPX, t.heap.size, by rw [a1.1] at hsz; omega, rfl, by rw [a1.1] at hsz; exact Nat.le_trans a1.2.1 hsz, fun q hq => ?_, fun a x hx => ?_⟩
  · rw [hkp q (by rw [a1.1]; exact Nat.lt_of_lt_of_le hq a1.2.1)]
    exact a1.2.2.1 q hq
  · exact ⟨(a1.2.2.2 a x hx).1, (a1.2.2.2 a x hx).2.kept (hkp a (by rw [a1.1]; exact a1.lt hx))⟩
/-- a call of a method that may throw; the first row of the own table takes it -/
theorem o_callVX {bytes : ByteArray} {maxL idx b ci N : Nat} {C : String} {T : u_T} {fs As rest : List Value} {ret' : Option FieldType} {rm' : Room} {y' : MethodName} {Post' : Option Value → rl_H → Nat → Prop} {PX : String → Prop} {nm : String} {x : ExceptionTableEntry} {suf : List ExceptionTableEntry}
    (hC : rl_C X E cc own BW Ns) (hG : ∀ w ∈ BW, goodWord w = true) (hN : ∀ w ∈ Ns, rl_nw w = true) (hS : rl_S0 X E) (hml : X.2.1.2.2.2.2.maxLocals = lo.length) (hY : rl_Y BW y' bytes maxL ret' As.length) (h1 : Cond.instanceMethod y' ∈ BW) (h2 : Cond.selects y'.cls y' y' ∈ BW) (hl : Cond.methodLink own idx y' ∈ BW)
    (hM : rl_MetX X.1.2.1 E BW Ns y' bytes maxL ret' rm' (.ref b :: As) h n Post' PX) (hb : h b = some (.inr (ci, fs))) (hc : E.2.1[ci]? = some (C, T, N)) (hCy : C = y'.cls)
    (hst : (rest.map fun v => v.category).sum ≤ 8) (hr1 : rm'.frames + 1 ≤ X.1.2.2.2.1.frames) (hr2 : 8 + (maxL + 11) + rm'.locals ≤ X.1.2.2.2.1.locals) (hr3 : ce + rm'.cells ≤ X.1.2.2.2.1.cells) (hr4 : sl + rm'.slots ≤ X.1.2.2.2.1.slots) (hd : decode cc pc = .ok (.invokevirtual idx, 3))
    (hsplit : X.2.1.2.2.2.2.exceptionTable.toList = x :: suf) (hx : covers x pc = true) (hx0 : x.catchType ≠ 0) (hxl : Cond.classLink own x.catchType nm ∈ BW) (hcast : ∀ F : String, PX F → Cond.castable F nm ∈ rl_Xs)
    (kx : ∀ (q n' : Nat), n ≤ n' → rl_G X E x.handlerPc lo [.ref q] h n' (ce + rm'.cells) (sl + rm'.slots))
    (kk : ∀ (v : Option Value) (h' : rl_H) (n' : Nat), Post' v h' n' → rl_G X E (pc + 3) lo (v.toList ++ rest) h' n' (ce + rm'.cells) (sl + rm'.slots)) : rl_G X E pc lo (As.reverse ++ .ref b :: rest) h n ce sl := by
  subst hCy
  intro H locs ls a1 b1 c1
  have hts := hC.2.2.2.1
  obtain ⟨⟨h0, n00, r0⟩, kX⟩ := hS
  have hfix : CallFix X.1.1 X.2.1.1 X.2.1.2.2.2.2 cc lo.length X.1.2.2.2.2 X.2.1.2.1 BW own := ⟨hC.1, hC.2.1, hml, hC.2.2.1, hts⟩
  have hrecv : ∃ cellB : Cell, H[b]? = some cellB ∧ cellB.vm.isStatics = false ∧ X.1.2.2.2.2.vm.findClass y'.cls = some cellB.cls := va_recv hC.2.2.2.2.2.1 (rl_P1 a1 hb) hc (q0 := 0) rfl
  have hpre : PreV X.1.2.2.2.2 H y'.cls b (rl_PcX E Ns (.ref b :: As) h n) As := ⟨rl_blindX hN, hrecv, fun U hU hW => ⟨rfl, (rl_pre (av := .ref b :: As) hC hN a1 U hU hW).2, kX.to hW (fun a ha => by rw [hU, a1.2.2.1 a ha, r0.2.2.1 a ha])⟩⟩
  have hr : vx_Run X.1.1 X.1.2.1 X.1.2.2.1 X.1.2.2.2.1 X.1.2.2.2.2 X.2.1.1 X.2.1.2.1 X.2.1.2.2.1 X.2.1.2.2.2.1 X.2.1.2.2.2.2 H locs ce sl rm'.cells rm'.slots (F0 X.2.1.1 pc ls (As.reverse ++ .ref b :: rest)) rest (rl_Qc E Post' (Value.ref b :: As).toArray) (rl_XC E h n PX) (fun q => E.2.2.2.size ≤ q) := vx_runV (y := y') (As := As) (rest := rest) (g := F0 X.2.1.1 pc ls (As.reverse ++ .ref b :: rest)) hfix hM ⟨callB_of As.length hts (rl_good hG hY.1) rfl rfl rfl (hts _ hY.2.1) (hts _ hl) hY.2.2 ⟨hr1, hr2⟩, hts _ h1, hts _ h2⟩ hpre rfl rfl c1.1 rfl (lv_room hst) hd ⟨hr3, hr4⟩
  intro T0 hT S
  rcases hr T0 hT S with ⟨v, st0, t, T', L, e0, S', hL, e1, e2, ⟨v', h', n', hv, hp, hR⟩, go⟩ | ⟨q, st0, t, T', L, F, ce0, e0, S', hL, e1, e2, ⟨hpx, n', hn', hR⟩, hce, hcv, hcl, stp⟩
  · cases hv
    obtain ⟨t', y1, y2⟩ := kk v h' n' hp T'.heap (locs ++ L) ls (by rw [e1]; exact hR) (fun q hq => (List.mem_append.mp hq).elim (b1 q) (hL q)) c1 T' rfl S'
    exact ⟨t', go _ y1, y2⟩
  · have hW : vx_W X.1.1 X.1.2.1 X.1.2.2.1 X.1.2.2.2.1 X.1.2.2.2.2 X.2.1.1 X.2.1.2.1 X.2.1.2.2.1 X.2.1.2.2.2.1 X.2.1.2.2.2.2 T'.heap (locs ++ L) (ce + rm'.cells) (sl + rm'.slots) X.2.2 (F0 X.2.1.1 pc ls rest) q :=
      vx_catch (E := F) (ce := ce0) (name := nm) hC.2.2.1 [] x suf hsplit (fun z hz => by cases hz) hx hx0 (hts _ hxl) (va_Nw.use rfl (kX.1 _ (hcast F hpx))) (by rw [e1]; exact hce) hcv hcl (kx q n' hn' T'.heap (locs ++ L) ls (by rw [e1]; exact hR) (fun q hq => (List.mem_append.mp hq).elim (b1 q) (hL q)) c1)
    obtain ⟨t', y1, y2⟩ := hW T' rfl S'
    exact ⟨t', stp.trans y1, y2⟩
/-- a call that may throw one of two, each caught on its own -/
theorem o_callVY {bytes : ByteArray} {maxL idx b ci N : Nat} {C : String} {T : u_T} {fs As rest : List Value} {ret' : Option FieldType} {rm' : Room} {y' : MethodName} {Post' : Option Value → rl_H → Nat → Prop} {PX : String → Prop} {nm nm2 : String} {x x2 : ExceptionTableEntry} {suf : List ExceptionTableEntry}
    (hC : rl_C X E cc own BW Ns) (hG : ∀ w ∈ BW, goodWord w = true) (hN : ∀ w ∈ Ns, rl_nw w = true) (hS : rl_S0 X E) (hml : X.2.1.2.2.2.2.maxLocals = lo.length) (hY : rl_Y BW y' bytes maxL ret' As.length) (h1 : Cond.instanceMethod y' ∈ BW) (h2 : Cond.selects y'.cls y' y' ∈ BW) (hl : Cond.methodLink own idx y' ∈ BW)
    (hM : rl_MetX X.1.2.1 E BW Ns y' bytes maxL ret' rm' (.ref b :: As) h n Post' PX) (hb : h b = some (.inr (ci, fs))) (hc : E.2.1[ci]? = some (C, T, N)) (hCy : C = y'.cls)
    (hst : (rest.map fun v => v.category).sum ≤ 8) (hr1 : rm'.frames + 1 ≤ X.1.2.2.2.1.frames) (hr2 : 8 + (maxL + 11) + rm'.locals ≤ X.1.2.2.2.1.locals) (hr3 : ce + rm'.cells ≤ X.1.2.2.2.1.cells) (hr4 : sl + rm'.slots ≤ X.1.2.2.2.1.slots) (hd : decode cc pc = .ok (.invokevirtual idx, 3))
    (hsplit : X.2.1.2.2.2.2.exceptionTable.toList = x :: x2 :: suf) (hx : covers x pc = true) (hx0 : x.catchType ≠ 0) (hxl : Cond.classLink own x.catchType nm ∈ BW) (hx2 : covers x2 pc = true) (hx20 : x2.catchType ≠ 0) (hxl2 : Cond.classLink own x2.catchType nm2 ∈ BW) (hcast : ∀ F : String, PX F → Cond.castable F nm ∈ rl_Xs ∨ ((F = "java/lang/IllegalArgumentException" ∧ nm = "java/lang/IndexOutOfBoundsException") ∧ Cond.castable F nm2 ∈ rl_Xs))
    (kx : ∀ (q n' : Nat), n ≤ n' → rl_G X E x.handlerPc lo [.ref q] h n' (ce + rm'.cells) (sl + rm'.slots))
    (kx2 : ∀ (q n' : Nat), n ≤ n' → rl_G X E x2.handlerPc lo [.ref q] h n' (ce + rm'.cells) (sl + rm'.slots))
    (kk : ∀ (v : Option Value) (h' : rl_H) (n' : Nat), Post' v h' n' → rl_G X E (pc + 3) lo (v.toList ++ rest) h' n' (ce + rm'.cells) (sl + rm'.slots)) : rl_G X E pc lo (As.reverse ++ .ref b :: rest) h n ce sl := by
  subst hCy
  intro H locs ls a1 b1 c1
  have hts := hC.2.2.2.1
  obtain ⟨⟨h0, n00, r0⟩, kX⟩ := hS
  have hfix : CallFix X.1.1 X.2.1.1 X.2.1.2.2.2.2 cc lo.length X.1.2.2.2.2 X.2.1.2.1 BW own := ⟨hC.1, hC.2.1, hml, hC.2.2.1, hts⟩
  have hrecv : ∃ cellB : Cell, H[b]? = some cellB ∧ cellB.vm.isStatics = false ∧ X.1.2.2.2.2.vm.findClass y'.cls = some cellB.cls := va_recv hC.2.2.2.2.2.1 (rl_P1 a1 hb) hc (q0 := 0) rfl
  have hpre : PreV X.1.2.2.2.2 H y'.cls b (rl_PcX E Ns (.ref b :: As) h n) As := ⟨rl_blindX hN, hrecv, fun U hU hW => ⟨rfl, (rl_pre (av := .ref b :: As) hC hN a1 U hU hW).2, kX.to hW (fun a ha => by rw [hU, a1.2.2.1 a ha, r0.2.2.1 a ha])⟩⟩
  have hr : vx_Run X.1.1 X.1.2.1 X.1.2.2.1 X.1.2.2.2.1 X.1.2.2.2.2 X.2.1.1 X.2.1.2.1 X.2.1.2.2.1 X.2.1.2.2.2.1 X.2.1.2.2.2.2 H locs ce sl rm'.cells rm'.slots (F0 X.2.1.1 pc ls (As.reverse ++ .ref b :: rest)) rest (rl_Qc E Post' (Value.ref b :: As).toArray) (rl_XC E h n PX) (fun q => E.2.2.2.size ≤ q) := vx_runV (y := y') (As := As) (rest := rest) (g := F0 X.2.1.1 pc ls (As.reverse ++ .ref b :: rest)) hfix hM ⟨callB_of As.length hts (rl_good hG hY.1) rfl rfl rfl (hts _ hY.2.1) (hts _ hl) hY.2.2 ⟨hr1, hr2⟩, hts _ h1, hts _ h2⟩ hpre rfl rfl c1.1 rfl (lv_room hst) hd ⟨hr3, hr4⟩
  intro T0 hT S
  rcases hr T0 hT S with ⟨v, st0, t, T', L, e0, S', hL, e1, e2, ⟨v', h', n', hv, hp, hR⟩, go⟩ | ⟨q, st0, t, T', L, F, ce0, e0, S', hL, e1, e2, ⟨hpx, n', hn', hR⟩, hce, hcv, hcl, stp⟩
  · cases hv
    obtain ⟨t', y1, y2⟩ := kk v h' n' hp T'.heap (locs ++ L) ls (by rw [e1]; exact hR) (fun q hq => (List.mem_append.mp hq).elim (b1 q) (hL q)) c1 T' rfl S'
    exact ⟨t', go _ y1, y2⟩
  · have hW : vx_W X.1.1 X.1.2.1 X.1.2.2.1 X.1.2.2.2.1 X.1.2.2.2.2 X.2.1.1 X.2.1.2.1 X.2.1.2.2.1 X.2.1.2.2.2.1 X.2.1.2.2.2.2 T'.heap (locs ++ L) (ce + rm'.cells) (sl + rm'.slots) X.2.2 (F0 X.2.1.1 pc ls rest) q := by
      rcases hcast F hpx with hcc | ⟨⟨rfl, rfl⟩, hcc⟩
      · exact vx_catch (E := F) (ce := ce0) (name := nm) hC.2.2.1 [] x (x2 :: suf) hsplit (fun z hz => by cases hz) hx hx0 (hts _ hxl) (va_Nw.use rfl (kX.1 _ hcc)) (by rw [e1]; exact hce) hcv hcl (kx q n' hn' T'.heap (locs ++ L) ls (by rw [e1]; exact hR) (fun q hq => (List.mem_append.mp hq).elim (b1 q) (hL q)) c1)
      · exact vx_catch (E := "java/lang/IllegalArgumentException") (ce := ce0) (name := nm2) hC.2.2.1 [x] x2 suf hsplit (fun z hz => by rw [List.mem_singleton.mp hz]; exact Or.inr ⟨hx0, _, hts _ hxl, kX.2.2.2.2⟩) hx2 hx20 (hts _ hxl2) (va_Nw.use rfl (kX.1 _ hcc)) (by rw [e1]; exact hce) hcv hcl (kx2 q n' hn' T'.heap (locs ++ L) ls (by rw [e1]; exact hR) (fun q hq => (List.mem_append.mp hq).elim (b1 q) (hL q)) c1)
    obtain ⟨t', y1, y2⟩ := hW T' rfl S'
    exact ⟨t', stp.trans y1, y2⟩
theorem o_iretX {l : Launch} {nL : Nat} {rm : Room} {Post : Option Value → rl_H → Nat → Prop} {XC : String → State → State → Prop} (hC : rl_C X E cc own BW Ns) (hB : rl_BX X E l nL (some .int) rm Post XC) {v : Int32} (hd : decode cc pc = .ok (.ireturn, 1)) (hce : ce ≤ rm.cells) (hsl : sl ≤ rm.slots) (hp : Post (some (.int v)) h n) : rl_G X E pc lo [.int v] h n ce sl := by
  intro H locs ls a b c
  show W _ _ _ _ _ _ _ _ _ _ _ _ _ _ X.2.2 _
  rw [hB.2.2.1]
  refine vx_ret (W.widen hce hsl ?_)
  exact W.iret hC.1 hC.2.1 hB.2.2.2.1 (fun t ht _ => ⟨_, h, n, rfl, hp, by rw [ht]; exact a⟩) b hd hC.2.2.2.2.2.2
theorem o_lretX {l : Launch} {nL : Nat} {rm : Room} {Post : Option Value → rl_H → Nat → Prop} {XC : String → State → State → Prop} (hC : rl_C X E cc own BW Ns) (hB : rl_BX X E l nL (some .long) rm Post XC) {v : Int64} (hd : decode cc pc = .ok (.lreturn, 1)) (hce : ce ≤ rm.cells) (hsl : sl ≤ rm.slots) (hp : Post (some (.long v)) h n) : rl_G X E pc lo [.long v] h n ce sl := by
  intro H locs ls a b c
  show W _ _ _ _ _ _ _ _ _ _ _ _ _ _ X.2.2 _
  rw [hB.2.2.1]
  refine vx_ret (W.widen hce hsl ?_)
  exact W.lret hC.1 hC.2.1 hB.2.2.2.1 (fun t ht _ => ⟨_, h, n, rfl, hp, by rw [ht]; exact a⟩) b hd hC.2.2.2.2.2.2
end RLX
end
section
/-! cell and way on a fresh object throw; the law's own cell and way catch that -/
theorem zIOB : Cond.initialized "java/lang/IndexOutOfBoundsException" ∈ rl_BW := rl_bw 15 (by decide +kernel) (by decide +kernel)
theorem xIOB : Cond.castable "java/lang/IndexOutOfBoundsException" "java/lang/IndexOutOfBoundsException" ∈ rl_Xs := List.mem_filter.mpr ⟨List.mem_of_getElem? (i := 616) (by decide +kernel), rfl⟩
abbrev rl_exn : List String := ["java/lang/RuntimeException", "java/lang/Exception"]
theorem tg1 : ∀ w ∈ (vx_atS RX7 149 "java/lang/IndexOutOfBoundsException" rl_exn).filter goodWord, w ∈ rl_BW := by decide +kernel
theorem tg2 : ∀ w ∈ (vx_atS RX7 149 "java/lang/IndexOutOfBoundsException" rl_exn).filter (fun w => !goodWord w), w ∈ rl_Xs := by decide +kernel
theorem tg3 : ∀ w ∈ Cond.classLink RX7 145 "java/lang/IndexOutOfBoundsException" :: Cond.initialized "java/lang/IndexOutOfBoundsException" :: vx_atS RX7 149 "java/lang/IndexOutOfBoundsException" rl_exn, vx_ot w = true := by decide +kernel
theorem wL_cell : Cond.codeWith yL_cell cL_cell 5 (some .int) [(0, 10, 13, 13)] ∈ rl_BW := rl_bw 608 (by decide +kernel) (by decide +kernel)
theorem wL_way : Cond.codeWith yL_way cL_way 6 (some .int) [(0, 11, 14, 13), (0, 11, 18, 19)] ∈ rl_BW := rl_bw 684 (by decide +kernel) (by decide +kernel)
theorem sL_cell : Cond.static yL_cell ∈ rl_BW := rl_bw 607 (by decide +kernel) (by decide +kernel)
theorem sL_way : Cond.static yL_way ∈ rl_BW := rl_bw 683 (by decide +kernel) (by decide +kernel)
theorem lL_cell : Cond.methodLink RL 72 yL_cell ∈ rl_BW := rl_bw 606 (by decide +kernel) (by decide +kernel)
theorem lL_way : Cond.methodLink RL 86 yL_way ∈ rl_BW := rl_bw 682 (by decide +kernel) (by decide +kernel)
theorem lL_xcell : Cond.methodLink RL 7 yX7_cell ∈ rl_BW := rl_bw 610 (by decide +kernel) (by decide +kernel)
theorem lL_xway : Cond.methodLink RL 15 yX7_way ∈ rl_BW := rl_bw 686 (by decide +kernel) (by decide +kernel)

set_option maxHeartbeats 4000000 in
set_option maxRecDepth 100000 in
theorem fr_X7_cell (l : Launch) (D : va_G) (ids : Nat → ClassId) (H0 : Heap) (h : rl_H) (n : Nat) (x : Nat) (t c : Int32) (hl : l.stackTraces = false) (hx : rw_new ids h x) : rl_MetX l (rl_e D ids H0) rl_BW rl_Ns yX7_cell cX7_cell 4 (some .int) ({ frames := 6, cells := 1, slots := 6, locals := 90 }) [.ref x, .int t, .int c] h n (fun _ _ _ => False) (fun C => C = "java/lang/IndexOutOfBoundsException") := by
  refine rl_MetX.of (by decide +kernel) (Nat.le_of_ble_eq_true rfl) ?_
  intro X hC hB hS hn0
  show rl_G X (rl_e D ids H0) 0 [some (.ref x), some (.int t), some (.int c), none] [] h n 0 0
  refine o_aload_n hC dX7_cell_0 (by rfl) ?_
  refine o_iload_n hC dX7_cell_1 (by rfl) ?_
  refine o_callV1 hC rl_BW_good rl_Ns_nw (by exact hB.2.2.2.2.1) YX7_resultTuple IX7_resultTuple VX7_resultTuple (mX7_141 hC) (by rw [hB.1]; exact fr_X7_resultTuple l D ids H0 h n x _ hx) (by exact hx.1) rfl rfl (Nat.le_of_ble_eq_true rfl) (by rw [hB.2.1]; first | exact Nat.le_of_ble_eq_true rfl | (dsimp only; omega)) (by rw [hB.2.1]; first | exact Nat.le_of_ble_eq_true rfl | (dsimp only; omega)) (by rw [hB.2.1]; first | exact Nat.le_of_ble_eq_true rfl | (dsimp only; omega)) (by rw [hB.2.1]; first | exact Nat.le_of_ble_eq_true rfl | (dsimp only; omega)) dX7_cell_2 (fun v h_2 n_2 p_2 => ?_)
  obtain ⟨rfl, rfl, rfl⟩ := p_2
  try dsimp only [Option.toList, List.cons_append, List.nil_append]
  refine o_astore_nN hC dX7_cell_5 (Nat.le_of_ble_eq_true rfl) ?_
  refine o_aload_nN hC dX7_cell_6 (by rfl) ?_
  refine o_ifnonnullN hC dX7_cell_7 ?_
  exact o_throwS (cls := "java/lang/IndexOutOfBoundsException") (text := "no such tuple") (names := rl_exn) (ik := 145) (is := 147) (ic := 149) hC hl hB hS hn0 (Nat.le_refl _) (by decide +kernel) (by decide +kernel) kX7_145 zIOB (hS.2.2.2.2.1 (147, "no such tuple") (by decide)) tg1 tg2 tg3 dX7_cell_10 dX7_cell_13 dX7_cell_14 dX7_cell_16 dX7_cell_19 (by decide) (by decide) (by decide) (by decide) (by exact hB.2.2.2.2.1) rfl

set_option maxHeartbeats 4000000 in
set_option maxRecDepth 100000 in
theorem fr_X7_way (l : Launch) (D : va_G) (ids : Nat → ClassId) (H0 : Heap) (h : rl_H) (n : Nat) (x : Nat) (t k w : Int32) (hl : l.stackTraces = false) (hx : rw_new ids h x) : rl_MetX l (rl_e D ids H0) rl_BW rl_Ns yX7_way cX7_way 5 (some .long) ({ frames := 6, cells := 1, slots := 6, locals := 90 }) [.ref x, .int t, .int k, .int w] h n (fun _ _ _ => False) (fun C => C = "java/lang/IndexOutOfBoundsException") := by
  refine rl_MetX.of (by decide +kernel) (Nat.le_of_ble_eq_true rfl) ?_
  intro X hC hB hS hn0
  show rl_G X (rl_e D ids H0) 0 [some (.ref x), some (.int t), some (.int k), some (.int w), none] [] h n 0 0
  refine o_aload_n hC dX7_way_0 (by rfl) ?_
  refine o_iload_n hC dX7_way_1 (by rfl) ?_
  refine o_callV1 hC rl_BW_good rl_Ns_nw (by exact hB.2.2.2.2.1) YX7_resultTuple IX7_resultTuple VX7_resultTuple (mX7_141 hC) (by rw [hB.1]; exact fr_X7_resultTuple l D ids H0 h n x _ hx) (by exact hx.1) rfl rfl (Nat.le_of_ble_eq_true rfl) (by rw [hB.2.1]; first | exact Nat.le_of_ble_eq_true rfl | (dsimp only; omega)) (by rw [hB.2.1]; first | exact Nat.le_of_ble_eq_true rfl | (dsimp only; omega)) (by rw [hB.2.1]; first | exact Nat.le_of_ble_eq_true rfl | (dsimp only; omega)) (by rw [hB.2.1]; first | exact Nat.le_of_ble_eq_true rfl | (dsimp only; omega)) dX7_way_2 (fun v h_2 n_2 p_2 => ?_)
  obtain ⟨rfl, rfl, rfl⟩ := p_2
  try dsimp only [Option.toList, List.cons_append, List.nil_append]
  refine o_astoreN hC dX7_way_5 (Nat.le_of_ble_eq_true rfl) ?_
  refine o_aloadN hC dX7_way_7 (by rfl) ?_
  refine o_ifnonnullN hC dX7_way_9 ?_
  exact o_throwS (cls := "java/lang/IndexOutOfBoundsException") (text := "no such tuple") (names := rl_exn) (ik := 145) (is := 147) (ic := 149) hC hl hB hS hn0 (Nat.le_refl _) (by decide +kernel) (by decide +kernel) kX7_145 zIOB (hS.2.2.2.2.1 (147, "no such tuple") (by decide)) tg1 tg2 tg3 dX7_way_12 dX7_way_15 dX7_way_16 dX7_way_18 dX7_way_21 (by decide) (by decide) (by decide) (by decide) (by exact hB.2.2.2.2.1) rfl

/-- the contract of a method with a table of its own -/
def rl_MetW (l : Launch) (E : rl_E) (BW Ns : List Cond) (y : MethodName) (cc : ByteArray) (nL : Nat) (ret : Option FieldType) (hh : List (Nat × Nat × Nat × Nat)) (rm : Room) (av : List Value) (h : rl_H) (n : Nat) (Post : Option Value → rl_H → Nat → Prop) : Prop :=
  Met l y (Cond.codeWith y cc nL ret hh :: BW) rm (rl_PcX E Ns av h n) (rl_Qc E Post) rm.cells rm.slots (fun q => E.2.2.2.size ≤ q)
section RLT
variable {X : rl_X} {E : rl_E} {cc : ByteArray} {own : String} {BW Ns : List Cond} {pc : Nat} {lo : List (Option Value)} {st : List Value} {h : rl_H} {n ce sl : Nat}
theorem rl_MetW.of {l : Launch} {y : MethodName} {nL : Nat} {ret : Option FieldType} {hh : List (Nat × Nat × Nat × Nat)} {rm : Room} {av : List Value} {Post : Option Value → rl_H → Nat → Prop} (hy : plainName y.cls = true) (hav : (rl_a av).length ≤ nL)
    (body : ∀ X : rl_X, rl_C X E cc y.cls BW Ns → rl_B X E l y nL ret rm Post → rl_S0 X E → X.2.1.2.2.2.2.exceptionTable.toList = tableOf hh → rl_G X E 0 (rl_in nL av) [] h n 0 0) : rl_MetW l E BW Ns y cc nL ret hh rm av h n Post := by
  refine va_MetW (cc := cc) (maxL := nL) (ret := ret) (hh := hh) hy rfl ?_
  intro p e s m args below meth c s₁ B hml hv
  obtain ⟨rfl, ⟨hR, hK, hN⟩, hX⟩ := hv
  have hts := atoms_spec (ws := Cond.codeWith y cc nL ret hh :: BW) B.pre
  have hown : s.vm.findClass y.cls = some m.cls := findClass_of_methodNamed B.named
  have hb := body ((p, l, e, rm, s), (m, av.toArray, below, meth, c), MQ below (rl_Qc E Post) av.toArray s rm.cells rm.slots (fun q => E.2.2.2.size ≤ q))
    ⟨B.exec, B.bytes, hown, fun w hw => hts w (List.mem_cons_of_mem _ hw), hN, hK, B.notSynchronized⟩ ⟨rfl, rfl, rfl, B.returns, (name_of_methodNamed B.named B.method).1, hml⟩ ⟨⟨h, n, hR⟩, hX⟩ (vx_table (x := y) B (hts _ List.mem_cons_self))
  rw [lg_entry_eq]
  exact hb s.heap [] _ hR (fun q hq => by cases hq) (rl_in_L hav)
theorem o_callSW {bytes : ByteArray} {maxL idx : Nat} {As rest : List Value} {ret' : Option FieldType} {hh : List (Nat × Nat × Nat × Nat)} {rm' : Room} {y' : MethodName} {Post' : Option Value → rl_H → Nat → Prop}
    (hC : rl_C X E cc own BW Ns) (hG : ∀ w ∈ BW, goodWord w = true) (hN : ∀ w ∈ Ns, rl_nw w = true) (hS : rl_S0 X E) (hml : X.2.1.2.2.2.2.maxLocals = lo.length) (hcode : Cond.codeWith y' bytes maxL ret' hh ∈ BW) (hini : Cond.initialized y'.cls ∈ BW) (hstat : Cond.static y' ∈ BW) (hl : Cond.methodLink own idx y' ∈ BW)
    (hd2 : y'.cls ≠ "java/lang/invoke/MethodHandle" ∧ y'.cls ≠ "java/lang/invoke/VarHandle" ∧ (parseMethodDescriptor y'.desc).map (fun d => d.parameters.length) = some As.length) (hM : rl_MetW X.1.2.1 E BW Ns y' bytes maxL ret' hh rm' As h n Post')
    (hst : (rest.map fun v => v.category).sum ≤ 8) (hr1 : rm'.frames + 1 ≤ X.1.2.2.2.1.frames) (hr2 : 8 + (maxL + 11) + rm'.locals ≤ X.1.2.2.2.1.locals) (hr3 : ce + rm'.cells ≤ X.1.2.2.2.1.cells) (hr4 : sl + rm'.slots ≤ X.1.2.2.2.1.slots) (hd : decode cc pc = .ok (.invokestatic idx, 3))
    (kk : ∀ (v : Option Value) (h' : rl_H) (n' : Nat), Post' v h' n' → rl_G X E (pc + 3) lo (v.toList ++ rest) h' n' (ce + rm'.cells) (sl + rm'.slots)) : rl_G X E pc lo (As.reverse ++ rest) h n ce sl := by
  intro H locs ls a1 b1 c1
  have hts := hC.2.2.2.1
  obtain ⟨⟨h0, n00, r0⟩, kX⟩ := hS
  have hfix : CallFix X.1.1 X.2.1.1 X.2.1.2.2.2.2 cc lo.length X.1.2.2.2.2 X.2.1.2.1 BW own := ⟨hC.1, hC.2.1, hml, hC.2.2.1, hts⟩
  have hpre : PreS X.1.2.2.2.2 H (rl_PcX E Ns As h n) As := ⟨rl_blindX hN, fun U hU hW => ⟨rfl, (rl_pre (av := As) hC hN a1 U hU hW).2, kX.to hW (fun a ha => by rw [hU, a1.2.2.1 a ha, r0.2.2.1 a ha])⟩⟩
  have hend : ∀ (v : Option Value) (h' : rl_H) (n' : Nat) (H1 : Heap) (locs1 : List Loc), Post' v h' n' → rl_R E h' n' H1 → (∀ q ∈ locs1, E.2.2.2.size ≤ q.base) → rl_W X H1 locs1 (ce + rm'.cells) (sl + rm'.slots) (F0 X.2.1.1 (pc + 3) ls (v.toList ++ rest)) := fun v h' n' H1 locs1 hp hR hL => kk v h' n' hp H1 locs1 ls hR hL c1
  have hgd : GoodIn BW (Cond.codeWith y' bytes maxL ret' hh :: BW) := by
    intro w hw
    rcases List.mem_cons.mp hw with rfl | hw
    · exact ⟨hcode, good_of_word (hG _ hcode)⟩
    · exact ⟨hw, good_of_word (hG _ hw)⟩
  refine rl_run b1 (vx_runSW (y := y') (hh := hh) (bytes := bytes) (maxL := maxL) (ret := ret') (n := As.length) (As := As) (rest := rest) hfix hM ⟨⟨rfl, rfl, hr1, hr2, pay_in hts hgd, List.mem_cons_self⟩, hts _ hcode, hts _ hini, ⟨hd2.1, hd2.2.1⟩, fun sig h => ?_, hts _ hl, hts _ hstat⟩ hpre rfl rfl c1.1 rfl (lv_room hst) hd ⟨hr3, hr4⟩) hend
  have h2 := hd2.2.2
  rw [h] at h2
  exact (Option.some.inj h2).symm
end RLT

set_option maxHeartbeats 4000000 in
set_option maxRecDepth 100000 in
theorem fr_L_cell (l : Launch) (D : va_G) (ids : Nat → ClassId) (H0 : Heap) (h : rl_H) (n : Nat) (x ou : Nat) (t c : Int32) (hl : l.stackTraces = false) (hx : rw_new ids h x) : rl_MetW l (rl_e D ids H0) rl_BW rl_Ns yL_cell cL_cell 5 (some .int) [(0, 10, 13, 13)] ({ frames := 7, cells := 1, slots := 6, locals := 113 }) [.ref x, .int t, .int c, .ref ou] h n (fun v h' n' => v = some (.int (nI 1)) ∧ h' = h ∧ n ≤ n') := by
  refine rl_MetW.of (by decide +kernel) (Nat.le_of_ble_eq_true rfl) ?_
  intro X hC hB hS ht0
  have ht : X.2.1.2.2.2.2.exceptionTable.toList = { startPc := 0, endPc := 10, handlerPc := 13, catchType := 13 } :: [] := ht0
  show rl_G X (rl_e D ids H0) 0 [some (.ref x), some (.int t), some (.int c), some (.ref ou), none] [] h n 0 0
  refine o_aload_n hC dL_cell_0 (by rfl) ?_
  refine o_iconst (v := nI 0) hC dL_cell_1 (by decide +kernel) ?_
  refine o_aload_n hC dL_cell_2 (by rfl) ?_
  refine o_iload_n hC dL_cell_3 (by rfl) ?_
  refine o_iload_n hC dL_cell_4 (by rfl) ?_
  refine o_callVX (As := [.int t, .int c]) (rest := [.int (nI 0), .ref ou]) (x := { startPc := 0, endPc := 10, handlerPc := 13, catchType := 13 }) (suf := []) (nm := "java/lang/IndexOutOfBoundsException") hC rl_BW_good rl_Ns_nw hS (by exact hB.2.2.2.2.2) YX7_cell IX7_cell VX7_cell lL_xcell (by rw [hB.1]; exact fr_X7_cell l D ids H0 h n x t c hl hx) hx.1 rfl rfl (Nat.le_of_ble_eq_true rfl) (by rw [hB.2.1]; first | exact Nat.le_of_ble_eq_true rfl | (dsimp only; omega)) (by rw [hB.2.1]; first | exact Nat.le_of_ble_eq_true rfl | (dsimp only; omega)) (by rw [hB.2.1]; first | exact Nat.le_of_ble_eq_true rfl | (dsimp only; omega)) (by rw [hB.2.1]; first | exact Nat.le_of_ble_eq_true rfl | (dsimp only; omega)) dL_cell_5 ht (by decide) (by decide) kL_13 (fun F hF => by rw [hF]; exact xIOB) (fun q n2 hn2 => ?_) (fun v h2 n2 p => False.elim p)
  refine o_astore hC dL_cell_13 (Nat.le_of_ble_eq_true rfl) ?_
  refine o_iconst (v := nI 1) hC dL_cell_15 (by decide +kernel) ?_
  refine o_iret hC hB dL_cell_16 (Nat.le_of_ble_eq_true rfl) (Nat.le_of_ble_eq_true rfl) ?_
  exact ⟨rfl, rfl, hn2⟩

set_option maxHeartbeats 4000000 in
set_option maxRecDepth 100000 in
theorem fr_L_way (l : Launch) (D : va_G) (ids : Nat → ClassId) (H0 : Heap) (h : rl_H) (n : Nat) (x ou : Nat) (t k w : Int32) (hl : l.stackTraces = false) (hx : rw_new ids h x) : rl_MetW l (rl_e D ids H0) rl_BW rl_Ns yL_way cL_way 6 (some .int) [(0, 11, 14, 13), (0, 11, 18, 19)] ({ frames := 7, cells := 1, slots := 6, locals := 114 }) [.ref x, .int t, .int k, .int w, .ref ou] h n (fun v h' n' => v = some (.int (nI 1)) ∧ h' = h ∧ n ≤ n') := by
  refine rl_MetW.of (by decide +kernel) (Nat.le_of_ble_eq_true rfl) ?_
  intro X hC hB hS ht0
  have ht : X.2.1.2.2.2.2.exceptionTable.toList = { startPc := 0, endPc := 11, handlerPc := 14, catchType := 13 } :: [{ startPc := 0, endPc := 11, handlerPc := 18, catchType := 19 }] := ht0
  show rl_G X (rl_e D ids H0) 0 [some (.ref x), some (.int t), some (.int k), some (.int w), some (.ref ou), none] [] h n 0 0
  refine o_aload hC dL_way_0 (by rfl) ?_
  refine o_iconst (v := nI 0) hC dL_way_2 (by decide +kernel) ?_
  refine o_aload_n hC dL_way_3 (by rfl) ?_
  refine o_iload_n hC dL_way_4 (by rfl) ?_
  refine o_iload_n hC dL_way_5 (by rfl) ?_
  refine o_iload_n hC dL_way_6 (by rfl) ?_
  refine o_callVX (As := [.int t, .int k, .int w]) (rest := [.int (nI 0), .ref ou]) (x := { startPc := 0, endPc := 11, handlerPc := 14, catchType := 13 }) (suf := [{ startPc := 0, endPc := 11, handlerPc := 18, catchType := 19 }]) (nm := "java/lang/IndexOutOfBoundsException") hC rl_BW_good rl_Ns_nw hS (by exact hB.2.2.2.2.2) YX7_way IX7_way VX7_way lL_xway (by rw [hB.1]; exact fr_X7_way l D ids H0 h n x t k w hl hx) hx.1 rfl rfl (Nat.le_of_ble_eq_true rfl) (by rw [hB.2.1]; first | exact Nat.le_of_ble_eq_true rfl | (dsimp only; omega)) (by rw [hB.2.1]; first | exact Nat.le_of_ble_eq_true rfl | (dsimp only; omega)) (by rw [hB.2.1]; first | exact Nat.le_of_ble_eq_true rfl | (dsimp only; omega)) (by rw [hB.2.1]; first | exact Nat.le_of_ble_eq_true rfl | (dsimp only; omega)) dL_way_7 ht (by decide) (by decide) kL_13 (fun F hF => by rw [hF]; exact xIOB) (fun q n2 hn2 => ?_) (fun v h2 n2 p => False.elim p)
  refine o_astore hC dL_way_14 (Nat.le_of_ble_eq_true rfl) ?_
  refine o_iconst (v := nI 1) hC dL_way_16 (by decide +kernel) ?_
  refine o_iret hC hB dL_way_17 (Nat.le_of_ble_eq_true rfl) (Nat.le_of_ble_eq_true rfl) ?_
  exact ⟨rfl, rfl, hn2⟩
end
section
/-! THE LAW: its end, what holds at its entry in the abstract machine, the script's rows -/
def R_law : String := "RowLineageLaw"
def lw_Q (_ : Array Value) (s : State) (o : Outcome) (t : State) : Prop := o = .returned (some (.int 1)) ∧ Framed s o t [] 600002 7302232
def lw_Z (below : List Frame) (a : Array Value) (s : State) : State → Prop := fun t => ∃ o, t.status = .running ∧ Ended t below o ∧ lw_Q a s o t
/-- the law's own end, with 1 on the stack -/
theorem lw_ret {p : Program} {l : Launch} {e : Env} {s : State} {m : MethodId} {below : List Frame} {meth : Method} {c : Code} {b : Nat} (hx : p.tables.exec = Jvm.exec) (hb : c.code = code) (hr : meth.sig.returnType = ret) (hlocks : meth.locks = false) {pc : Nat} {H : Heap} {ls : Array Slot} (hdg : decode code pc = .ok (.ireturn, 1)) : W p l e room_1 s m #[Value.ref b] below meth c H [] 600002 7302232 (lw_Z below #[Value.ref b] s) (F0 m pc ls [.int 1]) := by
  intro T hT X
  obtain ⟨fs, hret, hrun, hended, hW, hframe⟩ := X.leave (v := some (.int 1)) (hlocks := hlocks) (fun h => by rw [hr] at h; cases h)
  have hmeth' : T.vm.method? m = some meth := X.method'
  refine ⟨T.setFrames fs, ?_, .returned (some (.int 1)), hrun, hended, rfl, ⟨_, rfl⟩, hW, hframe⟩
  jvm_step X.here [X.here.top, hx, hb, hdg, hmeth', hr, ret, narrow_b1]
  (try refine ⟨rfl, ?_⟩); (try refine ⟨rfl, ?_⟩)
  first | (intro acts; rw [hret _ acts rfl rfl rfl]) | rw [hret _ _ rfl rfl rfl]
  exact Steps.refl _
/-- what holds at the law's entry -/
def lw_At (p : Program) (s : State) (m : MethodId) (meth : Method) (c : Code) (b L : Nat) (xs : Nat → Int32) : Prop :=
  p.tables.exec = Jvm.exec ∧ c.code = code ∧ meth.sig.returnType = ret ∧ c.maxLocals = 8 ∧ s.vm.findClass R_law = some m.cls ∧ (∀ w ∈ lw_tbl, w.before #[Value.ref b] s = true) ∧ va_X b L xs s s.heap ∧ b < s.heap.size ∧ meth.locks = false ∧ (Jvm.Cond.and given_1 narrow_1).before #[Value.ref b] s = true
/-! the tables out of the words -/
theorem lk_cls {s : State} {A : Array Value} (hts : ∀ w ∈ rl_BW, w.before A s = true) (c : Nat) : ∃ (cC : ClassId) (iS : Nat → Nat), ∀ q : vw_C, vwCl[c]? = some q → u_Kn s q.1 q.2.1 q.2.2 cC iS := by
  by_cases h : c < 9
  · have g : ∀ (C : String) (T : u_T) (N k : Nat), vwCl[c]? = some (C, T, N) → (∀ x ∈ u_ws C T N, x ∈ rl_BW) → Cond.instantiable C k ∈ rl_BW → ∃ (cC : ClassId) (iS : Nat → Nat), ∀ q : vw_C, vwCl[c]? = some q → u_Kn s q.1 q.2.1 q.2.2 cC iS := by
      intro C T N k hq hu hi
      obtain ⟨cC, iS, hk⟩ := u_known (C := C) (T := T) (N := N) hts hu (hts _ hi)
      exact ⟨cC, iS, fun q h2 => by rw [hq] at h2; cases h2; exact hk⟩
    rcases (by omega : c = 0 ∨ c = 1 ∨ c = 2 ∨ c = 3 ∨ c = 4 ∨ c = 5 ∨ c = 6 ∨ c = 7 ∨ c = 8) with rfl | rfl | rfl | rfl | rfl | rfl | rfl | rfl | rfl
    · exact g _ _ _ _ rfl uX0 iX0
    · exact g _ _ _ _ rfl uX1 iX1
    · exact g _ _ _ _ rfl uX2 iX2
    · exact g _ _ _ _ rfl uX3 iX3
    · exact g _ _ _ _ rfl uX4 iX4
    · exact g _ _ _ _ rfl uX5 iX5
    · exact g _ _ _ _ rfl uX6 iX6
    · exact g _ _ _ _ rfl uX7 iX7
    · exact g _ _ _ _ rfl uX8 iX8
  · exact ⟨s.vm.classes.size, fun _ => 0, fun q hq => by
      have := (List.getElem?_eq_some_iff.mp hq).1
      exact absurd this h⟩
def lk_tys : List FieldType := [.int, .long, .boolean, .object RX5, .object RX6, .object RX1, .object RX4, .array .int]
theorem lk_arr {s : State} {A B : Array Value} (hts : ∀ w ∈ rl_BW, w.before A s = true) (hns : ∀ w ∈ rl_Ns, w.before B s = true) (k : Nat) : ∃ cA : ClassId, ∀ ty : FieldType, lk_tys[k]? = some ty → ArrOfT s cA ty ∧ va_RA s cA ty := by
  have g1 : ∀ ty : FieldType, (∀ C, ty ≠ .object C) → lk_tys[k]? = some ty → Cond.arrayClass ty ∈ rl_BW → ∃ cA : ClassId, ∀ ty : FieldType, lk_tys[k]? = some ty → ArrOfT s cA ty ∧ va_RA s cA ty := by
    intro ty hn hq hw
    obtain ⟨cA, kA, comp, h1, h2, h3⟩ := Cond.arrayClass_spec (hts _ hw)
    refine ⟨cA, fun t ht => ?_⟩
    rw [hq] at ht
    cases ht
    refine ⟨fun N z => ⟨(fun k h => by cases h), kA, h2, comp, h3⟩, ?_⟩
    cases ty <;> first | exact h1 | exact absurd rfl (hn _)
  have g2 : ∀ C : String, lk_tys[k]? = some (.object C) → Cond.arrayOver (.object C) ∈ rl_Ns → ∃ cA : ClassId, ∀ ty : FieldType, lk_tys[k]? = some ty → ArrOfT s cA ty ∧ va_RA s cA ty := by
    intro C hq hw
    obtain ⟨comp, cA, kA, h1, -, h2, h3, h4⟩ := Cond.arrayOver_spec (hns _ hw)
    refine ⟨cA, fun t ht => ?_⟩
    rw [hq] at ht
    cases ht
    exact ⟨fun N z => ⟨(fun k h => by cases h), kA, h2, comp, h3⟩, kA, comp, h2, h3, h1, h4⟩
  have g3 : ∀ t : FieldType, lk_tys[k]? = some (.array t) → Cond.arrayOver (.array t) ∈ rl_Ns → ∃ cA : ClassId, ∀ ty : FieldType, lk_tys[k]? = some ty → ArrOfT s cA ty ∧ va_RA s cA ty := by
    intro C hq hw
    obtain ⟨comp, cA, kA, h1, -, h2, h3, h4⟩ := arrayOverA_spec (hns _ hw)
    refine ⟨cA, fun t ht => ?_⟩
    rw [hq] at ht
    cases ht
    exact ⟨fun N z => ⟨(fun k h => by cases h), kA, h2, comp, h3⟩, h4⟩
  by_cases h : k < 8
  · rcases (by omega : k = 0 ∨ k = 1 ∨ k = 2 ∨ k = 3 ∨ k = 4 ∨ k = 5 ∨ k = 6 ∨ k = 7) with rfl | rfl | rfl | rfl | rfl | rfl | rfl | rfl
    · exact g1 .int (fun C q => by cases q) rfl aw_int
    · exact g1 .long (fun C q => by cases q) rfl aw_long
    · exact g1 .boolean (fun C q => by cases q) rfl aw_boolean
    · exact g2 RX5 rfl aoX5
    · exact g2 RX6 rfl aoX6
    · exact g2 RX1 rfl aoX1
    · exact g2 RX4 rfl aoX4
    · exact g3 .int rfl aoArrI
  · exact ⟨s.vm.classes.size, fun ty hq => by
      have := (List.getElem?_eq_some_iff.mp hq).1
      exact absurd this h⟩
theorem lk_K {s : State} {A B : Array Value} (hts : ∀ w ∈ rl_BW, w.before A s = true) (hns : ∀ w ∈ rl_Ns, w.before B s = true) : ∃ (D : va_G) (ids : Nat → ClassId), va_K D vwCl (rl_tys ids) s := by
  refine ⟨(fun c => Classical.choose (lk_cls hts c), fun c => Classical.choose (Classical.choose_spec (lk_cls hts c))), fun k => Classical.choose (lk_arr hts hns k), fun c q hq => Classical.choose_spec (Classical.choose_spec (lk_cls hts c)) q hq, fun k q hq => ?_⟩
  have h : k < 8 := (List.getElem?_eq_some_iff.mp hq).1
  rcases (by omega : k = 0 ∨ k = 1 ∨ k = 2 ∨ k = 3 ∨ k = 4 ∨ k = 5 ∨ k = 6 ∨ k = 7) with rfl | rfl | rfl | rfl | rfl | rfl | rfl | rfl <;> (cases hq; exact Classical.choose_spec (lk_arr hts hns _) _ rfl)
/-- words of the tables say the same of all arguments -/
theorem lk_ns {w : Cond} (hw : rl_nw w = true) {A B : Array Value} {s : State} (h : w.before A s = true) : w.before B s = true := by
  cases w <;> first | exact h | cases hw
theorem lk_xs {w : Cond} (hw : rl_nx w = true) {A B : Array Value} {s : State} (h : w.before A s = true) : w.before B s = true := by
  cases w <;> first | exact h | cases hw
theorem lk_KX {s : State} {b : Nat} (D : va_G) (ids : Nat → ClassId) (hts : ∀ w ∈ lw_tbl, w.before #[Value.ref b] s = true) (hgv : (Jvm.Cond.and given_1 narrow_1).before #[Value.ref b] s = true) : rl_KX (rl_e D ids s.heap) s := by
  have hs := flat_of_before _ hgv
  refine ⟨fun w hw => lk_xs (List.mem_filter.mp hw).2 (hts w (List.mem_append_right _ (List.mem_filter.mp hw).1)), ?_, ?_, fun q hq => ?_, va_Nc.of (hs (.not (.castable "java/lang/IllegalArgumentException" "java/lang/IndexOutOfBoundsException")) (by decide +kernel))⟩
  · exact vx_Zqof (hts (.laysStatic "java/lang/Throwable" "UNASSIGNED_STACK" "[Ljava/lang/StackTraceElement;") (by decide +kernel)) (hts (.initialized "java/lang/Throwable") (by decide +kernel)) (hs (.isRef (.static "java/lang/Throwable" "UNASSIGNED_STACK" "[Ljava/lang/StackTraceElement;")) (by decide +kernel)) (fun a ha => Nat.not_le.mpr ha)
  · exact vx_Zqof (hts (.laysStatic "java/lang/Throwable" "SUPPRESSED_SENTINEL" "Ljava/util/List;") (by decide +kernel)) (hts (.initialized "java/lang/Throwable") (by decide +kernel)) (hs (.isRef (.static "java/lang/Throwable" "SUPPRESSED_SENTINEL" "Ljava/util/List;")) (by decide +kernel)) (fun a ha => Nat.not_le.mpr ha)
  · have g : ∀ (k : Nat) (tx : String), Cond.stringRef RX7 k tx ∈ lw_tbl → (Cond.exactly (.string RX7 k) "java/lang/String").before #[Value.ref b] s = true → ∃ sa, vk_R RX7 k tx sa s := by
      intro k tx h1 h2
      obtain ⟨a, -, -, -, h3, -⟩ := Cond.exactly_spec h2
      exact ⟨a, vk_R.of (hts _ h1) h3⟩
    simp only [rl_strs, List.mem_cons, List.not_mem_nil, or_false] at hq
    rcases hq with rfl | rfl | rfl | rfl
    · exact g _ _ (by decide +kernel) (hs _ (by decide +kernel))
    · exact g _ _ (by decide +kernel) (hs _ (by decide +kernel))
    · exact g _ _ (by decide +kernel) (hs _ (by decide +kernel))
    · exact g _ _ (by decide +kernel) (hs _ (by decide +kernel))
/-- what the law's walk has beside rl_C: the launch, the room, the script, its end -/
def lw_B (X : rl_X) (E : rl_E) (l : Launch) (b L : Nat) (xs : Nat → Int32) : Prop :=
  X.1.2.1 = l ∧ X.1.2.2.2.1 = room_1 ∧ (va_X b L xs X.1.2.2.2.2 E.2.2.2 ∧ b < E.2.2.2.size) ∧ rl_S0 X E ∧ (∀ (pc : Nat) (lo : List (Option Value)) (h : rl_H) (n ce sl : Nat), decode code pc = .ok (.ireturn, 1) → ce ≤ 600002 → sl ≤ 7302232 → rl_G X E pc lo [.int (nI 1)] h n ce sl) ∧ X.2.1.2.2.2.2.maxLocals = 8
section RLW
variable {X : rl_X} {E : rl_E} {cc : ByteArray} {own : String} {Ts Ns : List Cond} {pc : Nat} {lo : List (Option Value)} {st : List Value} {h : rl_H} {n ce sl : Nat} {l : Launch} {b L : Nat} {xs : Nat → Int32}
theorem o_sld (hC : rl_C X E cc own Ts Ns) (hB : lw_B X E l b L xs) {k : Nat} (hk : k < L) (hL : L < 2147483648) (hd : decode cc pc = .ok (.iaload, 1)) (kk : rl_G X E (pc + 1) lo (.int (xs k) :: st) h n ce sl) : rl_G X E pc lo (.int (nI k) :: .ref b :: st) h n ce sl := by
  intro H locs ls a b1 c1
  have hkk := kk H locs ls a b1 c1
  exact va_sld (A := fun q => E.2.2.2.size ≤ q) (H0 := E.2.2.2) hC.1 hC.2.1 hB.2.2.1.1 hB.2.2.1.2 (Nat.not_le.mpr hB.2.2.1.2) ⟨by rw [a.1]; exact a.2.1, fun q h1 _ => a.2.2.1 q h1, b1⟩ (rl_ix hk hL) hd (by rw [rl_cl hk hL]; exact hkk)
theorem o_slen (hC : rl_C X E cc own Ts Ns) (hB : lw_B X E l b L xs) (hd : decode cc pc = .ok (.arraylength, 1)) (kk : rl_G X E (pc + 1) lo (.int (nI L) :: st) h n ce sl) : rl_G X E pc lo (.ref b :: st) h n ce sl := by
  intro H locs ls a b1 c1
  have hkk := kk H locs ls a b1 c1
  exact va_slen (A := fun q => E.2.2.2.size ≤ q) (H0 := E.2.2.2) hC.1 hC.2.1 hB.2.2.1.1 hB.2.2.1.2 (Nat.not_le.mpr hB.2.2.1.2) ⟨by rw [a.1]; exact a.2.1, fun q h1 _ => a.2.2.1 q h1, b1⟩ hd hkk
end RLW
/-- the walk of the law in the abstract machine is a walk of the machine -/
theorem lw_into {p : Program} {e : Env} {s : State} {m : MethodId} {below : List Frame} {meth : Method} {c : Code} (l : Launch) {b L : Nat} {xs : Nat → Int32} (C0 : lw_At p s m meth c b L xs)
    (body : ∀ (D : va_G) (ids : Nat → ClassId) (X : rl_X), rl_C X (rl_e D ids s.heap) cL_law RL rl_BW rl_Ns → lw_B X (rl_e D ids s.heap) l b L xs → rl_G X (rl_e D ids s.heap) 0 (rl_in 8 [.ref b]) [] (fun _ => none) s.heap.size 0 0) : W p l e room_1 s m #[Value.ref b] below meth c s.heap [] 0 0 (lw_Z below #[Value.ref b] s) (entryFrame m ([Value.ref b] : List Value).toArray 8) := by
  obtain ⟨hx, hb, hr, hml, hown, hts, hX, hbl, hlocks, hgv⟩ := C0
  have hts' : ∀ w ∈ rl_BW, w.before #[Value.ref b] s = true := fun w hw => hts w (rl_BW_tbl w hw)
  have hns : ∀ w ∈ rl_Ns, w.before #[] s = true := fun w hw => lk_ns (rl_Ns_nw w hw) (hts w (rl_Ns_tbl w hw))
  obtain ⟨D, ids, hK⟩ := lk_K hts' hns
  have hR : rl_R (rl_e D ids s.heap) (fun _ => none) s.heap.size s.heap := ⟨rfl, Nat.le_refl _, fun _ _ => rfl, fun a e h => by cases h⟩
  have hb0 := body D ids ((p, l, e, room_1, s), (m, #[Value.ref b], below, meth, c), lw_Z below #[Value.ref b] s) ⟨hx, hb, hown, hts', hns, hK, hlocks⟩
    ⟨rfl, rfl, ⟨hX, hbl⟩, ⟨⟨_, _, hR⟩, lk_KX D ids hts hgv⟩, fun pc lo h n ce sl hd h1 h2 H locs ls a b1 c1 => W.widen h1 h2 (va_forget b1 (lw_ret hx hb hr hlocks hd)), hml⟩
  rw [lg_entry_eq]
  exact hb0 s.heap [] _ hR (fun q hq => by cases hq) (rl_in_L (Nat.le_of_ble_eq_true rfl))
end
