/-! a fresh model: what each call answers -/
theorem rl_z0 (x : Int32) : x < 0 ∨ 0 ≤ x := by
  by_cases h : x < 0
  · exact Or.inl h
  · exact Or.inr (Int32.not_lt.mp h)
abbrev md_new (ids : Nat → ClassId) (h : rl_H) (m : Nat) : Prop := md_at ids h m (nI 0) (nI 0) (nI 0) (nI 0) (nI 0) (nI 0) (nI 0) (nI 0) 0 (fun _ => 0) (fun _ => 0) (fun _ => 0) (fun _ => 0) (fun _ => 0) (fun _ => 0) (fun _ => 0) (fun _ => 0) (fun _ => 0) (fun _ => 0) (fun _ => 0) (fun _ => 0) (fun _ => 0) (fun _ => 0) (fun _ => 0) (fun _ => 0) (fun _ => 0) (fun _ => 0) (fun _ => 0) (fun _ => 0) (fun _ => 0) (fun _ => 0)

set_option maxHeartbeats 4000000 in
set_option maxRecDepth 100000 in
theorem ct_X8_isNode (l : Launch) (D : va_G) (ids : Nat → ClassId) (H0 : Heap) (h : rl_H) (n : Nat) (m : Nat) (fs : List Value) (q nc : Int32) (h1 : h m = some (.inr (8, fs))) (h7 : fs[7]? = some (.int nc)) : rl_Met l (rl_e D ids H0) rl_BW rl_Ns yX8_isNode cX8_isNode 2 (some .boolean) ({ frames := 0, cells := 0, slots := 0, locals := 0 }) [.ref m, .int q] h n (fun v h' n' => v = some (.int (if q < 0 ∨ nc ≤ q then nI 0 else nI 1)) ∧ h' = h ∧ n' = n) := by
  refine rl_Met.of (by decide +kernel) (Nat.le_of_ble_eq_true rfl) ?_
  intro X hC hB
  show rl_G X (rl_e D ids H0) 0 [some (.ref m), some (.int q)] [] h n 0 0
  refine o_iload_n hC dX8_isNode_0 (by rfl) ?_
  refine o_if_lt (tgt := 16) hC dX8_isNode_1 (by decide) (fun c_1 => ?_) (fun c_1 => ?_)
  · refine o_iconst (v := nI 0) hC dX8_isNode_16 (by decide +kernel) ?_
    refine o_zret hC hB dX8_isNode_17 (by first | rfl | decide +kernel) (Nat.le_of_ble_eq_true rfl) (Nat.le_of_ble_eq_true rfl) ?_
    refine ⟨?_, rfl, rfl⟩
    first | rw [if_pos (Or.inl c_1)] | rw [if_pos (Or.inr c_9)] | rw [if_neg (fun q => q.elim c_1 c_9)]
  · refine o_iload_n hC dX8_isNode_4 (by rfl) ?_
    refine o_aload_n hC dX8_isNode_5 (by rfl) ?_
    refine o_getf hC (fX8_119 hC rfl) dX8_isNode_6 (by repeat (first | with_reducible assumption | (rw [rl_u_s]; done) | (rw [rl_u_s]; rfl) | rw [rl_u_n (by first | with_reducible assumption | omega)])) (by first | rfl | with_reducible assumption) ?_
    refine o_icmp_ge (tgt := 16) hC dX8_isNode_9 (by decide) (fun c_9 => ?_) (fun c_9 => ?_)
    · refine o_iconst (v := nI 0) hC dX8_isNode_16 (by decide +kernel) ?_
      refine o_zret hC hB dX8_isNode_17 (by first | rfl | decide +kernel) (Nat.le_of_ble_eq_true rfl) (Nat.le_of_ble_eq_true rfl) ?_
      refine ⟨?_, rfl, rfl⟩
      first | rw [if_pos (Or.inl c_1)] | rw [if_pos (Or.inr c_9)] | rw [if_neg (fun q => q.elim c_1 c_9)]
    · refine o_iconst (v := nI 1) hC dX8_isNode_12 (by decide +kernel) ?_
      refine o_goto (tgt := 17) hC dX8_isNode_13 (by decide) ?_
      refine o_zret hC hB dX8_isNode_17 (by first | rfl | decide +kernel) (Nat.le_of_ble_eq_true rfl) (Nat.le_of_ble_eq_true rfl) ?_
      refine ⟨?_, rfl, rfl⟩
      first | rw [if_pos (Or.inl c_1)] | rw [if_pos (Or.inr c_9)] | rw [if_neg (fun q => q.elim c_1 c_9)]

set_option maxHeartbeats 4000000 in
set_option maxRecDepth 100000 in
theorem ct_X8_isTuple (l : Launch) (D : va_G) (ids : Nat → ClassId) (H0 : Heap) (h : rl_H) (n : Nat) (m ta : Nat) (fs : List Value) (q : Int32) (tu : Nat → Int32) (h1 : h m = some (.inr (8, fs))) (h7 : fs[17]? = some (.ref ta)) (h8 : h ta = some (.inl (ids 0, 17, .inl tu))) : rl_Met l (rl_e D ids H0) rl_BW rl_Ns yX8_isTuple cX8_isTuple 2 (some .boolean) ({ frames := 0, cells := 0, slots := 0, locals := 0 }) [.ref m, .int q] h n (fun v h' n' => v = some (.int (if q < 0 ∨ tu 16 ≤ q then nI 0 else nI 1)) ∧ h' = h ∧ n' = n) := by
  refine rl_Met.of (by decide +kernel) (Nat.le_of_ble_eq_true rfl) ?_
  intro X hC hB
  show rl_G X (rl_e D ids H0) 0 [some (.ref m), some (.int q)] [] h n 0 0
  refine o_iload_n hC dX8_isTuple_0 (by rfl) ?_
  refine o_if_lt (tgt := 19) hC dX8_isTuple_1 (by decide) (fun c_1 => ?_) (fun c_1 => ?_)
  · refine o_iconst (v := nI 0) hC dX8_isTuple_19 (by decide +kernel) ?_
    refine o_zret hC hB dX8_isTuple_20 (by first | rfl | decide +kernel) (Nat.le_of_ble_eq_true rfl) (Nat.le_of_ble_eq_true rfl) ?_
    refine ⟨?_, rfl, rfl⟩
    first | rw [if_pos (Or.inl c_1)] | rw [if_pos (Or.inr c_12)] | rw [if_neg (fun q => q.elim c_1 c_12)]
  · refine o_iload_n hC dX8_isTuple_4 (by rfl) ?_
    refine o_aload_n hC dX8_isTuple_5 (by rfl) ?_
    refine o_getf hC (fX8_46 hC rfl) dX8_isTuple_6 (by repeat (first | with_reducible assumption | (rw [rl_u_s]; done) | (rw [rl_u_s]; rfl) | rw [rl_u_n (by first | with_reducible assumption | omega)])) (by first | rfl | with_reducible assumption) ?_
    refine o_bipush (v := nI 16) hC dX8_isTuple_9 (by decide +kernel) ?_
    refine o_ialdN (t0 := 0) hC rfl dX8_isTuple_11 (by repeat (first | with_reducible assumption | (rw [rl_u_s]; done) | (rw [rl_u_s]; rfl) | rw [rl_u_n (by first | with_reducible assumption | omega)])) (by omega) (by decide) ?_
    refine o_icmp_ge (tgt := 19) hC dX8_isTuple_12 (by decide) (fun c_12 => ?_) (fun c_12 => ?_)
    · refine o_iconst (v := nI 0) hC dX8_isTuple_19 (by decide +kernel) ?_
      refine o_zret hC hB dX8_isTuple_20 (by first | rfl | decide +kernel) (Nat.le_of_ble_eq_true rfl) (Nat.le_of_ble_eq_true rfl) ?_
      refine ⟨?_, rfl, rfl⟩
      first | rw [if_pos (Or.inl c_1)] | rw [if_pos (Or.inr c_12)] | rw [if_neg (fun q => q.elim c_1 c_12)]
    · refine o_iconst (v := nI 1) hC dX8_isTuple_15 (by decide +kernel) ?_
      refine o_goto (tgt := 20) hC dX8_isTuple_16 (by decide) ?_
      refine o_zret hC hB dX8_isTuple_20 (by first | rfl | decide +kernel) (Nat.le_of_ble_eq_true rfl) (Nat.le_of_ble_eq_true rfl) ?_
      refine ⟨?_, rfl, rfl⟩
      first | rw [if_pos (Or.inl c_1)] | rw [if_pos (Or.inr c_12)] | rw [if_neg (fun q => q.elim c_1 c_12)]

set_option maxHeartbeats 4000000 in
set_option maxRecDepth 100000 in
theorem fr_X8_row (l : Launch) (D : va_G) (ids : Nat → ClassId) (H0 : Heap) (h : rl_H) (n : Nat) (m : Nat) (s a b c d : Int32) (hm : md_new ids h m) : rl_Met l (rl_e D ids H0) rl_BW rl_Ns yX8_row cX8_row 6 (some .int) ({ frames := 0, cells := 0, slots := 0, locals := 0 }) [.ref m, .int s, .int a, .int b, .int c, .int d] h n (fun v h' n' => v = some (.int (-1)) ∧ n' = n) := by
  obtain ⟨m0, m1, m2, m3, m4, m5, m6, m7, m8, m9, m10, m11, m12, m13, m14, m15, m16, m17, m18, m19, m20, m21, m22⟩ := id hm
  refine rl_Met.of (by decide +kernel) (Nat.le_of_ble_eq_true rfl) ?_
  intro X hC hB
  show rl_G X (rl_e D ids H0) 0 [some (.ref m), some (.int s), some (.int a), some (.int b), some (.int c), some (.int d)] [] h n 0 0
  refine o_aload_n hC dX8_row_0 (by rfl) ?_
  refine o_iconst (v := nI 0) hC dX8_row_1 (by decide +kernel) ?_
  refine o_putf hC (fX8_78 hC rfl) (fwX8 rfl rfl rfl (Or.inl rfl)) dX8_row_2 (by repeat (first | with_reducible assumption | (rw [rl_u_s]; done) | (rw [rl_u_s]; rfl) | rw [rl_u_n (by first | with_reducible assumption | omega)])) (Nat.le_of_ble_eq_true rfl) ?_
  try simp only [List.set_cons_zero, List.set_cons_succ]
  refine o_iload_n hC dX8_row_5 (by rfl) ?_
  refine o_if_lt (tgt := 17) hC dX8_row_6 (by decide) (fun c_6 => ?_) (fun c_6 => ?_)
  · refine o_iconst (v := (-1 : Int32)) hC dX8_row_17 (by decide +kernel) ?_
    refine o_iret hC hB dX8_row_18 (Nat.le_of_ble_eq_true rfl) (Nat.le_of_ble_eq_true rfl) ?_
    exact ⟨rfl, rfl⟩
  · refine o_iload_n hC dX8_row_9 (by rfl) ?_
    refine o_aload_n hC dX8_row_10 (by rfl) ?_
    refine o_getf hC (fX8_109 hC rfl) dX8_row_11 (by repeat (first | with_reducible assumption | (rw [rl_u_s]; done) | (rw [rl_u_s]; rfl) | rw [rl_u_n (by first | with_reducible assumption | omega)])) (by first | rfl | with_reducible assumption) ?_
    refine o_icmp_lt (tgt := 19) hC dX8_row_14 (by decide) (fun c_14 => ?_) (fun c_14 => ?_)
    · exact absurd c_14 (by rw [nI_0]; exact c_6)
    · refine o_iconst (v := (-1 : Int32)) hC dX8_row_17 (by decide +kernel) ?_
      refine o_iret hC hB dX8_row_18 (Nat.le_of_ble_eq_true rfl) (Nat.le_of_ble_eq_true rfl) ?_
      exact ⟨rfl, rfl⟩

set_option maxHeartbeats 4000000 in
set_option maxRecDepth 100000 in
theorem fr_X8_scan (l : Launch) (D : va_G) (ids : Nat → ClassId) (H0 : Heap) (h : rl_H) (n : Nat) (m : Nat) (s : Int32) (hm : md_new ids h m) : rl_Met l (rl_e D ids H0) rl_BW rl_Ns yX8_scan cX8_scan 2 (some .int) ({ frames := 0, cells := 0, slots := 0, locals := 0 }) [.ref m, .int s] h n (fun v h' n' => v = some (.int (-1)) ∧ n' = n) := by
  obtain ⟨m0, m1, m2, m3, m4, m5, m6, m7, m8, m9, m10, m11, m12, m13, m14, m15, m16, m17, m18, m19, m20, m21, m22⟩ := id hm
  refine rl_Met.of (by decide +kernel) (Nat.le_of_ble_eq_true rfl) ?_
  intro X hC hB
  show rl_G X (rl_e D ids H0) 0 [some (.ref m), some (.int s)] [] h n 0 0
  refine o_aload_n hC dX8_scan_0 (by rfl) ?_
  refine o_iconst (v := nI 0) hC dX8_scan_1 (by decide +kernel) ?_
  refine o_putf hC (fX8_78 hC rfl) (fwX8 rfl rfl rfl (Or.inl rfl)) dX8_scan_2 (by repeat (first | with_reducible assumption | (rw [rl_u_s]; done) | (rw [rl_u_s]; rfl) | rw [rl_u_n (by first | with_reducible assumption | omega)])) (Nat.le_of_ble_eq_true rfl) ?_
  try simp only [List.set_cons_zero, List.set_cons_succ]
  refine o_iload_n hC dX8_scan_5 (by rfl) ?_
  refine o_if_lt (tgt := 17) hC dX8_scan_6 (by decide) (fun c_6 => ?_) (fun c_6 => ?_)
  · refine o_iconst (v := (-1 : Int32)) hC dX8_scan_17 (by decide +kernel) ?_
    refine o_iret hC hB dX8_scan_18 (Nat.le_of_ble_eq_true rfl) (Nat.le_of_ble_eq_true rfl) ?_
    exact ⟨rfl, rfl⟩
  · refine o_iload_n hC dX8_scan_9 (by rfl) ?_
    refine o_aload_n hC dX8_scan_10 (by rfl) ?_
    refine o_getf hC (fX8_109 hC rfl) dX8_scan_11 (by repeat (first | with_reducible assumption | (rw [rl_u_s]; done) | (rw [rl_u_s]; rfl) | rw [rl_u_n (by first | with_reducible assumption | omega)])) (by first | rfl | with_reducible assumption) ?_
    refine o_icmp_lt (tgt := 19) hC dX8_scan_14 (by decide) (fun c_14 => ?_) (fun c_14 => ?_)
    · exact absurd c_14 (by rw [nI_0]; exact c_6)
    · refine o_iconst (v := (-1 : Int32)) hC dX8_scan_17 (by decide +kernel) ?_
      refine o_iret hC hB dX8_scan_18 (Nat.le_of_ble_eq_true rfl) (Nat.le_of_ble_eq_true rfl) ?_
      exact ⟨rfl, rfl⟩

set_option maxHeartbeats 4000000 in
set_option maxRecDepth 100000 in
theorem fr_X8_drop (l : Launch) (D : va_G) (ids : Nat → ClassId) (H0 : Heap) (h : rl_H) (n : Nat) (m : Nat) (r b : Int32) (hm : md_new ids h m) : rl_Met l (rl_e D ids H0) rl_BW rl_Ns yX8_drop cX8_drop 4 (some .int) ({ frames := 0, cells := 0, slots := 0, locals := 0 }) [.ref m, .int r, .int b] h n (fun v h' n' => v = some (.int (-1)) ∧ n' = n) := by
  obtain ⟨m0, m1, m2, m3, m4, m5, m6, m7, m8, m9, m10, m11, m12, m13, m14, m15, m16, m17, m18, m19, m20, m21, m22⟩ := id hm
  refine rl_Met.of (by decide +kernel) (Nat.le_of_ble_eq_true rfl) ?_
  intro X hC hB
  show rl_G X (rl_e D ids H0) 0 [some (.ref m), some (.int r), some (.int b), none] [] h n 0 0
  refine o_aload_n hC dX8_drop_0 (by rfl) ?_
  refine o_iconst (v := nI 0) hC dX8_drop_1 (by decide +kernel) ?_
  refine o_putf hC (fX8_78 hC rfl) (fwX8 rfl rfl rfl (Or.inl rfl)) dX8_drop_2 (by repeat (first | with_reducible assumption | (rw [rl_u_s]; done) | (rw [rl_u_s]; rfl) | rw [rl_u_n (by first | with_reducible assumption | omega)])) (Nat.le_of_ble_eq_true rfl) ?_
  try simp only [List.set_cons_zero, List.set_cons_succ]
  refine o_iload_n hC dX8_drop_5 (by rfl) ?_
  refine o_if_lt (tgt := 17) hC dX8_drop_6 (by decide) (fun c_6 => ?_) (fun c_6 => ?_)
  · refine o_iconst (v := (-1 : Int32)) hC dX8_drop_17 (by decide +kernel) ?_
    refine o_iret hC hB dX8_drop_18 (Nat.le_of_ble_eq_true rfl) (Nat.le_of_ble_eq_true rfl) ?_
    exact ⟨rfl, rfl⟩
  · refine o_iload_n hC dX8_drop_9 (by rfl) ?_
    refine o_aload_n hC dX8_drop_10 (by rfl) ?_
    refine o_getf hC (fX8_112 hC rfl) dX8_drop_11 (by repeat (first | with_reducible assumption | (rw [rl_u_s]; done) | (rw [rl_u_s]; rfl) | rw [rl_u_n (by first | with_reducible assumption | omega)])) (by first | rfl | with_reducible assumption) ?_
    refine o_icmp_lt (tgt := 19) hC dX8_drop_14 (by decide) (fun c_14 => ?_) (fun c_14 => ?_)
    · exact absurd c_14 (by rw [nI_0]; exact c_6)
    · refine o_iconst (v := (-1 : Int32)) hC dX8_drop_17 (by decide +kernel) ?_
      refine o_iret hC hB dX8_drop_18 (Nat.le_of_ble_eq_true rfl) (Nat.le_of_ble_eq_true rfl) ?_
      exact ⟨rfl, rfl⟩

set_option maxHeartbeats 4000000 in
set_option maxRecDepth 100000 in
theorem fr_X8_forward (l : Launch) (D : va_G) (ids : Nat → ClassId) (H0 : Heap) (h : rl_H) (n : Nat) (m : Nat) (r : Int32) (hm : md_new ids h m) : rl_Met l (rl_e D ids H0) rl_BW rl_Ns yX8_forward cX8_forward 4 (some .int) ({ frames := 0, cells := 0, slots := 0, locals := 0 }) [.ref m, .int r] h n (fun v h' n' => v = some (.int (-1)) ∧ n' = n) := by
  obtain ⟨m0, m1, m2, m3, m4, m5, m6, m7, m8, m9, m10, m11, m12, m13, m14, m15, m16, m17, m18, m19, m20, m21, m22⟩ := id hm
  refine rl_Met.of (by decide +kernel) (Nat.le_of_ble_eq_true rfl) ?_
  intro X hC hB
  show rl_G X (rl_e D ids H0) 0 [some (.ref m), some (.int r), none, none] [] h n 0 0
  refine o_aload_n hC dX8_forward_0 (by rfl) ?_
  refine o_iconst (v := nI 0) hC dX8_forward_1 (by decide +kernel) ?_
  refine o_putf hC (fX8_78 hC rfl) (fwX8 rfl rfl rfl (Or.inl rfl)) dX8_forward_2 (by repeat (first | with_reducible assumption | (rw [rl_u_s]; done) | (rw [rl_u_s]; rfl) | rw [rl_u_n (by first | with_reducible assumption | omega)])) (Nat.le_of_ble_eq_true rfl) ?_
  try simp only [List.set_cons_zero, List.set_cons_succ]
  refine o_iload_n hC dX8_forward_5 (by rfl) ?_
  refine o_if_lt (tgt := 17) hC dX8_forward_6 (by decide) (fun c_6 => ?_) (fun c_6 => ?_)
  · refine o_iconst (v := (-1 : Int32)) hC dX8_forward_17 (by decide +kernel) ?_
    refine o_iret hC hB dX8_forward_18 (Nat.le_of_ble_eq_true rfl) (Nat.le_of_ble_eq_true rfl) ?_
    exact ⟨rfl, rfl⟩
  · refine o_iload_n hC dX8_forward_9 (by rfl) ?_
    refine o_aload_n hC dX8_forward_10 (by rfl) ?_
    refine o_getf hC (fX8_112 hC rfl) dX8_forward_11 (by repeat (first | with_reducible assumption | (rw [rl_u_s]; done) | (rw [rl_u_s]; rfl) | rw [rl_u_n (by first | with_reducible assumption | omega)])) (by first | rfl | with_reducible assumption) ?_
    refine o_icmp_lt (tgt := 19) hC dX8_forward_14 (by decide) (fun c_14 => ?_) (fun c_14 => ?_)
    · exact absurd c_14 (by rw [nI_0]; exact c_6)
    · refine o_iconst (v := (-1 : Int32)) hC dX8_forward_17 (by decide +kernel) ?_
      refine o_iret hC hB dX8_forward_18 (Nat.le_of_ble_eq_true rfl) (Nat.le_of_ble_eq_true rfl) ?_
      exact ⟨rfl, rfl⟩

set_option maxHeartbeats 4000000 in
set_option maxRecDepth 100000 in
theorem fr_X8_pick (l : Launch) (D : va_G) (ids : Nat → ClassId) (H0 : Heap) (h : rl_H) (n : Nat) (m : Nat) (a b c d e : Int32) (hm : md_new ids h m) : rl_Met l (rl_e D ids H0) rl_BW rl_Ns yX8_pick cX8_pick 6 (some .int) ({ frames := 1, cells := 0, slots := 0, locals := 21 }) [.ref m, .int a, .int b, .int c, .int d, .int e] h n (fun v h' n' => v = some (.int (-1)) ∧ n' = n) := by
  obtain ⟨m0, m1, m2, m3, m4, m5, m6, m7, m8, m9, m10, m11, m12, m13, m14, m15, m16, m17, m18, m19, m20, m21, m22⟩ := id hm
  refine rl_Met.of (by decide +kernel) (Nat.le_of_ble_eq_true rfl) ?_
  intro X hC hB
  show rl_G X (rl_e D ids H0) 0 [some (.ref m), some (.int a), some (.int b), some (.int c), some (.int d), some (.int e)] [] h n 0 0
  refine o_aload_n hC dX8_pick_0 (by rfl) ?_
  refine o_iconst (v := nI 0) hC dX8_pick_1 (by decide +kernel) ?_
  refine o_putf hC (fX8_78 hC rfl) (fwX8 rfl rfl rfl (Or.inl rfl)) dX8_pick_2 (by repeat (first | with_reducible assumption | (rw [rl_u_s]; done) | (rw [rl_u_s]; rfl) | rw [rl_u_n (by first | with_reducible assumption | omega)])) (Nat.le_of_ble_eq_true rfl) ?_
  try simp only [List.set_cons_zero, List.set_cons_succ]
  refine o_aload_n hC dX8_pick_5 (by rfl) ?_
  refine o_iload_n hC dX8_pick_6 (by rfl) ?_
  refine o_callV1 hC rl_BW_good rl_Ns_nw (by exact hB.2.2.2.2.2) YX8_isNode IX8_isNode VX8_isNode (mX8_126 hC) (by rw [hB.1]; exact ct_X8_isNode l D ids H0 _ n m _ _ _ (by repeat (first | with_reducible assumption | (rw [rl_u_s]; done) | (rw [rl_u_s]; rfl) | rw [rl_u_n (by first | with_reducible assumption | omega)])) rfl) (by repeat (first | with_reducible assumption | (rw [rl_u_s]; done) | (rw [rl_u_s]; rfl) | rw [rl_u_n (by first | with_reducible assumption | omega)])) rfl rfl (Nat.le_of_ble_eq_true rfl) (by rw [hB.2.1]; first | exact Nat.le_of_ble_eq_true rfl | (dsimp only; omega)) (by rw [hB.2.1]; first | exact Nat.le_of_ble_eq_true rfl | (dsimp only; omega)) (by rw [hB.2.1]; first | exact Nat.le_of_ble_eq_true rfl | (dsimp only; omega)) (by rw [hB.2.1]; first | exact Nat.le_of_ble_eq_true rfl | (dsimp only; omega)) dX8_pick_7 (fun v h_7 n_7 p_7 => ?_)
  obtain ⟨rfl, rfl, rfl⟩ := p_7
  rw [if_pos (rl_n0 _)]
  try dsimp only [Option.toList, List.cons_append, List.nil_append]
  refine o_if_eq (tgt := 38) hC dX8_pick_10 (by decide) (fun c_10 => ?_) (fun c_10 => ?_)
  · refine o_iconst (v := (-1 : Int32)) hC dX8_pick_38 (by decide +kernel) ?_
    refine o_iret hC hB dX8_pick_39 (Nat.le_of_ble_eq_true rfl) (Nat.le_of_ble_eq_true rfl) ?_
    exact ⟨rfl, rfl⟩
  · exact absurd rfl c_10

set_option maxHeartbeats 4000000 in
set_option maxRecDepth 100000 in
theorem fr_X8_cols (l : Launch) (D : va_G) (ids : Nat → ClassId) (H0 : Heap) (h : rl_H) (n : Nat) (m : Nat) (a b : Int32) (hm : md_new ids h m) : rl_Met l (rl_e D ids H0) rl_BW rl_Ns yX8_cols cX8_cols 6 (some .int) ({ frames := 1, cells := 0, slots := 0, locals := 21 }) [.ref m, .int a, .int b] h n (fun v h' n' => v = some (.int (-1)) ∧ n' = n) := by
  obtain ⟨m0, m1, m2, m3, m4, m5, m6, m7, m8, m9, m10, m11, m12, m13, m14, m15, m16, m17, m18, m19, m20, m21, m22⟩ := id hm
  refine rl_Met.of (by decide +kernel) (Nat.le_of_ble_eq_true rfl) ?_
  intro X hC hB
  show rl_G X (rl_e D ids H0) 0 [some (.ref m), some (.int a), some (.int b), none, none, none] [] h n 0 0
  refine o_aload_n hC dX8_cols_0 (by rfl) ?_
  refine o_iconst (v := nI 0) hC dX8_cols_1 (by decide +kernel) ?_
  refine o_putf hC (fX8_78 hC rfl) (fwX8 rfl rfl rfl (Or.inl rfl)) dX8_cols_2 (by repeat (first | with_reducible assumption | (rw [rl_u_s]; done) | (rw [rl_u_s]; rfl) | rw [rl_u_n (by first | with_reducible assumption | omega)])) (Nat.le_of_ble_eq_true rfl) ?_
  try simp only [List.set_cons_zero, List.set_cons_succ]
  refine o_aload_n hC dX8_cols_5 (by rfl) ?_
  refine o_iload_n hC dX8_cols_6 (by rfl) ?_
  refine o_callV1 hC rl_BW_good rl_Ns_nw (by exact hB.2.2.2.2.2) YX8_isNode IX8_isNode VX8_isNode (mX8_126 hC) (by rw [hB.1]; exact ct_X8_isNode l D ids H0 _ n m _ _ _ (by repeat (first | with_reducible assumption | (rw [rl_u_s]; done) | (rw [rl_u_s]; rfl) | rw [rl_u_n (by first | with_reducible assumption | omega)])) rfl) (by repeat (first | with_reducible assumption | (rw [rl_u_s]; done) | (rw [rl_u_s]; rfl) | rw [rl_u_n (by first | with_reducible assumption | omega)])) rfl rfl (Nat.le_of_ble_eq_true rfl) (by rw [hB.2.1]; first | exact Nat.le_of_ble_eq_true rfl | (dsimp only; omega)) (by rw [hB.2.1]; first | exact Nat.le_of_ble_eq_true rfl | (dsimp only; omega)) (by rw [hB.2.1]; first | exact Nat.le_of_ble_eq_true rfl | (dsimp only; omega)) (by rw [hB.2.1]; first | exact Nat.le_of_ble_eq_true rfl | (dsimp only; omega)) dX8_cols_7 (fun v h_7 n_7 p_7 => ?_)
  obtain ⟨rfl, rfl, rfl⟩ := p_7
  rw [if_pos (rl_n0 _)]
  try dsimp only [Option.toList, List.cons_append, List.nil_append]
  refine o_if_ne (tgt := 15) hC dX8_cols_10 (by decide) (fun c_10 => ?_) (fun c_10 => ?_)
  · exact absurd rfl c_10
  · refine o_iconst (v := (-1 : Int32)) hC dX8_cols_13 (by decide +kernel) ?_
    refine o_iret hC hB dX8_cols_14 (Nat.le_of_ble_eq_true rfl) (Nat.le_of_ble_eq_true rfl) ?_
    exact ⟨rfl, rfl⟩

set_option maxHeartbeats 4000000 in
set_option maxRecDepth 100000 in
theorem fr_X8_join (l : Launch) (D : va_G) (ids : Nat → ClassId) (H0 : Heap) (h : rl_H) (n : Nat) (m : Nat) (a b c d : Int32) (hm : md_new ids h m) : rl_Met l (rl_e D ids H0) rl_BW rl_Ns yX8_join cX8_join 6 (some .int) ({ frames := 1, cells := 0, slots := 0, locals := 21 }) [.ref m, .int a, .int b, .int c, .int d] h n (fun v h' n' => v = some (.int (-1)) ∧ n' = n) := by
  obtain ⟨m0, m1, m2, m3, m4, m5, m6, m7, m8, m9, m10, m11, m12, m13, m14, m15, m16, m17, m18, m19, m20, m21, m22⟩ := id hm
  refine rl_Met.of (by decide +kernel) (Nat.le_of_ble_eq_true rfl) ?_
  intro X hC hB
  show rl_G X (rl_e D ids H0) 0 [some (.ref m), some (.int a), some (.int b), some (.int c), some (.int d), none] [] h n 0 0
  refine o_aload_n hC dX8_join_0 (by rfl) ?_
  refine o_iconst (v := nI 0) hC dX8_join_1 (by decide +kernel) ?_
  refine o_putf hC (fX8_78 hC rfl) (fwX8 rfl rfl rfl (Or.inl rfl)) dX8_join_2 (by repeat (first | with_reducible assumption | (rw [rl_u_s]; done) | (rw [rl_u_s]; rfl) | rw [rl_u_n (by first | with_reducible assumption | omega)])) (Nat.le_of_ble_eq_true rfl) ?_
  try simp only [List.set_cons_zero, List.set_cons_succ]
  refine o_aload_n hC dX8_join_5 (by rfl) ?_
  refine o_iload_n hC dX8_join_6 (by rfl) ?_
  refine o_callV1 hC rl_BW_good rl_Ns_nw (by exact hB.2.2.2.2.2) YX8_isNode IX8_isNode VX8_isNode (mX8_126 hC) (by rw [hB.1]; exact ct_X8_isNode l D ids H0 _ n m _ _ _ (by repeat (first | with_reducible assumption | (rw [rl_u_s]; done) | (rw [rl_u_s]; rfl) | rw [rl_u_n (by first | with_reducible assumption | omega)])) rfl) (by repeat (first | with_reducible assumption | (rw [rl_u_s]; done) | (rw [rl_u_s]; rfl) | rw [rl_u_n (by first | with_reducible assumption | omega)])) rfl rfl (Nat.le_of_ble_eq_true rfl) (by rw [hB.2.1]; first | exact Nat.le_of_ble_eq_true rfl | (dsimp only; omega)) (by rw [hB.2.1]; first | exact Nat.le_of_ble_eq_true rfl | (dsimp only; omega)) (by rw [hB.2.1]; first | exact Nat.le_of_ble_eq_true rfl | (dsimp only; omega)) (by rw [hB.2.1]; first | exact Nat.le_of_ble_eq_true rfl | (dsimp only; omega)) dX8_join_7 (fun v h_7 n_7 p_7 => ?_)
  obtain ⟨rfl, rfl, rfl⟩ := p_7
  rw [if_pos (rl_n0 _)]
  try dsimp only [Option.toList, List.cons_append, List.nil_append]
  refine o_if_eq (tgt := 40) hC dX8_join_10 (by decide) (fun c_10 => ?_) (fun c_10 => ?_)
  · refine o_iconst (v := (-1 : Int32)) hC dX8_join_40 (by decide +kernel) ?_
    refine o_iret hC hB dX8_join_41 (Nat.le_of_ble_eq_true rfl) (Nat.le_of_ble_eq_true rfl) ?_
    exact ⟨rfl, rfl⟩
  · exact absurd rfl c_10

set_option maxHeartbeats 4000000 in
set_option maxRecDepth 100000 in
theorem fr_X8_fold (l : Launch) (D : va_G) (ids : Nat → ClassId) (H0 : Heap) (h : rl_H) (n : Nat) (m : Nat) (a b c d : Int32) (hm : md_new ids h m) : rl_Met l (rl_e D ids H0) rl_BW rl_Ns yX8_fold cX8_fold 5 (some .int) ({ frames := 1, cells := 0, slots := 0, locals := 21 }) [.ref m, .int a, .int b, .int c, .int d] h n (fun v h' n' => v = some (.int (-1)) ∧ n' = n) := by
  obtain ⟨m0, m1, m2, m3, m4, m5, m6, m7, m8, m9, m10, m11, m12, m13, m14, m15, m16, m17, m18, m19, m20, m21, m22⟩ := id hm
  refine rl_Met.of (by decide +kernel) (Nat.le_of_ble_eq_true rfl) ?_
  intro X hC hB
  show rl_G X (rl_e D ids H0) 0 [some (.ref m), some (.int a), some (.int b), some (.int c), some (.int d)] [] h n 0 0
  refine o_aload_n hC dX8_fold_0 (by rfl) ?_
  refine o_iconst (v := nI 0) hC dX8_fold_1 (by decide +kernel) ?_
  refine o_putf hC (fX8_78 hC rfl) (fwX8 rfl rfl rfl (Or.inl rfl)) dX8_fold_2 (by repeat (first | with_reducible assumption | (rw [rl_u_s]; done) | (rw [rl_u_s]; rfl) | rw [rl_u_n (by first | with_reducible assumption | omega)])) (Nat.le_of_ble_eq_true rfl) ?_
  try simp only [List.set_cons_zero, List.set_cons_succ]
  refine o_aload_n hC dX8_fold_5 (by rfl) ?_
  refine o_iload_n hC dX8_fold_6 (by rfl) ?_
  refine o_callV1 hC rl_BW_good rl_Ns_nw (by exact hB.2.2.2.2.2) YX8_isNode IX8_isNode VX8_isNode (mX8_126 hC) (by rw [hB.1]; exact ct_X8_isNode l D ids H0 _ n m _ _ _ (by repeat (first | with_reducible assumption | (rw [rl_u_s]; done) | (rw [rl_u_s]; rfl) | rw [rl_u_n (by first | with_reducible assumption | omega)])) rfl) (by repeat (first | with_reducible assumption | (rw [rl_u_s]; done) | (rw [rl_u_s]; rfl) | rw [rl_u_n (by first | with_reducible assumption | omega)])) rfl rfl (Nat.le_of_ble_eq_true rfl) (by rw [hB.2.1]; first | exact Nat.le_of_ble_eq_true rfl | (dsimp only; omega)) (by rw [hB.2.1]; first | exact Nat.le_of_ble_eq_true rfl | (dsimp only; omega)) (by rw [hB.2.1]; first | exact Nat.le_of_ble_eq_true rfl | (dsimp only; omega)) (by rw [hB.2.1]; first | exact Nat.le_of_ble_eq_true rfl | (dsimp only; omega)) dX8_fold_7 (fun v h_7 n_7 p_7 => ?_)
  obtain ⟨rfl, rfl, rfl⟩ := p_7
  rw [if_pos (rl_n0 _)]
  try dsimp only [Option.toList, List.cons_append, List.nil_append]
  refine o_if_eq (tgt := 31) hC dX8_fold_10 (by decide) (fun c_10 => ?_) (fun c_10 => ?_)
  · refine o_iconst (v := (-1 : Int32)) hC dX8_fold_31 (by decide +kernel) ?_
    refine o_iret hC hB dX8_fold_32 (Nat.le_of_ble_eq_true rfl) (Nat.le_of_ble_eq_true rfl) ?_
    exact ⟨rfl, rfl⟩
  · exact absurd rfl c_10

set_option maxHeartbeats 4000000 in
set_option maxRecDepth 100000 in
theorem fr_X8_columns (l : Launch) (D : va_G) (ids : Nat → ClassId) (H0 : Heap) (h : rl_H) (n : Nat) (m : Nat) (a : Int32) (hm : md_new ids h m) : rl_Met l (rl_e D ids H0) rl_BW rl_Ns yX8_columns cX8_columns 2 (some .int) ({ frames := 1, cells := 0, slots := 0, locals := 21 }) [.ref m, .int a] h n (fun v h' n' => v = some (.int (-1)) ∧ n' = n) := by
  obtain ⟨m0, m1, m2, m3, m4, m5, m6, m7, m8, m9, m10, m11, m12, m13, m14, m15, m16, m17, m18, m19, m20, m21, m22⟩ := id hm
  refine rl_Met.of (by decide +kernel) (Nat.le_of_ble_eq_true rfl) ?_
  intro X hC hB
  show rl_G X (rl_e D ids H0) 0 [some (.ref m), some (.int a)] [] h n 0 0
  refine o_aload_n hC dX8_columns_0 (by rfl) ?_
  refine o_iconst (v := nI 0) hC dX8_columns_1 (by decide +kernel) ?_
  refine o_putf hC (fX8_78 hC rfl) (fwX8 rfl rfl rfl (Or.inl rfl)) dX8_columns_2 (by repeat (first | with_reducible assumption | (rw [rl_u_s]; done) | (rw [rl_u_s]; rfl) | rw [rl_u_n (by first | with_reducible assumption | omega)])) (Nat.le_of_ble_eq_true rfl) ?_
  try simp only [List.set_cons_zero, List.set_cons_succ]
  refine o_aload_n hC dX8_columns_5 (by rfl) ?_
  refine o_iload_n hC dX8_columns_6 (by rfl) ?_
  refine o_callV1 hC rl_BW_good rl_Ns_nw (by exact hB.2.2.2.2.2) YX8_isNode IX8_isNode VX8_isNode (mX8_126 hC) (by rw [hB.1]; exact ct_X8_isNode l D ids H0 _ n m _ _ _ (by repeat (first | with_reducible assumption | (rw [rl_u_s]; done) | (rw [rl_u_s]; rfl) | rw [rl_u_n (by first | with_reducible assumption | omega)])) rfl) (by repeat (first | with_reducible assumption | (rw [rl_u_s]; done) | (rw [rl_u_s]; rfl) | rw [rl_u_n (by first | with_reducible assumption | omega)])) rfl rfl (Nat.le_of_ble_eq_true rfl) (by rw [hB.2.1]; first | exact Nat.le_of_ble_eq_true rfl | (dsimp only; omega)) (by rw [hB.2.1]; first | exact Nat.le_of_ble_eq_true rfl | (dsimp only; omega)) (by rw [hB.2.1]; first | exact Nat.le_of_ble_eq_true rfl | (dsimp only; omega)) (by rw [hB.2.1]; first | exact Nat.le_of_ble_eq_true rfl | (dsimp only; omega)) dX8_columns_7 (fun v h_7 n_7 p_7 => ?_)
  obtain ⟨rfl, rfl, rfl⟩ := p_7
  rw [if_pos (rl_n0 _)]
  try dsimp only [Option.toList, List.cons_append, List.nil_append]
  refine o_if_eq (tgt := 22) hC dX8_columns_10 (by decide) (fun c_10 => ?_) (fun c_10 => ?_)
  · refine o_iconst (v := (-1 : Int32)) hC dX8_columns_22 (by decide +kernel) ?_
    refine o_iret hC hB dX8_columns_23 (Nat.le_of_ble_eq_true rfl) (Nat.le_of_ble_eq_true rfl) ?_
    exact ⟨rfl, rfl⟩
  · exact absurd rfl c_10

set_option maxHeartbeats 4000000 in
set_option maxRecDepth 100000 in
theorem fr_X8_run (l : Launch) (D : va_G) (ids : Nat → ClassId) (H0 : Heap) (h : rl_H) (n : Nat) (m : Nat) (a : Int32) (hm : md_new ids h m) : rl_Met l (rl_e D ids H0) rl_BW rl_Ns yX8_run cX8_run 4 (some .int) ({ frames := 1, cells := 0, slots := 0, locals := 21 }) [.ref m, .int a] h n (fun v h' n' => v = some (.int (-1)) ∧ n' = n) := by
  obtain ⟨m0, m1, m2, m3, m4, m5, m6, m7, m8, m9, m10, m11, m12, m13, m14, m15, m16, m17, m18, m19, m20, m21, m22⟩ := id hm
  refine rl_Met.of (by decide +kernel) (Nat.le_of_ble_eq_true rfl) ?_
  intro X hC hB
  show rl_G X (rl_e D ids H0) 0 [some (.ref m), some (.int a), none, none] [] h n 0 0
  refine o_aload_n hC dX8_run_0 (by rfl) ?_
  refine o_iconst (v := nI 0) hC dX8_run_1 (by decide +kernel) ?_
  refine o_putf hC (fX8_78 hC rfl) (fwX8 rfl rfl rfl (Or.inl rfl)) dX8_run_2 (by repeat (first | with_reducible assumption | (rw [rl_u_s]; done) | (rw [rl_u_s]; rfl) | rw [rl_u_n (by first | with_reducible assumption | omega)])) (Nat.le_of_ble_eq_true rfl) ?_
  try simp only [List.set_cons_zero, List.set_cons_succ]
  refine o_aload_n hC dX8_run_5 (by rfl) ?_
  refine o_iload_n hC dX8_run_6 (by rfl) ?_
  refine o_callV1 hC rl_BW_good rl_Ns_nw (by exact hB.2.2.2.2.2) YX8_isNode IX8_isNode VX8_isNode (mX8_126 hC) (by rw [hB.1]; exact ct_X8_isNode l D ids H0 _ n m _ _ _ (by repeat (first | with_reducible assumption | (rw [rl_u_s]; done) | (rw [rl_u_s]; rfl) | rw [rl_u_n (by first | with_reducible assumption | omega)])) rfl) (by repeat (first | with_reducible assumption | (rw [rl_u_s]; done) | (rw [rl_u_s]; rfl) | rw [rl_u_n (by first | with_reducible assumption | omega)])) rfl rfl (Nat.le_of_ble_eq_true rfl) (by rw [hB.2.1]; first | exact Nat.le_of_ble_eq_true rfl | (dsimp only; omega)) (by rw [hB.2.1]; first | exact Nat.le_of_ble_eq_true rfl | (dsimp only; omega)) (by rw [hB.2.1]; first | exact Nat.le_of_ble_eq_true rfl | (dsimp only; omega)) (by rw [hB.2.1]; first | exact Nat.le_of_ble_eq_true rfl | (dsimp only; omega)) dX8_run_7 (fun v h_7 n_7 p_7 => ?_)
  obtain ⟨rfl, rfl, rfl⟩ := p_7
  rw [if_pos (rl_n0 _)]
  try dsimp only [Option.toList, List.cons_append, List.nil_append]
  refine o_if_ne (tgt := 15) hC dX8_run_10 (by decide) (fun c_10 => ?_) (fun c_10 => ?_)
  · exact absurd rfl c_10
  · refine o_iconst (v := (-1 : Int32)) hC dX8_run_13 (by decide +kernel) ?_
    refine o_iret hC hB dX8_run_14 (Nat.le_of_ble_eq_true rfl) (Nat.le_of_ble_eq_true rfl) ?_
    exact ⟨rfl, rfl⟩

set_option maxHeartbeats 4000000 in
set_option maxRecDepth 100000 in
theorem fr_X8_pair (l : Launch) (D : va_G) (ids : Nat → ClassId) (H0 : Heap) (h : rl_H) (n : Nat) (m : Nat) (fs : List Value) (o a b : Int32) (h1 : h m = some (.inr (8, fs))) (h7 : fs[7]? = some (.int (nI 0))) : rl_Met l (rl_e D ids H0) rl_BW rl_Ns yX8_pair cX8_pair 4 (some .int) ({ frames := 1, cells := 0, slots := 0, locals := 21 }) [.ref m, .int o, .int a, .int b] h n (fun v h' n' => v = some (.int (-1)) ∧ n' = n) := by
  refine rl_Met.of (by decide +kernel) (Nat.le_of_ble_eq_true rfl) ?_
  intro X hC hB
  show rl_G X (rl_e D ids H0) 0 [some (.ref m), some (.int o), some (.int a), some (.int b)] [] h n 0 0
  refine o_aload_n hC dX8_pair_0 (by rfl) ?_
  refine o_iload_n hC dX8_pair_1 (by rfl) ?_
  refine o_callV1 hC rl_BW_good rl_Ns_nw (by exact hB.2.2.2.2.2) YX8_isNode IX8_isNode VX8_isNode (mX8_126 hC) (by rw [hB.1]; exact ct_X8_isNode l D ids H0 h n m fs _ _ h1 h7) (by exact h1) rfl rfl (Nat.le_of_ble_eq_true rfl) (by rw [hB.2.1]; first | exact Nat.le_of_ble_eq_true rfl | (dsimp only; omega)) (by rw [hB.2.1]; first | exact Nat.le_of_ble_eq_true rfl | (dsimp only; omega)) (by rw [hB.2.1]; first | exact Nat.le_of_ble_eq_true rfl | (dsimp only; omega)) (by rw [hB.2.1]; first | exact Nat.le_of_ble_eq_true rfl | (dsimp only; omega)) dX8_pair_2 (fun v h_2 n_2 p_2 => ?_)
  obtain ⟨rfl, rfl, rfl⟩ := p_2
  rw [if_pos (rl_n0 _)]
  try dsimp only [Option.toList, List.cons_append, List.nil_append]
  refine o_if_eq (tgt := 16) hC dX8_pair_5 (by decide) (fun c_5 => ?_) (fun c_5 => ?_)
  · refine o_iconst (v := (-1 : Int32)) hC dX8_pair_16 (by decide +kernel) ?_
    refine o_iret hC hB dX8_pair_17 (Nat.le_of_ble_eq_true rfl) (Nat.le_of_ble_eq_true rfl) ?_
    exact ⟨rfl, rfl⟩
  · exact absurd rfl c_5

set_option maxHeartbeats 4000000 in
set_option maxRecDepth 100000 in
theorem fr_X8_unite (l : Launch) (D : va_G) (ids : Nat → ClassId) (H0 : Heap) (h : rl_H) (n : Nat) (m : Nat) (a b : Int32) (hm : md_new ids h m) : rl_Met l (rl_e D ids H0) rl_BW rl_Ns yX8_unite cX8_unite 3 (some .int) ({ frames := 2, cells := 0, slots := 0, locals := 44 }) [.ref m, .int a, .int b] h n (fun v h' n' => v = some (.int (-1)) ∧ n' = n) := by
  obtain ⟨m0, m1, m2, m3, m4, m5, m6, m7, m8, m9, m10, m11, m12, m13, m14, m15, m16, m17, m18, m19, m20, m21, m22⟩ := id hm
  refine rl_Met.of (by decide +kernel) (Nat.le_of_ble_eq_true rfl) ?_
  intro X hC hB
  show rl_G X (rl_e D ids H0) 0 [some (.ref m), some (.int a), some (.int b)] [] h n 0 0
  refine o_aload_n hC dX8_unite_0 (by rfl) ?_
  refine o_iconst (v := nI 0) hC dX8_unite_1 (by decide +kernel) ?_
  refine o_putf hC (fX8_78 hC rfl) (fwX8 rfl rfl rfl (Or.inl rfl)) dX8_unite_2 (by repeat (first | with_reducible assumption | (rw [rl_u_s]; done) | (rw [rl_u_s]; rfl) | rw [rl_u_n (by first | with_reducible assumption | omega)])) (Nat.le_of_ble_eq_true rfl) ?_
  try simp only [List.set_cons_zero, List.set_cons_succ]
  refine o_aload_n hC dX8_unite_5 (by rfl) ?_
  refine o_iconst (v := nI 4) hC dX8_unite_6 (by decide +kernel) ?_
  refine o_iload_n hC dX8_unite_7 (by rfl) ?_
  refine o_iload_n hC dX8_unite_8 (by rfl) ?_
  refine o_callV3 hC rl_BW_good rl_Ns_nw (by exact hB.2.2.2.2.2) YX8_pair IX8_pair VX8_pair (mX8_134 hC) (by rw [hB.1]; exact fr_X8_pair l D ids H0 _ n m _ _ _ _ (by repeat (first | with_reducible assumption | (rw [rl_u_s]; done) | (rw [rl_u_s]; rfl) | rw [rl_u_n (by first | with_reducible assumption | omega)])) rfl) (by repeat (first | with_reducible assumption | (rw [rl_u_s]; done) | (rw [rl_u_s]; rfl) | rw [rl_u_n (by first | with_reducible assumption | omega)])) rfl rfl (Nat.le_of_ble_eq_true rfl) (by rw [hB.2.1]; first | exact Nat.le_of_ble_eq_true rfl | (dsimp only; omega)) (by rw [hB.2.1]; first | exact Nat.le_of_ble_eq_true rfl | (dsimp only; omega)) (by rw [hB.2.1]; first | exact Nat.le_of_ble_eq_true rfl | (dsimp only; omega)) (by rw [hB.2.1]; first | exact Nat.le_of_ble_eq_true rfl | (dsimp only; omega)) dX8_unite_9 (fun v h_9 n_9 p_9 => ?_)
  obtain ⟨rfl, rfl⟩ := p_9
  try dsimp only [Option.toList, List.cons_append, List.nil_append]
  refine o_iret hC hB dX8_unite_12 (Nat.le_of_ble_eq_true rfl) (Nat.le_of_ble_eq_true rfl) ?_
  exact ⟨rfl, rfl⟩

set_option maxHeartbeats 4000000 in
set_option maxRecDepth 100000 in
theorem fr_X8_minus (l : Launch) (D : va_G) (ids : Nat → ClassId) (H0 : Heap) (h : rl_H) (n : Nat) (m : Nat) (a b : Int32) (hm : md_new ids h m) : rl_Met l (rl_e D ids H0) rl_BW rl_Ns yX8_minus cX8_minus 3 (some .int) ({ frames := 2, cells := 0, slots := 0, locals := 44 }) [.ref m, .int a, .int b] h n (fun v h' n' => v = some (.int (-1)) ∧ n' = n) := by
  obtain ⟨m0, m1, m2, m3, m4, m5, m6, m7, m8, m9, m10, m11, m12, m13, m14, m15, m16, m17, m18, m19, m20, m21, m22⟩ := id hm
  refine rl_Met.of (by decide +kernel) (Nat.le_of_ble_eq_true rfl) ?_
  intro X hC hB
  show rl_G X (rl_e D ids H0) 0 [some (.ref m), some (.int a), some (.int b)] [] h n 0 0
  refine o_aload_n hC dX8_minus_0 (by rfl) ?_
  refine o_iconst (v := nI 0) hC dX8_minus_1 (by decide +kernel) ?_
  refine o_putf hC (fX8_78 hC rfl) (fwX8 rfl rfl rfl (Or.inl rfl)) dX8_minus_2 (by repeat (first | with_reducible assumption | (rw [rl_u_s]; done) | (rw [rl_u_s]; rfl) | rw [rl_u_n (by first | with_reducible assumption | omega)])) (Nat.le_of_ble_eq_true rfl) ?_
  try simp only [List.set_cons_zero, List.set_cons_succ]
  refine o_aload_n hC dX8_minus_5 (by rfl) ?_
  refine o_iconst (v := nI 5) hC dX8_minus_6 (by decide +kernel) ?_
  refine o_iload_n hC dX8_minus_7 (by rfl) ?_
  refine o_iload_n hC dX8_minus_8 (by rfl) ?_
  refine o_callV3 hC rl_BW_good rl_Ns_nw (by exact hB.2.2.2.2.2) YX8_pair IX8_pair VX8_pair (mX8_134 hC) (by rw [hB.1]; exact fr_X8_pair l D ids H0 _ n m _ _ _ _ (by repeat (first | with_reducible assumption | (rw [rl_u_s]; done) | (rw [rl_u_s]; rfl) | rw [rl_u_n (by first | with_reducible assumption | omega)])) rfl) (by repeat (first | with_reducible assumption | (rw [rl_u_s]; done) | (rw [rl_u_s]; rfl) | rw [rl_u_n (by first | with_reducible assumption | omega)])) rfl rfl (Nat.le_of_ble_eq_true rfl) (by rw [hB.2.1]; first | exact Nat.le_of_ble_eq_true rfl | (dsimp only; omega)) (by rw [hB.2.1]; first | exact Nat.le_of_ble_eq_true rfl | (dsimp only; omega)) (by rw [hB.2.1]; first | exact Nat.le_of_ble_eq_true rfl | (dsimp only; omega)) (by rw [hB.2.1]; first | exact Nat.le_of_ble_eq_true rfl | (dsimp only; omega)) dX8_minus_9 (fun v h_9 n_9 p_9 => ?_)
  obtain ⟨rfl, rfl⟩ := p_9
  try dsimp only [Option.toList, List.cons_append, List.nil_append]
  refine o_iret hC hB dX8_minus_12 (Nat.le_of_ble_eq_true rfl) (Nat.le_of_ble_eq_true rfl) ?_
  exact ⟨rfl, rfl⟩

set_option maxHeartbeats 4000000 in
set_option maxRecDepth 100000 in
theorem fr_X8_ways (l : Launch) (D : va_G) (ids : Nat → ClassId) (H0 : Heap) (h : rl_H) (n : Nat) (m : Nat) (t : Int32) (hm : md_new ids h m) : rl_Met l (rl_e D ids H0) rl_BW rl_Ns yX8_ways cX8_ways 2 (some .int) ({ frames := 1, cells := 0, slots := 0, locals := 21 }) [.ref m, .int t] h n (fun v h' n' => v = some (.int (-1)) ∧ n' = n) := by
  obtain ⟨m0, m1, m2, m3, m4, m5, m6, m7, m8, m9, m10, m11, m12, m13, m14, m15, m16, m17, m18, m19, m20, m21, m22⟩ := id hm
  refine rl_Met.of (by decide +kernel) (Nat.le_of_ble_eq_true rfl) ?_
  intro X hC hB
  show rl_G X (rl_e D ids H0) 0 [some (.ref m), some (.int t)] [] h n 0 0
  refine o_aload_n hC dX8_ways_0 (by rfl) ?_
  refine o_iconst (v := nI 0) hC dX8_ways_1 (by decide +kernel) ?_
  refine o_putf hC (fX8_78 hC rfl) (fwX8 rfl rfl rfl (Or.inl rfl)) dX8_ways_2 (by repeat (first | with_reducible assumption | (rw [rl_u_s]; done) | (rw [rl_u_s]; rfl) | rw [rl_u_n (by first | with_reducible assumption | omega)])) (Nat.le_of_ble_eq_true rfl) ?_
  try simp only [List.set_cons_zero, List.set_cons_succ]
  refine o_aload_n hC dX8_ways_5 (by rfl) ?_
  refine o_iload_n hC dX8_ways_6 (by rfl) ?_
  refine o_callV1 hC rl_BW_good rl_Ns_nw (by exact hB.2.2.2.2.2) YX8_isTuple IX8_isTuple VX8_isTuple (mX8_199 hC) (by rw [hB.1]; exact ct_X8_isTuple l D ids H0 _ n m (m + 13) _ _ (fun _ => 0) (by repeat (first | with_reducible assumption | (rw [rl_u_s]; done) | (rw [rl_u_s]; rfl) | rw [rl_u_n (by first | with_reducible assumption | omega)])) rfl (by repeat (first | with_reducible assumption | (rw [rl_u_s]; done) | (rw [rl_u_s]; rfl) | rw [rl_u_n (by first | with_reducible assumption | omega)]))) (by repeat (first | with_reducible assumption | (rw [rl_u_s]; done) | (rw [rl_u_s]; rfl) | rw [rl_u_n (by first | with_reducible assumption | omega)])) rfl rfl (Nat.le_of_ble_eq_true rfl) (by rw [hB.2.1]; first | exact Nat.le_of_ble_eq_true rfl | (dsimp only; omega)) (by rw [hB.2.1]; first | exact Nat.le_of_ble_eq_true rfl | (dsimp only; omega)) (by rw [hB.2.1]; first | exact Nat.le_of_ble_eq_true rfl | (dsimp only; omega)) (by rw [hB.2.1]; first | exact Nat.le_of_ble_eq_true rfl | (dsimp only; omega)) dX8_ways_7 (fun v h_7 n_7 p_7 => ?_)
  obtain ⟨rfl, rfl, rfl⟩ := p_7
  rw [if_pos (rl_z0 _)]
  try dsimp only [Option.toList, List.cons_append, List.nil_append]
  refine o_if_eq (tgt := 26) hC dX8_ways_10 (by decide) (fun c_10 => ?_) (fun c_10 => ?_)
  · refine o_iconst (v := (-1 : Int32)) hC dX8_ways_26 (by decide +kernel) ?_
    refine o_iret hC hB dX8_ways_27 (Nat.le_of_ble_eq_true rfl) (Nat.le_of_ble_eq_true rfl) ?_
    exact ⟨rfl, rfl⟩
  · exact absurd rfl c_10

set_option maxHeartbeats 4000000 in
set_option maxRecDepth 100000 in
theorem fr_X8_holds (l : Launch) (D : va_G) (ids : Nat → ClassId) (H0 : Heap) (h : rl_H) (n : Nat) (m : Nat) (t : Int32) (hm : md_new ids h m) : rl_Met l (rl_e D ids H0) rl_BW rl_Ns yX8_holds cX8_holds 2 (some .int) ({ frames := 1, cells := 0, slots := 0, locals := 21 }) [.ref m, .int t] h n (fun v h' n' => v = some (.int (-1)) ∧ n' = n) := by
  obtain ⟨m0, m1, m2, m3, m4, m5, m6, m7, m8, m9, m10, m11, m12, m13, m14, m15, m16, m17, m18, m19, m20, m21, m22⟩ := id hm
  refine rl_Met.of (by decide +kernel) (Nat.le_of_ble_eq_true rfl) ?_
  intro X hC hB
  show rl_G X (rl_e D ids H0) 0 [some (.ref m), some (.int t)] [] h n 0 0
  refine o_aload_n hC dX8_holds_0 (by rfl) ?_
  refine o_iconst (v := nI 0) hC dX8_holds_1 (by decide +kernel) ?_
  refine o_putf hC (fX8_78 hC rfl) (fwX8 rfl rfl rfl (Or.inl rfl)) dX8_holds_2 (by repeat (first | with_reducible assumption | (rw [rl_u_s]; done) | (rw [rl_u_s]; rfl) | rw [rl_u_n (by first | with_reducible assumption | omega)])) (Nat.le_of_ble_eq_true rfl) ?_
  try simp only [List.set_cons_zero, List.set_cons_succ]
  refine o_aload_n hC dX8_holds_5 (by rfl) ?_
  refine o_iload_n hC dX8_holds_6 (by rfl) ?_
  refine o_callV1 hC rl_BW_good rl_Ns_nw (by exact hB.2.2.2.2.2) YX8_isTuple IX8_isTuple VX8_isTuple (mX8_199 hC) (by rw [hB.1]; exact ct_X8_isTuple l D ids H0 _ n m (m + 13) _ _ (fun _ => 0) (by repeat (first | with_reducible assumption | (rw [rl_u_s]; done) | (rw [rl_u_s]; rfl) | rw [rl_u_n (by first | with_reducible assumption | omega)])) rfl (by repeat (first | with_reducible assumption | (rw [rl_u_s]; done) | (rw [rl_u_s]; rfl) | rw [rl_u_n (by first | with_reducible assumption | omega)]))) (by repeat (first | with_reducible assumption | (rw [rl_u_s]; done) | (rw [rl_u_s]; rfl) | rw [rl_u_n (by first | with_reducible assumption | omega)])) rfl rfl (Nat.le_of_ble_eq_true rfl) (by rw [hB.2.1]; first | exact Nat.le_of_ble_eq_true rfl | (dsimp only; omega)) (by rw [hB.2.1]; first | exact Nat.le_of_ble_eq_true rfl | (dsimp only; omega)) (by rw [hB.2.1]; first | exact Nat.le_of_ble_eq_true rfl | (dsimp only; omega)) (by rw [hB.2.1]; first | exact Nat.le_of_ble_eq_true rfl | (dsimp only; omega)) dX8_holds_7 (fun v h_7 n_7 p_7 => ?_)
  obtain ⟨rfl, rfl, rfl⟩ := p_7
  rw [if_pos (rl_z0 _)]
  try dsimp only [Option.toList, List.cons_append, List.nil_append]
  refine o_if_ne (tgt := 17) hC dX8_holds_10 (by decide) (fun c_10 => ?_) (fun c_10 => ?_)
  · exact absurd rfl c_10
  · refine o_iconst (v := (-1 : Int32)) hC dX8_holds_13 (by decide +kernel) ?_
    refine o_goto (tgt := 34) hC dX8_holds_14 (by decide) ?_
    refine o_iret hC hB dX8_holds_34 (Nat.le_of_ble_eq_true rfl) (Nat.le_of_ble_eq_true rfl) ?_
    exact ⟨rfl, rfl⟩

set_option maxHeartbeats 4000000 in
set_option maxRecDepth 100000 in
theorem fr_X8_made (l : Launch) (D : va_G) (ids : Nat → ClassId) (H0 : Heap) (h : rl_H) (n : Nat) (m : Nat) (t : Int32) (hm : md_new ids h m) : rl_Met l (rl_e D ids H0) rl_BW rl_Ns yX8_made cX8_made 2 (some .int) ({ frames := 1, cells := 0, slots := 0, locals := 21 }) [.ref m, .int t] h n (fun v h' n' => v = some (.int (-1)) ∧ n' = n) := by
  obtain ⟨m0, m1, m2, m3, m4, m5, m6, m7, m8, m9, m10, m11, m12, m13, m14, m15, m16, m17, m18, m19, m20, m21, m22⟩ := id hm
  refine rl_Met.of (by decide +kernel) (Nat.le_of_ble_eq_true rfl) ?_
  intro X hC hB
  show rl_G X (rl_e D ids H0) 0 [some (.ref m), some (.int t)] [] h n 0 0
  refine o_aload_n hC dX8_made_0 (by rfl) ?_
  refine o_iconst (v := nI 0) hC dX8_made_1 (by decide +kernel) ?_
  refine o_putf hC (fX8_78 hC rfl) (fwX8 rfl rfl rfl (Or.inl rfl)) dX8_made_2 (by repeat (first | with_reducible assumption | (rw [rl_u_s]; done) | (rw [rl_u_s]; rfl) | rw [rl_u_n (by first | with_reducible assumption | omega)])) (Nat.le_of_ble_eq_true rfl) ?_
  try simp only [List.set_cons_zero, List.set_cons_succ]
  refine o_aload_n hC dX8_made_5 (by rfl) ?_
  refine o_iload_n hC dX8_made_6 (by rfl) ?_
  refine o_callV1 hC rl_BW_good rl_Ns_nw (by exact hB.2.2.2.2.2) YX8_isTuple IX8_isTuple VX8_isTuple (mX8_199 hC) (by rw [hB.1]; exact ct_X8_isTuple l D ids H0 _ n m (m + 13) _ _ (fun _ => 0) (by repeat (first | with_reducible assumption | (rw [rl_u_s]; done) | (rw [rl_u_s]; rfl) | rw [rl_u_n (by first | with_reducible assumption | omega)])) rfl (by repeat (first | with_reducible assumption | (rw [rl_u_s]; done) | (rw [rl_u_s]; rfl) | rw [rl_u_n (by first | with_reducible assumption | omega)]))) (by repeat (first | with_reducible assumption | (rw [rl_u_s]; done) | (rw [rl_u_s]; rfl) | rw [rl_u_n (by first | with_reducible assumption | omega)])) rfl rfl (Nat.le_of_ble_eq_true rfl) (by rw [hB.2.1]; first | exact Nat.le_of_ble_eq_true rfl | (dsimp only; omega)) (by rw [hB.2.1]; first | exact Nat.le_of_ble_eq_true rfl | (dsimp only; omega)) (by rw [hB.2.1]; first | exact Nat.le_of_ble_eq_true rfl | (dsimp only; omega)) (by rw [hB.2.1]; first | exact Nat.le_of_ble_eq_true rfl | (dsimp only; omega)) dX8_made_7 (fun v h_7 n_7 p_7 => ?_)
  obtain ⟨rfl, rfl, rfl⟩ := p_7
  rw [if_pos (rl_z0 _)]
  try dsimp only [Option.toList, List.cons_append, List.nil_append]
  refine o_if_ne (tgt := 17) hC dX8_made_10 (by decide) (fun c_10 => ?_) (fun c_10 => ?_)
  · exact absurd rfl c_10
  · refine o_iconst (v := (-1 : Int32)) hC dX8_made_13 (by decide +kernel) ?_
    refine o_goto (tgt := 26) hC dX8_made_14 (by decide) ?_
    refine o_iret hC hB dX8_made_26 (Nat.le_of_ble_eq_true rfl) (Nat.le_of_ble_eq_true rfl) ?_
    exact ⟨rfl, rfl⟩

set_option maxHeartbeats 4000000 in
set_option maxRecDepth 100000 in
theorem fr_X8_count (l : Launch) (D : va_G) (ids : Nat → ClassId) (H0 : Heap) (h : rl_H) (n : Nat) (m : Nat) (t : Int32) (hm : md_new ids h m) : rl_Met l (rl_e D ids H0) rl_BW rl_Ns yX8_count cX8_count 4 (some .int) ({ frames := 1, cells := 0, slots := 0, locals := 21 }) [.ref m, .int t] h n (fun v h' n' => v = some (.int (-1)) ∧ n' = n) := by
  obtain ⟨m0, m1, m2, m3, m4, m5, m6, m7, m8, m9, m10, m11, m12, m13, m14, m15, m16, m17, m18, m19, m20, m21, m22⟩ := id hm
  refine rl_Met.of (by decide +kernel) (Nat.le_of_ble_eq_true rfl) ?_
  intro X hC hB
  show rl_G X (rl_e D ids H0) 0 [some (.ref m), some (.int t), none, none] [] h n 0 0
  refine o_aload_n hC dX8_count_0 (by rfl) ?_
  refine o_iconst (v := nI 0) hC dX8_count_1 (by decide +kernel) ?_
  refine o_putf hC (fX8_78 hC rfl) (fwX8 rfl rfl rfl (Or.inl rfl)) dX8_count_2 (by repeat (first | with_reducible assumption | (rw [rl_u_s]; done) | (rw [rl_u_s]; rfl) | rw [rl_u_n (by first | with_reducible assumption | omega)])) (Nat.le_of_ble_eq_true rfl) ?_
  try simp only [List.set_cons_zero, List.set_cons_succ]
  refine o_aload_n hC dX8_count_5 (by rfl) ?_
  refine o_iload_n hC dX8_count_6 (by rfl) ?_
  refine o_callV1 hC rl_BW_good rl_Ns_nw (by exact hB.2.2.2.2.2) YX8_isTuple IX8_isTuple VX8_isTuple (mX8_199 hC) (by rw [hB.1]; exact ct_X8_isTuple l D ids H0 _ n m (m + 13) _ _ (fun _ => 0) (by repeat (first | with_reducible assumption | (rw [rl_u_s]; done) | (rw [rl_u_s]; rfl) | rw [rl_u_n (by first | with_reducible assumption | omega)])) rfl (by repeat (first | with_reducible assumption | (rw [rl_u_s]; done) | (rw [rl_u_s]; rfl) | rw [rl_u_n (by first | with_reducible assumption | omega)]))) (by repeat (first | with_reducible assumption | (rw [rl_u_s]; done) | (rw [rl_u_s]; rfl) | rw [rl_u_n (by first | with_reducible assumption | omega)])) rfl rfl (Nat.le_of_ble_eq_true rfl) (by rw [hB.2.1]; first | exact Nat.le_of_ble_eq_true rfl | (dsimp only; omega)) (by rw [hB.2.1]; first | exact Nat.le_of_ble_eq_true rfl | (dsimp only; omega)) (by rw [hB.2.1]; first | exact Nat.le_of_ble_eq_true rfl | (dsimp only; omega)) (by rw [hB.2.1]; first | exact Nat.le_of_ble_eq_true rfl | (dsimp only; omega)) dX8_count_7 (fun v h_7 n_7 p_7 => ?_)
  obtain ⟨rfl, rfl, rfl⟩ := p_7
  rw [if_pos (rl_z0 _)]
  try dsimp only [Option.toList, List.cons_append, List.nil_append]
  refine o_if_ne (tgt := 15) hC dX8_count_10 (by decide) (fun c_10 => ?_) (fun c_10 => ?_)
  · exact absurd rfl c_10
  · refine o_iconst (v := (-1 : Int32)) hC dX8_count_13 (by decide +kernel) ?_
    refine o_iret hC hB dX8_count_14 (Nat.le_of_ble_eq_true rfl) (Nat.le_of_ble_eq_true rfl) ?_
    exact ⟨rfl, rfl⟩

set_option maxHeartbeats 4000000 in
set_option maxRecDepth 100000 in
theorem fr_X8_blame (l : Launch) (D : va_G) (ids : Nat → ClassId) (H0 : Heap) (h : rl_H) (n : Nat) (m : Nat) (t : Int32) (hm : md_new ids h m) : rl_Met l (rl_e D ids H0) rl_BW rl_Ns yX8_blame cX8_blame 8 (some .int) ({ frames := 1, cells := 0, slots := 0, locals := 21 }) [.ref m, .int t] h n (fun v h' n' => v = some (.int (-1)) ∧ n' = n) := by
  obtain ⟨m0, m1, m2, m3, m4, m5, m6, m7, m8, m9, m10, m11, m12, m13, m14, m15, m16, m17, m18, m19, m20, m21, m22⟩ := id hm
  refine rl_Met.of (by decide +kernel) (Nat.le_of_ble_eq_true rfl) ?_
  intro X hC hB
  show rl_G X (rl_e D ids H0) 0 [some (.ref m), some (.int t), none, none, none, none, none, none] [] h n 0 0
  refine o_aload_n hC dX8_blame_0 (by rfl) ?_
  refine o_iconst (v := nI 0) hC dX8_blame_1 (by decide +kernel) ?_
  refine o_putf hC (fX8_78 hC rfl) (fwX8 rfl rfl rfl (Or.inl rfl)) dX8_blame_2 (by repeat (first | with_reducible assumption | (rw [rl_u_s]; done) | (rw [rl_u_s]; rfl) | rw [rl_u_n (by first | with_reducible assumption | omega)])) (Nat.le_of_ble_eq_true rfl) ?_
  try simp only [List.set_cons_zero, List.set_cons_succ]
  refine o_aload_n hC dX8_blame_5 (by rfl) ?_
  refine o_iload_n hC dX8_blame_6 (by rfl) ?_
  refine o_callV1 hC rl_BW_good rl_Ns_nw (by exact hB.2.2.2.2.2) YX8_isTuple IX8_isTuple VX8_isTuple (mX8_199 hC) (by rw [hB.1]; exact ct_X8_isTuple l D ids H0 _ n m (m + 13) _ _ (fun _ => 0) (by repeat (first | with_reducible assumption | (rw [rl_u_s]; done) | (rw [rl_u_s]; rfl) | rw [rl_u_n (by first | with_reducible assumption | omega)])) rfl (by repeat (first | with_reducible assumption | (rw [rl_u_s]; done) | (rw [rl_u_s]; rfl) | rw [rl_u_n (by first | with_reducible assumption | omega)]))) (by repeat (first | with_reducible assumption | (rw [rl_u_s]; done) | (rw [rl_u_s]; rfl) | rw [rl_u_n (by first | with_reducible assumption | omega)])) rfl rfl (Nat.le_of_ble_eq_true rfl) (by rw [hB.2.1]; first | exact Nat.le_of_ble_eq_true rfl | (dsimp only; omega)) (by rw [hB.2.1]; first | exact Nat.le_of_ble_eq_true rfl | (dsimp only; omega)) (by rw [hB.2.1]; first | exact Nat.le_of_ble_eq_true rfl | (dsimp only; omega)) (by rw [hB.2.1]; first | exact Nat.le_of_ble_eq_true rfl | (dsimp only; omega)) dX8_blame_7 (fun v h_7 n_7 p_7 => ?_)
  obtain ⟨rfl, rfl, rfl⟩ := p_7
  rw [if_pos (rl_z0 _)]
  try dsimp only [Option.toList, List.cons_append, List.nil_append]
  refine o_if_ne (tgt := 15) hC dX8_blame_10 (by decide) (fun c_10 => ?_) (fun c_10 => ?_)
  · exact absurd rfl c_10
  · refine o_iconst (v := (-1 : Int32)) hC dX8_blame_13 (by decide +kernel) ?_
    refine o_iret hC hB dX8_blame_14 (Nat.le_of_ble_eq_true rfl) (Nat.le_of_ble_eq_true rfl) ?_
    exact ⟨rfl, rfl⟩

set_option maxHeartbeats 4000000 in
set_option maxRecDepth 100000 in
theorem fr_X8_under (l : Launch) (D : va_G) (ids : Nat → ClassId) (H0 : Heap) (h : rl_H) (n : Nat) (m : Nat) (t : Int32) (s : Int64) (hm : md_new ids h m) : rl_Met l (rl_e D ids H0) rl_BW rl_Ns yX8_under cX8_under 4 (some .int) ({ frames := 1, cells := 0, slots := 0, locals := 21 }) [.ref m, .int t, .long s] h n (fun v h' n' => v = some (.int (-1)) ∧ n' = n) := by
  obtain ⟨m0, m1, m2, m3, m4, m5, m6, m7, m8, m9, m10, m11, m12, m13, m14, m15, m16, m17, m18, m19, m20, m21, m22⟩ := id hm
  refine rl_Met.of (by decide +kernel) (Nat.le_of_ble_eq_true rfl) ?_
  intro X hC hB
  show rl_G X (rl_e D ids H0) 0 [some (.ref m), some (.int t), some (.long s), none] [] h n 0 0
  refine o_aload_n hC dX8_under_0 (by rfl) ?_
  refine o_iconst (v := nI 0) hC dX8_under_1 (by decide +kernel) ?_
  refine o_putf hC (fX8_78 hC rfl) (fwX8 rfl rfl rfl (Or.inl rfl)) dX8_under_2 (by repeat (first | with_reducible assumption | (rw [rl_u_s]; done) | (rw [rl_u_s]; rfl) | rw [rl_u_n (by first | with_reducible assumption | omega)])) (Nat.le_of_ble_eq_true rfl) ?_
  try simp only [List.set_cons_zero, List.set_cons_succ]
  refine o_aload_n hC dX8_under_5 (by rfl) ?_
  refine o_iload_n hC dX8_under_6 (by rfl) ?_
  refine o_callV1 hC rl_BW_good rl_Ns_nw (by exact hB.2.2.2.2.2) YX8_isTuple IX8_isTuple VX8_isTuple (mX8_199 hC) (by rw [hB.1]; exact ct_X8_isTuple l D ids H0 _ n m (m + 13) _ _ (fun _ => 0) (by repeat (first | with_reducible assumption | (rw [rl_u_s]; done) | (rw [rl_u_s]; rfl) | rw [rl_u_n (by first | with_reducible assumption | omega)])) rfl (by repeat (first | with_reducible assumption | (rw [rl_u_s]; done) | (rw [rl_u_s]; rfl) | rw [rl_u_n (by first | with_reducible assumption | omega)]))) (by repeat (first | with_reducible assumption | (rw [rl_u_s]; done) | (rw [rl_u_s]; rfl) | rw [rl_u_n (by first | with_reducible assumption | omega)])) rfl rfl (Nat.le_of_ble_eq_true rfl) (by rw [hB.2.1]; first | exact Nat.le_of_ble_eq_true rfl | (dsimp only; omega)) (by rw [hB.2.1]; first | exact Nat.le_of_ble_eq_true rfl | (dsimp only; omega)) (by rw [hB.2.1]; first | exact Nat.le_of_ble_eq_true rfl | (dsimp only; omega)) (by rw [hB.2.1]; first | exact Nat.le_of_ble_eq_true rfl | (dsimp only; omega)) dX8_under_7 (fun v h_7 n_7 p_7 => ?_)
  obtain ⟨rfl, rfl, rfl⟩ := p_7
  rw [if_pos (rl_z0 _)]
  try dsimp only [Option.toList, List.cons_append, List.nil_append]
  refine o_if_ne (tgt := 15) hC dX8_under_10 (by decide) (fun c_10 => ?_) (fun c_10 => ?_)
  · exact absurd rfl c_10
  · refine o_iconst (v := (-1 : Int32)) hC dX8_under_13 (by decide +kernel) ?_
    refine o_iret hC hB dX8_under_14 (Nat.le_of_ble_eq_true rfl) (Nat.le_of_ble_eq_true rfl) ?_
    exact ⟨rfl, rfl⟩

set_option maxHeartbeats 4000000 in
set_option maxRecDepth 100000 in
theorem fr_X8_matters (l : Launch) (D : va_G) (ids : Nat → ClassId) (H0 : Heap) (h : rl_H) (n : Nat) (m : Nat) (t r : Int32) (hm : md_new ids h m) : rl_Met l (rl_e D ids H0) rl_BW rl_Ns yX8_matters cX8_matters 6 (some .int) ({ frames := 1, cells := 0, slots := 0, locals := 21 }) [.ref m, .int t, .int r] h n (fun v h' n' => v = some (.int (-1)) ∧ n' = n) := by
  obtain ⟨m0, m1, m2, m3, m4, m5, m6, m7, m8, m9, m10, m11, m12, m13, m14, m15, m16, m17, m18, m19, m20, m21, m22⟩ := id hm
  refine rl_Met.of (by decide +kernel) (Nat.le_of_ble_eq_true rfl) ?_
  intro X hC hB
  show rl_G X (rl_e D ids H0) 0 [some (.ref m), some (.int t), some (.int r), none, none, none] [] h n 0 0
  refine o_aload_n hC dX8_matters_0 (by rfl) ?_
  refine o_iconst (v := nI 0) hC dX8_matters_1 (by decide +kernel) ?_
  refine o_putf hC (fX8_78 hC rfl) (fwX8 rfl rfl rfl (Or.inl rfl)) dX8_matters_2 (by repeat (first | with_reducible assumption | (rw [rl_u_s]; done) | (rw [rl_u_s]; rfl) | rw [rl_u_n (by first | with_reducible assumption | omega)])) (Nat.le_of_ble_eq_true rfl) ?_
  try simp only [List.set_cons_zero, List.set_cons_succ]
  refine o_aload_n hC dX8_matters_5 (by rfl) ?_
  refine o_iload_n hC dX8_matters_6 (by rfl) ?_
  refine o_callV1 hC rl_BW_good rl_Ns_nw (by exact hB.2.2.2.2.2) YX8_isTuple IX8_isTuple VX8_isTuple (mX8_199 hC) (by rw [hB.1]; exact ct_X8_isTuple l D ids H0 _ n m (m + 13) _ _ (fun _ => 0) (by repeat (first | with_reducible assumption | (rw [rl_u_s]; done) | (rw [rl_u_s]; rfl) | rw [rl_u_n (by first | with_reducible assumption | omega)])) rfl (by repeat (first | with_reducible assumption | (rw [rl_u_s]; done) | (rw [rl_u_s]; rfl) | rw [rl_u_n (by first | with_reducible assumption | omega)]))) (by repeat (first | with_reducible assumption | (rw [rl_u_s]; done) | (rw [rl_u_s]; rfl) | rw [rl_u_n (by first | with_reducible assumption | omega)])) rfl rfl (Nat.le_of_ble_eq_true rfl) (by rw [hB.2.1]; first | exact Nat.le_of_ble_eq_true rfl | (dsimp only; omega)) (by rw [hB.2.1]; first | exact Nat.le_of_ble_eq_true rfl | (dsimp only; omega)) (by rw [hB.2.1]; first | exact Nat.le_of_ble_eq_true rfl | (dsimp only; omega)) (by rw [hB.2.1]; first | exact Nat.le_of_ble_eq_true rfl | (dsimp only; omega)) dX8_matters_7 (fun v h_7 n_7 p_7 => ?_)
  obtain ⟨rfl, rfl, rfl⟩ := p_7
  rw [if_pos (rl_z0 _)]
  try dsimp only [Option.toList, List.cons_append, List.nil_append]
  refine o_if_eq (tgt := 25) hC dX8_matters_10 (by decide) (fun c_10 => ?_) (fun c_10 => ?_)
  · refine o_iconst (v := (-1 : Int32)) hC dX8_matters_25 (by decide +kernel) ?_
    refine o_iret hC hB dX8_matters_26 (Nat.le_of_ble_eq_true rfl) (Nat.le_of_ble_eq_true rfl) ?_
    exact ⟨rfl, rfl⟩
  · exact absurd rfl c_10

set_option maxHeartbeats 4000000 in
set_option maxRecDepth 100000 in
theorem fr_X8_cell (l : Launch) (D : va_G) (ids : Nat → ClassId) (H0 : Heap) (h : rl_H) (n : Nat) (m : Nat) (t c : Int32) (hm : md_new ids h m) : rl_Met l (rl_e D ids H0) rl_BW rl_Ns yX8_cell cX8_cell 3 (some .int) ({ frames := 1, cells := 0, slots := 0, locals := 21 }) [.ref m, .int t, .int c] h n (fun v h' n' => v = some (.int (nI 0)) ∧ n' = n ∧ h' m = some (.inr (8, [.int (nI 1), .int (nI 0), .ref (m + 1), .int (nI 0), .ref (m + 2), .ref (m + 3), .long 0, .int (nI 0), .ref (m + 4), .ref (m + 5), .ref (m + 6), .ref (m + 7), .ref (m + 8), .ref (m + 9), .ref (m + 10), .ref (m + 11), .ref (m + 12), .ref (m + 13), .ref (m + 14), .int (nI 0), .ref (m + 15), .ref (m + 16), .ref (m + 17), .int (nI 0), .ref (m + 18), .ref (m + 19), .int (nI 0), .ref (m + 20), .ref (m + 21), .ref (m + 22), .int (nI 0)]))) := by
  obtain ⟨m0, m1, m2, m3, m4, m5, m6, m7, m8, m9, m10, m11, m12, m13, m14, m15, m16, m17, m18, m19, m20, m21, m22⟩ := id hm
  refine rl_Met.of (by decide +kernel) (Nat.le_of_ble_eq_true rfl) ?_
  intro X hC hB
  show rl_G X (rl_e D ids H0) 0 [some (.ref m), some (.int t), some (.int c)] [] h n 0 0
  refine o_aload_n hC dX8_cell_0 (by rfl) ?_
  refine o_iconst (v := nI 0) hC dX8_cell_1 (by decide +kernel) ?_
  refine o_putf hC (fX8_78 hC rfl) (fwX8 rfl rfl rfl (Or.inl rfl)) dX8_cell_2 (by repeat (first | with_reducible assumption | (rw [rl_u_s]; done) | (rw [rl_u_s]; rfl) | rw [rl_u_n (by first | with_reducible assumption | omega)])) (Nat.le_of_ble_eq_true rfl) ?_
  try simp only [List.set_cons_zero, List.set_cons_succ]
  refine o_aload_n hC dX8_cell_5 (by rfl) ?_
  refine o_iload_n hC dX8_cell_6 (by rfl) ?_
  refine o_callV1 hC rl_BW_good rl_Ns_nw (by exact hB.2.2.2.2.2) YX8_isTuple IX8_isTuple VX8_isTuple (mX8_199 hC) (by rw [hB.1]; exact ct_X8_isTuple l D ids H0 _ n m (m + 13) _ _ (fun _ => 0) (by repeat (first | with_reducible assumption | (rw [rl_u_s]; done) | (rw [rl_u_s]; rfl) | rw [rl_u_n (by first | with_reducible assumption | omega)])) rfl (by repeat (first | with_reducible assumption | (rw [rl_u_s]; done) | (rw [rl_u_s]; rfl) | rw [rl_u_n (by first | with_reducible assumption | omega)]))) (by repeat (first | with_reducible assumption | (rw [rl_u_s]; done) | (rw [rl_u_s]; rfl) | rw [rl_u_n (by first | with_reducible assumption | omega)])) rfl rfl (Nat.le_of_ble_eq_true rfl) (by rw [hB.2.1]; first | exact Nat.le_of_ble_eq_true rfl | (dsimp only; omega)) (by rw [hB.2.1]; first | exact Nat.le_of_ble_eq_true rfl | (dsimp only; omega)) (by rw [hB.2.1]; first | exact Nat.le_of_ble_eq_true rfl | (dsimp only; omega)) (by rw [hB.2.1]; first | exact Nat.le_of_ble_eq_true rfl | (dsimp only; omega)) dX8_cell_7 (fun v h_7 n_7 p_7 => ?_)
  obtain ⟨rfl, rfl, rfl⟩ := p_7
  rw [if_pos (rl_z0 _)]
  try dsimp only [Option.toList, List.cons_append, List.nil_append]
  refine o_if_eq (tgt := 25) hC dX8_cell_10 (by decide) (fun c_10 => ?_) (fun c_10 => ?_)
  · refine o_aload_n hC dX8_cell_25 (by rfl) ?_
    refine o_iconst (v := nI 1) hC dX8_cell_26 (by decide +kernel) ?_
    refine o_putf hC (fX8_78 hC rfl) (fwX8 rfl rfl rfl (Or.inl rfl)) dX8_cell_27 (by repeat (first | with_reducible assumption | (rw [rl_u_s]; done) | (rw [rl_u_s]; rfl) | rw [rl_u_n (by first | with_reducible assumption | omega)])) (Nat.le_of_ble_eq_true rfl) ?_
    try simp only [List.set_cons_zero, List.set_cons_succ]
    refine o_iconst (v := nI 0) hC dX8_cell_30 (by decide +kernel) ?_
    refine o_iret hC hB dX8_cell_31 (Nat.le_of_ble_eq_true rfl) (Nat.le_of_ble_eq_true rfl) ?_
    exact ⟨rfl, rfl, by repeat (first | with_reducible assumption | (rw [rl_u_s]; done) | (rw [rl_u_s]; rfl) | rw [rl_u_n (by first | with_reducible assumption | omega)])⟩
  · exact absurd rfl c_10

set_option maxHeartbeats 4000000 in
set_option maxRecDepth 100000 in
theorem fr_X8_way (l : Launch) (D : va_G) (ids : Nat → ClassId) (H0 : Heap) (h : rl_H) (n : Nat) (m : Nat) (t k w : Int32) (hm : md_new ids h m) : rl_Met l (rl_e D ids H0) rl_BW rl_Ns yX8_way cX8_way 5 (some .long) ({ frames := 1, cells := 0, slots := 0, locals := 21 }) [.ref m, .int t, .int k, .int w] h n (fun v h' n' => v = some (.long 0) ∧ n' = n ∧ h' m = some (.inr (8, [.int (nI 1), .int (nI 0), .ref (m + 1), .int (nI 0), .ref (m + 2), .ref (m + 3), .long 0, .int (nI 0), .ref (m + 4), .ref (m + 5), .ref (m + 6), .ref (m + 7), .ref (m + 8), .ref (m + 9), .ref (m + 10), .ref (m + 11), .ref (m + 12), .ref (m + 13), .ref (m + 14), .int (nI 0), .ref (m + 15), .ref (m + 16), .ref (m + 17), .int (nI 0), .ref (m + 18), .ref (m + 19), .int (nI 0), .ref (m + 20), .ref (m + 21), .ref (m + 22), .int (nI 0)]))) := by
  obtain ⟨m0, m1, m2, m3, m4, m5, m6, m7, m8, m9, m10, m11, m12, m13, m14, m15, m16, m17, m18, m19, m20, m21, m22⟩ := id hm
  refine rl_Met.of (by decide +kernel) (Nat.le_of_ble_eq_true rfl) ?_
  intro X hC hB
  show rl_G X (rl_e D ids H0) 0 [some (.ref m), some (.int t), some (.int k), some (.int w), none] [] h n 0 0
  refine o_aload_n hC dX8_way_0 (by rfl) ?_
  refine o_iconst (v := nI 0) hC dX8_way_1 (by decide +kernel) ?_
  refine o_putf hC (fX8_78 hC rfl) (fwX8 rfl rfl rfl (Or.inl rfl)) dX8_way_2 (by repeat (first | with_reducible assumption | (rw [rl_u_s]; done) | (rw [rl_u_s]; rfl) | rw [rl_u_n (by first | with_reducible assumption | omega)])) (Nat.le_of_ble_eq_true rfl) ?_
  try simp only [List.set_cons_zero, List.set_cons_succ]
  refine o_aload_n hC dX8_way_5 (by rfl) ?_
  refine o_iload_n hC dX8_way_6 (by rfl) ?_
  refine o_callV1 hC rl_BW_good rl_Ns_nw (by exact hB.2.2.2.2.2) YX8_isTuple IX8_isTuple VX8_isTuple (mX8_199 hC) (by rw [hB.1]; exact ct_X8_isTuple l D ids H0 _ n m (m + 13) _ _ (fun _ => 0) (by repeat (first | with_reducible assumption | (rw [rl_u_s]; done) | (rw [rl_u_s]; rfl) | rw [rl_u_n (by first | with_reducible assumption | omega)])) rfl (by repeat (first | with_reducible assumption | (rw [rl_u_s]; done) | (rw [rl_u_s]; rfl) | rw [rl_u_n (by first | with_reducible assumption | omega)]))) (by repeat (first | with_reducible assumption | (rw [rl_u_s]; done) | (rw [rl_u_s]; rfl) | rw [rl_u_n (by first | with_reducible assumption | omega)])) rfl rfl (Nat.le_of_ble_eq_true rfl) (by rw [hB.2.1]; first | exact Nat.le_of_ble_eq_true rfl | (dsimp only; omega)) (by rw [hB.2.1]; first | exact Nat.le_of_ble_eq_true rfl | (dsimp only; omega)) (by rw [hB.2.1]; first | exact Nat.le_of_ble_eq_true rfl | (dsimp only; omega)) (by rw [hB.2.1]; first | exact Nat.le_of_ble_eq_true rfl | (dsimp only; omega)) dX8_way_7 (fun v h_7 n_7 p_7 => ?_)
  obtain ⟨rfl, rfl, rfl⟩ := p_7
  rw [if_pos (rl_z0 _)]
  try dsimp only [Option.toList, List.cons_append, List.nil_append]
  refine o_if_eq (tgt := 31) hC dX8_way_10 (by decide) (fun c_10 => ?_) (fun c_10 => ?_)
  · refine o_aload_n hC dX8_way_31 (by rfl) ?_
    refine o_iconst (v := nI 1) hC dX8_way_32 (by decide +kernel) ?_
    refine o_putf hC (fX8_78 hC rfl) (fwX8 rfl rfl rfl (Or.inl rfl)) dX8_way_33 (by repeat (first | with_reducible assumption | (rw [rl_u_s]; done) | (rw [rl_u_s]; rfl) | rw [rl_u_n (by first | with_reducible assumption | omega)])) (Nat.le_of_ble_eq_true rfl) ?_
    try simp only [List.set_cons_zero, List.set_cons_succ]
    refine o_lconst (v := 0) hC dX8_way_36 (by decide +kernel) ?_
    refine o_lret hC hB dX8_way_37 (Nat.le_of_ble_eq_true rfl) (Nat.le_of_ble_eq_true rfl) ?_
    exact ⟨rfl, rfl, by repeat (first | with_reducible assumption | (rw [rl_u_s]; done) | (rw [rl_u_s]; rfl) | rw [rl_u_n (by first | with_reducible assumption | omega)])⟩
  · exact absurd rfl c_10

set_option maxHeartbeats 4000000 in
set_option maxRecDepth 100000 in
theorem fr_X8_clear (l : Launch) (D : va_G) (ids : Nat → ClassId) (H0 : Heap) (h : rl_H) (n : Nat) (m : Nat)  (hm : md_new ids h m) : rl_Met l (rl_e D ids H0) rl_BW rl_Ns yX8_clear cX8_clear 1 none ({ frames := 0, cells := 0, slots := 0, locals := 0 }) [.ref m] h n (fun v h' n' => v = none ∧ n' = n) := by
  obtain ⟨m0, m1, m2, m3, m4, m5, m6, m7, m8, m9, m10, m11, m12, m13, m14, m15, m16, m17, m18, m19, m20, m21, m22⟩ := id hm
  refine rl_Met.of (by decide +kernel) (Nat.le_of_ble_eq_true rfl) ?_
  intro X hC hB
  show rl_G X (rl_e D ids H0) 0 [some (.ref m)] [] h n 0 0
  refine o_aload_n hC dX8_clear_0 (by rfl) ?_
  refine o_iconst (v := nI 0) hC dX8_clear_1 (by decide +kernel) ?_
  refine o_putf hC (fX8_78 hC rfl) (fwX8 rfl rfl rfl (Or.inl rfl)) dX8_clear_2 (by repeat (first | with_reducible assumption | (rw [rl_u_s]; done) | (rw [rl_u_s]; rfl) | rw [rl_u_n (by first | with_reducible assumption | omega)])) (Nat.le_of_ble_eq_true rfl) ?_
  try simp only [List.set_cons_zero, List.set_cons_succ]
  refine o_aload_n hC dX8_clear_5 (by rfl) ?_
  refine o_iconst (v := nI 0) hC dX8_clear_6 (by decide +kernel) ?_
  refine o_putf hC (fX8_109 hC rfl) (fwX8 rfl rfl rfl (Or.inl rfl)) dX8_clear_7 (by repeat (first | with_reducible assumption | (rw [rl_u_s]; done) | (rw [rl_u_s]; rfl) | rw [rl_u_n (by first | with_reducible assumption | omega)])) (Nat.le_of_ble_eq_true rfl) ?_
  try simp only [List.set_cons_zero, List.set_cons_succ]
  refine o_aload_n hC dX8_clear_10 (by rfl) ?_
  refine o_iconst (v := nI 0) hC dX8_clear_11 (by decide +kernel) ?_
  refine o_putf hC (fX8_112 hC rfl) (fwX8 rfl rfl rfl (Or.inl rfl)) dX8_clear_12 (by repeat (first | with_reducible assumption | (rw [rl_u_s]; done) | (rw [rl_u_s]; rfl) | rw [rl_u_n (by first | with_reducible assumption | omega)])) (Nat.le_of_ble_eq_true rfl) ?_
  try simp only [List.set_cons_zero, List.set_cons_succ]
  refine o_aload_n hC dX8_clear_15 (by rfl) ?_
  refine o_iconst (v := nI 0) hC dX8_clear_16 (by decide +kernel) ?_
  refine o_putf hC (fX8_119 hC rfl) (fwX8 rfl rfl rfl (Or.inl rfl)) dX8_clear_17 (by repeat (first | with_reducible assumption | (rw [rl_u_s]; done) | (rw [rl_u_s]; rfl) | rw [rl_u_n (by first | with_reducible assumption | omega)])) (Nat.le_of_ble_eq_true rfl) ?_
  try simp only [List.set_cons_zero, List.set_cons_succ]
  refine o_aload_n hC dX8_clear_20 (by rfl) ?_
  refine o_lconst (v := 0) hC dX8_clear_21 (by decide +kernel) ?_
  refine o_putf hC (fX8_115 hC rfl) (fwX8 rfl rfl rfl (Or.inl rfl)) dX8_clear_22 (by repeat (first | with_reducible assumption | (rw [rl_u_s]; done) | (rw [rl_u_s]; rfl) | rw [rl_u_n (by first | with_reducible assumption | omega)])) (Nat.le_of_ble_eq_true rfl) ?_
  try simp only [List.set_cons_zero, List.set_cons_succ]
  refine o_aload_n hC dX8_clear_25 (by rfl) ?_
  refine o_getf hC (fX8_46 hC rfl) dX8_clear_26 (by repeat (first | with_reducible assumption | (rw [rl_u_s]; done) | (rw [rl_u_s]; rfl) | rw [rl_u_n (by first | with_reducible assumption | omega)])) (by first | rfl | with_reducible assumption) ?_
  refine o_bipush (v := nI 16) hC dX8_clear_29 (by decide +kernel) ?_
  refine o_iconst (v := nI 0) hC dX8_clear_31 (by decide +kernel) ?_
  refine o_iastN (t0 := 0) hC rfl dX8_clear_32 (by repeat (first | with_reducible assumption | (rw [rl_u_s]; done) | (rw [rl_u_s]; rfl) | rw [rl_u_n (by first | with_reducible assumption | omega)])) (by omega) (by decide) ?_
  refine o_vret hC hB dX8_clear_33 (Nat.le_of_ble_eq_true rfl) (Nat.le_of_ble_eq_true rfl) ?_
  exact ⟨rfl, rfl⟩

set_option maxHeartbeats 4000000 in
set_option maxRecDepth 100000 in
theorem fr_X8_source (l : Launch) (D : va_G) (ids : Nat → ClassId) (H0 : Heap) (h : rl_H) (n : Nat) (m : Nat) (c : Int32) (hm : md_new ids h m) : rl_Met l (rl_e D ids H0) rl_BW rl_Ns yX8_source cX8_source 2 (some .int) ({ frames := 0, cells := 0, slots := 0, locals := 0 }) [.ref m, .int c] h n (fun v h' n' => v = some (.int (if c < nI 1 ∨ ¬ c ≤ nI 4 then -2 else nI 0)) ∧ n' = n) := by
  obtain ⟨m0, m1, m2, m3, m4, m5, m6, m7, m8, m9, m10, m11, m12, m13, m14, m15, m16, m17, m18, m19, m20, m21, m22⟩ := id hm
  refine rl_Met.of (by decide +kernel) (Nat.le_of_ble_eq_true rfl) ?_
  intro X hC hB
  show rl_G X (rl_e D ids H0) 0 [some (.ref m), some (.int c)] [] h n 0 0
  refine o_aload_n hC dX8_source_0 (by rfl) ?_
  refine o_iconst (v := nI 0) hC dX8_source_1 (by decide +kernel) ?_
  refine o_putf hC (fX8_78 hC rfl) (fwX8 rfl rfl rfl (Or.inl rfl)) dX8_source_2 (by repeat (first | with_reducible assumption | (rw [rl_u_s]; done) | (rw [rl_u_s]; rfl) | rw [rl_u_n (by first | with_reducible assumption | omega)])) (Nat.le_of_ble_eq_true rfl) ?_
  try simp only [List.set_cons_zero, List.set_cons_succ]
  refine o_iload_n hC dX8_source_5 (by rfl) ?_
  refine o_iconst (v := nI 1) hC dX8_source_6 (by decide +kernel) ?_
  refine o_icmp_lt (tgt := 15) hC dX8_source_7 (by decide) (fun c_7 => ?_) (fun c_7 => ?_)
  · refine o_bipush (v := (-2 : Int32)) hC dX8_source_15 (by decide +kernel) ?_
    refine o_iret hC hB dX8_source_17 (Nat.le_of_ble_eq_true rfl) (Nat.le_of_ble_eq_true rfl) ?_
    refine ⟨?_, rfl⟩
    first | rw [if_pos (Or.inl c_7)] | rw [if_pos (Or.inr c_12)] | (rw [if_neg (fun q => q.elim c_7 (fun q => q c_12))]; rfl)
  · refine o_iload_n hC dX8_source_10 (by rfl) ?_
    refine o_iconst (v := nI 4) hC dX8_source_11 (by decide +kernel) ?_
    refine o_icmp_le (tgt := 18) hC dX8_source_12 (by decide) (fun c_12 => ?_) (fun c_12 => ?_)
    · refine o_aload_n hC dX8_source_18 (by rfl) ?_
      refine o_getf hC (fX8_109 hC rfl) dX8_source_19 (by repeat (first | with_reducible assumption | (rw [rl_u_s]; done) | (rw [rl_u_s]; rfl) | rw [rl_u_n (by first | with_reducible assumption | omega)])) (by first | rfl | with_reducible assumption) ?_
      refine o_iconst (v := nI 4) hC dX8_source_22 (by decide +kernel) ?_
      refine o_icmp_ne (tgt := 29) hC dX8_source_23 (by decide) (fun c_23 => ?_) (fun c_23 => ?_)
      · refine o_aload_n hC dX8_source_29 (by rfl) ?_
        refine o_getf hC (fX8_7 hC rfl) dX8_source_30 (by repeat (first | with_reducible assumption | (rw [rl_u_s]; done) | (rw [rl_u_s]; rfl) | rw [rl_u_n (by first | with_reducible assumption | omega)])) (by first | rfl | with_reducible assumption) ?_
        refine o_aload_n hC dX8_source_33 (by rfl) ?_
        refine o_getf hC (fX8_109 hC rfl) dX8_source_34 (by repeat (first | with_reducible assumption | (rw [rl_u_s]; done) | (rw [rl_u_s]; rfl) | rw [rl_u_n (by first | with_reducible assumption | omega)])) (by first | rfl | with_reducible assumption) ?_
        refine o_iload_n hC dX8_source_37 (by rfl) ?_
        refine o_iastN (t0 := 0) hC rfl dX8_source_38 (by repeat (first | with_reducible assumption | (rw [rl_u_s]; done) | (rw [rl_u_s]; rfl) | rw [rl_u_n (by first | with_reducible assumption | omega)])) (by omega) (by decide) ?_
        refine o_aload_n hC dX8_source_39 (by rfl) ?_
        refine o_dup hC dX8_source_40 rfl ?_
        refine o_getf hC (fX8_109 hC rfl) dX8_source_41 (by repeat (first | with_reducible assumption | (rw [rl_u_s]; done) | (rw [rl_u_s]; rfl) | rw [rl_u_n (by first | with_reducible assumption | omega)])) (by first | rfl | with_reducible assumption) ?_
        refine o_iconst (v := nI 1) hC dX8_source_44 (by decide +kernel) ?_
        refine o_iadd hC dX8_source_45 ?_
        refine o_putf hC (fX8_109 hC rfl) (fwX8 rfl rfl rfl (Or.inl rfl)) dX8_source_46 (by repeat (first | with_reducible assumption | (rw [rl_u_s]; done) | (rw [rl_u_s]; rfl) | rw [rl_u_n (by first | with_reducible assumption | omega)])) (Nat.le_of_ble_eq_true rfl) ?_
        try simp only [List.set_cons_zero, List.set_cons_succ]
        refine o_aload_n hC dX8_source_49 (by rfl) ?_
        refine o_getf hC (fX8_109 hC rfl) dX8_source_50 (by repeat (first | with_reducible assumption | (rw [rl_u_s]; done) | (rw [rl_u_s]; rfl) | rw [rl_u_n (by first | with_reducible assumption | omega)])) (by first | rfl | with_reducible assumption) ?_
        refine o_iconst (v := nI 1) hC dX8_source_53 (by decide +kernel) ?_
        refine o_isub hC dX8_source_54 ?_
        refine o_iret hC hB dX8_source_55 (Nat.le_of_ble_eq_true rfl) (Nat.le_of_ble_eq_true rfl) ?_
        refine ⟨?_, rfl⟩
        first | rw [if_pos (Or.inl c_7)] | rw [if_pos (Or.inr c_12)] | (rw [if_neg (fun q => q.elim c_7 (fun q => q c_12))]; rfl)
      · exact absurd c_23 (by decide +kernel)
    · refine o_bipush (v := (-2 : Int32)) hC dX8_source_15 (by decide +kernel) ?_
      refine o_iret hC hB dX8_source_17 (Nat.le_of_ble_eq_true rfl) (Nat.le_of_ble_eq_true rfl) ?_
      refine ⟨?_, rfl⟩
      first | rw [if_pos (Or.inl c_7)] | rw [if_pos (Or.inr c_12)] | (rw [if_neg (fun q => q.elim c_7 (fun q => q c_12))]; rfl)
