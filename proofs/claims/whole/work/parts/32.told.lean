/-! told and clear on fresh objects -/
theorem rl_out {w : Int32} {k : Nat} (hk : k < 2 ^ 31) (h : w < 0 ∨ nI k < w) : w.toInt < 0 ∨ (k : Int) < w.toInt := by
  rcases h with h | h
  · have h2 := Int32.lt_iff_toInt_lt.mp h
    exact Or.inl (by simpa using h2)
  · have h2 := Int32.lt_iff_toInt_lt.mp h
    rw [nI_toInt hk] at h2
    exact Or.inr h2
theorem rl_inn {w : Int32} {k : Nat} (hk : k < 2 ^ 31) (h : ¬ (w < 0 ∨ nI k < w)) : ∃ j : Nat, j ≤ k ∧ w = nI j :=
  nI_of2 (M := nI k) (nI_toInt hk) (fun q => h (Or.inl q)) (Int32.not_lt.mp (fun q => h (Or.inr q)))
theorem rl_on0 : ∀ j, j < 36 → ¬ lg_cmp (((0 : Int64) >>> ((nI j).toInt64 &&& 63)) &&& 1) 1 = 0 := by decide +kernel

set_option maxHeartbeats 4000000 in
set_option maxRecDepth 100000 in
theorem fr_X4_howManyHold (l : Launch) (D : va_G) (ids : Nat → ClassId) (H0 : Heap) (h : rl_H) (n : Nat) (a : Nat) (tv wv : Value) (x : Int64) (h1 : h a = some (.inr (4, [tv, .int (nI 0), wv]))) : rl_Met l (rl_e D ids H0) rl_BW rl_Ns yX4_howManyHold cX4_howManyHold 5 (some .int) ({ frames := 2, cells := 0, slots := 0, locals := 45 }) [.ref a, .long x] h n (fun v h' n' => v = some (.int (nI 0)) ∧ h' = h ∧ n' = n) := by
  refine rl_Met.of (by decide +kernel) (Nat.le_of_ble_eq_true rfl) ?_
  intro X hC hB
  show rl_G X (rl_e D ids H0) 0 [some (.ref a), some (.long x), none, none, none] [] h n 0 0
  refine o_iconst (v := nI 0) hC dX4_howManyHold_0 (by decide +kernel) ?_
  refine o_istore_n hC dX4_howManyHold_1 (Nat.le_of_ble_eq_true rfl) ?_
  refine o_iconst (v := nI 0) hC dX4_howManyHold_2 (by decide +kernel) ?_
  refine o_istore hC dX4_howManyHold_3 (Nat.le_of_ble_eq_true rfl) ?_
  refine o_iload hC dX4_howManyHold_5 (by rfl) ?_
  refine o_aload_n hC dX4_howManyHold_7 (by rfl) ?_
  refine o_getf hC (fX4_18 hC rfl) dX4_howManyHold_8 (by repeat (first | with_reducible assumption | (rw [rl_u_s]; done) | (rw [rl_u_s]; rfl) | rw [rl_u_n (by first | with_reducible assumption | omega)])) (by first | rfl | with_reducible assumption) ?_
  refine o_icmp_ge (tgt := 40) hC dX4_howManyHold_11 (by decide) (fun c_11 => ?_) (fun c_11 => ?_)
  · refine o_iload_n hC dX4_howManyHold_40 (by rfl) ?_
    refine o_iret hC hB dX4_howManyHold_41 (Nat.le_of_ble_eq_true rfl) (Nat.le_of_ble_eq_true rfl) ?_
    exact ⟨rfl, rfl, rfl⟩
  · exact absurd (by decide +kernel) c_11

set_option maxHeartbeats 4000000 in
set_option maxRecDepth 100000 in
theorem fr_X7_told (l : Launch) (D : va_G) (ids : Nat → ClassId) (H0 : Heap) (h : rl_H) (n : Nat) (x : Nat) (w : Int32) (hx : rw_new ids h x) : rl_Met l (rl_e D ids H0) rl_BW rl_Ns yX7_told cX7_told 2 (some .int) ({ frames := 3, cells := 0, slots := 0, locals := 69 }) [.ref x, .int w] h n (fun v h' n' => v = some (.int (if w < 0 ∨ nI 5 < w then -2 else nI 0)) ∧ h' = h ∧ n' = n) := by
  obtain ⟨h1, hso, hop, hnd, htb, hno, hbl⟩ := id hx
  refine rl_Met.of (by decide +kernel) (Nat.le_of_ble_eq_true rfl) ?_
  intro X hC hB
  show rl_G X (rl_e D ids H0) 0 [some (.ref x), some (.int w)] [] h n 0 0
  refine o_iload_n hC dX7_told_0 (by rfl) ?_
  obtain ⟨h2, h3, h4, h5, h6, h7, h8⟩ := id hso
  by_cases hw : w < 0 ∨ nI 5 < w
  · refine o_tableOut (tgt := 97) hC dX7_told_1 (rl_out (by decide) hw) (by decide) ?_
    refine o_bipush (v := (-2 : Int32)) hC dX7_told_97 (by decide +kernel) ?_
    refine o_iret hC hB dX7_told_99 (Nat.le_of_ble_eq_true rfl) (Nat.le_of_ble_eq_true rfl) ?_
    refine ⟨?_, rfl, rfl⟩
    first | rw [if_pos hw] | (rw [if_neg (by decide +kernel)]; done) | (rw [if_neg (by decide +kernel)]; rfl) | (rw [if_neg (by decide +kernel)]; decide +kernel)
  · obtain ⟨j, hj, rfl⟩ := rl_inn (by decide) hw
    rcases (show j = 0 ∨ j = 1 ∨ j = 2 ∨ j = 3 ∨ j = 4 ∨ j = 5 by omega) with rfl | rfl | rfl | rfl | rfl | rfl
    · refine o_tableIn (off := 39) (tgt := 40) hC dX7_told_1 (by decide +kernel) (by decide +kernel) (by decide +kernel) (by decide) ?_
      refine o_aload_n hC dX7_told_40 (by rfl) ?_
      refine o_getf hC (fX7_10 hC rfl) dX7_told_41 (by repeat (first | with_reducible assumption | (rw [rl_u_s]; done) | (rw [rl_u_s]; rfl) | rw [rl_u_n (by first | with_reducible assumption | omega)])) (by first | rfl | with_reducible assumption) ?_
      refine o_getf hC (fX7_53 hC rfl) dX7_told_44 (by repeat (first | with_reducible assumption | (rw [rl_u_s]; done) | (rw [rl_u_s]; rfl) | rw [rl_u_n (by first | with_reducible assumption | omega)])) (by first | rfl | with_reducible assumption) ?_
      refine o_iret hC hB dX7_told_47 (Nat.le_of_ble_eq_true rfl) (Nat.le_of_ble_eq_true rfl) ?_
      refine ⟨?_, rfl, rfl⟩
      first | rw [if_pos hw] | (rw [if_neg (by decide +kernel)]; done) | (rw [if_neg (by decide +kernel)]; rfl) | (rw [if_neg (by decide +kernel)]; decide +kernel)
    · refine o_tableIn (off := 47) (tgt := 48) hC dX7_told_1 (by decide +kernel) (by decide +kernel) (by decide +kernel) (by decide) ?_
      refine o_aload_n hC dX7_told_48 (by rfl) ?_
      refine o_getf hC (fX7_10 hC rfl) dX7_told_49 (by repeat (first | with_reducible assumption | (rw [rl_u_s]; done) | (rw [rl_u_s]; rfl) | rw [rl_u_n (by first | with_reducible assumption | omega)])) (by first | rfl | with_reducible assumption) ?_
      refine o_getf hC (fX7_64 hC rfl) dX7_told_52 (by repeat (first | with_reducible assumption | (rw [rl_u_s]; done) | (rw [rl_u_s]; rfl) | rw [rl_u_n (by first | with_reducible assumption | omega)])) (by first | rfl | with_reducible assumption) ?_
      refine o_iret hC hB dX7_told_55 (Nat.le_of_ble_eq_true rfl) (Nat.le_of_ble_eq_true rfl) ?_
      refine ⟨?_, rfl, rfl⟩
      first | rw [if_pos hw] | (rw [if_neg (by decide +kernel)]; done) | (rw [if_neg (by decide +kernel)]; rfl) | (rw [if_neg (by decide +kernel)]; decide +kernel)
    · refine o_tableIn (off := 55) (tgt := 56) hC dX7_told_1 (by decide +kernel) (by decide +kernel) (by decide +kernel) (by decide) ?_
      refine o_aload_n hC dX7_told_56 (by rfl) ?_
      refine o_getf hC (fX7_78 hC rfl) dX7_told_57 (by repeat (first | with_reducible assumption | (rw [rl_u_s]; done) | (rw [rl_u_s]; rfl) | rw [rl_u_n (by first | with_reducible assumption | omega)])) (by first | rfl | with_reducible assumption) ?_
      refine o_iret hC hB dX7_told_60 (Nat.le_of_ble_eq_true rfl) (Nat.le_of_ble_eq_true rfl) ?_
      refine ⟨?_, rfl, rfl⟩
      first | rw [if_pos hw] | (rw [if_neg (by decide +kernel)]; done) | (rw [if_neg (by decide +kernel)]; rfl) | (rw [if_neg (by decide +kernel)]; decide +kernel)
    · refine o_tableIn (off := 60) (tgt := 61) hC dX7_told_1 (by decide +kernel) (by decide +kernel) (by decide +kernel) (by decide) ?_
      refine o_aload_n hC dX7_told_61 (by rfl) ?_
      refine o_aload_n hC dX7_told_62 (by rfl) ?_
      refine o_getf hC (fX7_49 hC rfl) dX7_told_63 (by repeat (first | with_reducible assumption | (rw [rl_u_s]; done) | (rw [rl_u_s]; rfl) | rw [rl_u_n (by first | with_reducible assumption | omega)])) (by first | rfl | with_reducible assumption) ?_
      refine o_callV1 hC rl_BW_good rl_Ns_nw (by exact hB.2.2.2.2.2) YX7_tableOf IX7_tableOf VX7_tableOf (mX7_127 hC) (by rw [hB.1]; exact fr_X7_tableOf l D ids H0 h n x _ hx) (by exact h1) rfl rfl (Nat.le_of_ble_eq_true rfl) (by rw [hB.2.1]; first | exact Nat.le_of_ble_eq_true rfl | (dsimp only; omega)) (by rw [hB.2.1]; first | exact Nat.le_of_ble_eq_true rfl | (dsimp only; omega)) (by rw [hB.2.1]; first | exact Nat.le_of_ble_eq_true rfl | (dsimp only; omega)) (by rw [hB.2.1]; first | exact Nat.le_of_ble_eq_true rfl | (dsimp only; omega)) dX7_told_66 (fun v h_66 n_66 p_66 => ?_)
      obtain ⟨rfl, rfl, rfl⟩ := p_66
      try dsimp only [Option.toList, List.cons_append, List.nil_append]
      refine o_getf hC (fX7_138 hC rfl) dX7_told_69 (by repeat (first | with_reducible assumption | (rw [rl_u_s]; done) | (rw [rl_u_s]; rfl) | rw [rl_u_n (by first | with_reducible assumption | omega)])) (by first | rfl | with_reducible assumption) ?_
      refine o_iret hC hB dX7_told_72 (Nat.le_of_ble_eq_true rfl) (Nat.le_of_ble_eq_true rfl) ?_
      refine ⟨?_, rfl, rfl⟩
      first | rw [if_pos hw] | (rw [if_neg (by decide +kernel)]; done) | (rw [if_neg (by decide +kernel)]; rfl) | (rw [if_neg (by decide +kernel)]; decide +kernel)
    · refine o_tableIn (off := 72) (tgt := 73) hC dX7_told_1 (by decide +kernel) (by decide +kernel) (by decide +kernel) (by decide) ?_
      refine o_aload_n hC dX7_told_73 (by rfl) ?_
      refine o_aload_n hC dX7_told_74 (by rfl) ?_
      refine o_getf hC (fX7_49 hC rfl) dX7_told_75 (by repeat (first | with_reducible assumption | (rw [rl_u_s]; done) | (rw [rl_u_s]; rfl) | rw [rl_u_n (by first | with_reducible assumption | omega)])) (by first | rfl | with_reducible assumption) ?_
      refine o_callV1 hC rl_BW_good rl_Ns_nw (by exact hB.2.2.2.2.2) YX7_tableOf IX7_tableOf VX7_tableOf (mX7_127 hC) (by rw [hB.1]; exact fr_X7_tableOf l D ids H0 h n x _ hx) (by exact h1) rfl rfl (Nat.le_of_ble_eq_true rfl) (by rw [hB.2.1]; first | exact Nat.le_of_ble_eq_true rfl | (dsimp only; omega)) (by rw [hB.2.1]; first | exact Nat.le_of_ble_eq_true rfl | (dsimp only; omega)) (by rw [hB.2.1]; first | exact Nat.le_of_ble_eq_true rfl | (dsimp only; omega)) (by rw [hB.2.1]; first | exact Nat.le_of_ble_eq_true rfl | (dsimp only; omega)) dX7_told_78 (fun v h_78 n_78 p_78 => ?_)
      obtain ⟨rfl, rfl, rfl⟩ := p_78
      try dsimp only [Option.toList, List.cons_append, List.nil_append]
      refine o_aload_n hC dX7_told_81 (by rfl) ?_
      refine o_getf hC (fX7_71 hC rfl) dX7_told_82 (by repeat (first | with_reducible assumption | (rw [rl_u_s]; done) | (rw [rl_u_s]; rfl) | rw [rl_u_n (by first | with_reducible assumption | omega)])) (by first | rfl | with_reducible assumption) ?_
      refine o_callV1 hC rl_BW_good rl_Ns_nw (by exact hB.2.2.2.2.2) YX4_howManyHold IX4_howManyHold VX4_howManyHold (mX7_223 hC) (by rw [hB.1]; exact fr_X4_howManyHold l D ids H0 _ _ (x + 65) _ _ _ hno) (by exact hno) rfl rfl (Nat.le_of_ble_eq_true rfl) (by rw [hB.2.1]; first | exact Nat.le_of_ble_eq_true rfl | (dsimp only; omega)) (by rw [hB.2.1]; first | exact Nat.le_of_ble_eq_true rfl | (dsimp only; omega)) (by rw [hB.2.1]; first | exact Nat.le_of_ble_eq_true rfl | (dsimp only; omega)) (by rw [hB.2.1]; first | exact Nat.le_of_ble_eq_true rfl | (dsimp only; omega)) dX7_told_85 (fun v h_85 n_85 p_85 => ?_)
      obtain ⟨rfl, rfl, rfl⟩ := p_85
      try dsimp only [Option.toList, List.cons_append, List.nil_append]
      refine o_iret hC hB dX7_told_88 (Nat.le_of_ble_eq_true rfl) (Nat.le_of_ble_eq_true rfl) ?_
      refine ⟨?_, rfl, rfl⟩
      first | rw [if_pos hw] | (rw [if_neg (by decide +kernel)]; done) | (rw [if_neg (by decide +kernel)]; rfl) | (rw [if_neg (by decide +kernel)]; decide +kernel)
    · refine o_tableIn (off := 88) (tgt := 89) hC dX7_told_1 (by decide +kernel) (by decide +kernel) (by decide +kernel) (by decide) ?_
      refine o_aload_n hC dX7_told_89 (by rfl) ?_
      refine o_getf hC (fX7_71 hC rfl) dX7_told_90 (by repeat (first | with_reducible assumption | (rw [rl_u_s]; done) | (rw [rl_u_s]; rfl) | rw [rl_u_n (by first | with_reducible assumption | omega)])) (by first | rfl | with_reducible assumption) ?_
      refine o_callS1 hC rl_BW_good rl_Ns_nw (by exact hB.2.2.2.2.2) YJ13_bitCount_95d88 SJ13_bitCount_95d88 (mX7_203 hC) (by rw [hB.1]; exact ct_J13_bitCount_95d88 l D ids H0 h n 0) (Nat.le_of_ble_eq_true rfl) (by rw [hB.2.1]; first | exact Nat.le_of_ble_eq_true rfl | (dsimp only; omega)) (by rw [hB.2.1]; first | exact Nat.le_of_ble_eq_true rfl | (dsimp only; omega)) (by rw [hB.2.1]; first | exact Nat.le_of_ble_eq_true rfl | (dsimp only; omega)) (by rw [hB.2.1]; first | exact Nat.le_of_ble_eq_true rfl | (dsimp only; omega)) dX7_told_93 (fun v h_93 n_93 p_93 => ?_)
      obtain ⟨rfl, rfl, rfl⟩ := p_93
      try dsimp only [Option.toList, List.cons_append, List.nil_append]
      refine o_iret hC hB dX7_told_96 (Nat.le_of_ble_eq_true rfl) (Nat.le_of_ble_eq_true rfl) ?_
      refine ⟨?_, rfl, rfl⟩
      first | rw [if_pos hw] | (rw [if_neg (by decide +kernel)]; done) | (rw [if_neg (by decide +kernel)]; rfl) | (rw [if_neg (by decide +kernel)]; decide +kernel)

set_option maxHeartbeats 4000000 in
set_option maxRecDepth 100000 in
theorem fr_X7_forgetWhatNodesGave (l : Launch) (D : va_G) (ids : Nat → ClassId) (H0 : Heap) (h : rl_H) (n : Nat) (x : Nat) (a0 a1 a2 a3 a4 a5 : Value) (rs : Int32) (pr : Int64) (h1 : h x = some (.inr (7, [a0, a1, a2, a3, a4, a5, .int (nI 0), .int rs, .long pr]))) : rl_Met l (rl_e D ids H0) rl_BW rl_Ns yX7_forgetWhatNodesGave cX7_forgetWhatNodesGave 2 none ({ frames := 0, cells := 0, slots := 0, locals := 0 }) [.ref x] h n (fun v h' n' => v = none ∧ n' = n ∧ h' x = some (.inr (7, [a0, a1, a2, a3, a4, a5, .int (nI 0), .int (-1), .long pr])) ∧ rl_fr h h' x (x + 1)) := by
  refine rl_Met.of (by decide +kernel) (Nat.le_of_ble_eq_true rfl) ?_
  intro X hC hB
  show rl_G X (rl_e D ids H0) 0 [some (.ref x), none] [] h n 0 0
  refine o_iconst (v := nI 0) hC dX7_forgetWhatNodesGave_0 (by decide +kernel) ?_
  refine o_istore_n hC dX7_forgetWhatNodesGave_1 (Nat.le_of_ble_eq_true rfl) ?_
  refine o_iload_n hC dX7_forgetWhatNodesGave_2 (by rfl) ?_
  refine o_aload_n hC dX7_forgetWhatNodesGave_3 (by rfl) ?_
  refine o_getf hC (fX7_78 hC rfl) dX7_forgetWhatNodesGave_4 (by repeat (first | with_reducible assumption | (rw [rl_u_s]; done) | (rw [rl_u_s]; rfl) | rw [rl_u_n (by first | with_reducible assumption | omega)])) (by first | rfl | with_reducible assumption) ?_
  refine o_icmp_ge (tgt := 26) hC dX7_forgetWhatNodesGave_7 (by decide) (fun c_7 => ?_) (fun c_7 => ?_)
  · refine o_aload_n hC dX7_forgetWhatNodesGave_26 (by rfl) ?_
    refine o_iconst (v := (-1 : Int32)) hC dX7_forgetWhatNodesGave_27 (by decide +kernel) ?_
    refine o_putf hC (fX7_49 hC rfl) (fwX7 rfl rfl rfl (Or.inl rfl)) dX7_forgetWhatNodesGave_28 (by repeat (first | with_reducible assumption | (rw [rl_u_s]; done) | (rw [rl_u_s]; rfl) | rw [rl_u_n (by first | with_reducible assumption | omega)])) (Nat.le_of_ble_eq_true rfl) ?_
    try simp only [List.set_cons_zero, List.set_cons_succ]
    refine o_vret hC hB dX7_forgetWhatNodesGave_31 (Nat.le_of_ble_eq_true rfl) (Nat.le_of_ble_eq_true rfl) ?_
    refine ⟨rfl, rfl, by repeat (first | with_reducible assumption | (rw [rl_u_s]; done) | (rw [rl_u_s]; rfl) | rw [rl_u_n (by first | with_reducible assumption | omega)]), fun q hq => rl_u_n (by omega)⟩
  · exact absurd (by decide +kernel) c_7

set_option maxHeartbeats 4000000 in
set_option maxRecDepth 100000 in
theorem fr_X7_clear (l : Launch) (D : va_G) (ids : Nat → ClassId) (H0 : Heap) (h : rl_H) (n : Nat) (x : Nat) (hx : rw_new ids h x) : rl_Met l (rl_e D ids H0) rl_BW rl_Ns yX7_clear cX7_clear 1 none ({ frames := 1, cells := 0, slots := 0, locals := 21 }) [.ref x] h n (fun v h' n' => v = none ∧ n' = n ∧ rl_fr h h' x (x + 41)) := by
  obtain ⟨h1, hso, hop, hnd, htb, hno, hbl⟩ := id hx
  refine rl_Met.of (by decide +kernel) (Nat.le_of_ble_eq_true rfl) ?_
  intro X hC hB
  show rl_G X (rl_e D ids H0) 0 [some (.ref x)] [] h n 0 0
  refine o_aload_n hC dX7_clear_0 (by rfl) ?_
  refine o_getf hC (fX7_10 hC rfl) dX7_clear_1 (by repeat (first | with_reducible assumption | (rw [rl_u_s]; done) | (rw [rl_u_s]; rfl) | rw [rl_u_n (by first | with_reducible assumption | omega)] | rw [p2 _ (by omega)] | rw [q2 _ (by omega)])) (by first | rfl | with_reducible assumption) ?_
  refine o_callV0 hC rl_BW_good rl_Ns_nw (by exact hB.2.2.2.2.2) YX3_forgetAll IX3_forgetAll VX3_forgetAll (mX7_226 hC) (by rw [hB.1]; exact ct_X3_forgetAll l D ids H0 h n (x + 1) _ _ _ 0 0 hso) (by exact hso.1) rfl rfl (Nat.le_of_ble_eq_true rfl) (by rw [hB.2.1]; first | exact Nat.le_of_ble_eq_true rfl | (dsimp only; omega)) (by rw [hB.2.1]; first | exact Nat.le_of_ble_eq_true rfl | (dsimp only; omega)) (by rw [hB.2.1]; first | exact Nat.le_of_ble_eq_true rfl | (dsimp only; omega)) (by rw [hB.2.1]; first | exact Nat.le_of_ble_eq_true rfl | (dsimp only; omega)) dX7_clear_4 (fun v h_4 n_4 p_4 => ?_)
  obtain ⟨rfl, rfl, p1, p2⟩ := p_4
  have r1 : h_4 x = some (.inr (7, [.ref (x + 1), .ref (x + 41), .ref (x + 63), .ref (x + 64), .ref (x + 65), .ref (x + 67), .int (nI 0), .int (-1), .long 0])) := by
    rw [p2 x (by omega)]
    exact h1
  try dsimp only [Option.toList, List.cons_append, List.nil_append]
  refine o_aload_n hC dX7_clear_7 (by rfl) ?_
  refine o_callV0 hC rl_BW_good rl_Ns_nw (by exact hB.2.2.2.2.2) YX7_forgetWhatNodesGave IX7_forgetWhatNodesGave VX7_forgetWhatNodesGave (mX7_75 hC) (by rw [hB.1]; exact fr_X7_forgetWhatNodesGave l D ids H0 _ _ x _ _ _ _ _ _ _ _ r1) (by exact r1) rfl rfl (Nat.le_of_ble_eq_true rfl) (by rw [hB.2.1]; first | exact Nat.le_of_ble_eq_true rfl | (dsimp only; omega)) (by rw [hB.2.1]; first | exact Nat.le_of_ble_eq_true rfl | (dsimp only; omega)) (by rw [hB.2.1]; first | exact Nat.le_of_ble_eq_true rfl | (dsimp only; omega)) (by rw [hB.2.1]; first | exact Nat.le_of_ble_eq_true rfl | (dsimp only; omega)) dX7_clear_8 (fun v h_8 n_8 p_8 => ?_)
  obtain ⟨rfl, rfl, q1, q2⟩ := p_8
  try dsimp only [Option.toList, List.cons_append, List.nil_append]
  refine o_aload_n hC dX7_clear_11 (by rfl) ?_
  refine o_iconst (v := nI 0) hC dX7_clear_12 (by decide +kernel) ?_
  refine o_putf hC (fX7_78 hC rfl) (fwX7 rfl rfl rfl (Or.inl rfl)) dX7_clear_13 (by repeat (first | with_reducible assumption | (rw [rl_u_s]; done) | (rw [rl_u_s]; rfl) | rw [rl_u_n (by first | with_reducible assumption | omega)] | rw [p2 _ (by omega)] | rw [q2 _ (by omega)])) (Nat.le_of_ble_eq_true rfl) ?_
  try simp only [List.set_cons_zero, List.set_cons_succ]
  refine o_aload_n hC dX7_clear_16 (by rfl) ?_
  refine o_lconst (v := 0) hC dX7_clear_17 (by decide +kernel) ?_
  refine o_putf hC (fX7_71 hC rfl) (fwX7 rfl rfl rfl (Or.inl rfl)) dX7_clear_18 (by repeat (first | with_reducible assumption | (rw [rl_u_s]; done) | (rw [rl_u_s]; rfl) | rw [rl_u_n (by first | with_reducible assumption | omega)] | rw [p2 _ (by omega)] | rw [q2 _ (by omega)])) (Nat.le_of_ble_eq_true rfl) ?_
  try simp only [List.set_cons_zero, List.set_cons_succ]
  refine o_vret hC hB dX7_clear_21 (Nat.le_of_ble_eq_true rfl) (Nat.le_of_ble_eq_true rfl) ?_
  refine ⟨rfl, rfl, fun q hq => ?_⟩
  rw [rl_u_n (by omega), rl_u_n (by omega), q2 q (by omega)]
  exact p2 q (by omega)

set_option maxHeartbeats 4000000 in
set_option maxRecDepth 100000 in
theorem fr_X8_ones (l : Launch) (D : va_G) (ids : Nat → ClassId) (H0 : Heap) (h : rl_H) (n : Nat)   : rl_Met l (rl_e D ids H0) rl_BW rl_Ns yX8_ones cX8_ones 4 (some .int) ({ frames := 0, cells := 0, slots := 0, locals := 0 }) [.long 0] h n (fun v h' n' => v = some (.int (nI 0)) ∧ h' = h ∧ n' = n) := by
  refine rl_Met.of (by decide +kernel) (Nat.le_of_ble_eq_true rfl) ?_
  intro X hC hB
  have loop : ∀ (k j : Nat), j + k = 36 → rl_G X (rl_e D ids H0) 4 [some (.long 0), none, some (.int (nI 0)), some (.int (nI j))] [] h n 0 0 := by
    intro k
    induction k with
    | zero =>
      intro j hj
      refine o_iload_n hC dX8_ones_4 (by rfl) ?_
      refine o_bipush (v := nI 36) hC dX8_ones_5 (by decide +kernel) ?_
      refine o_icmp_ge (tgt := 34) hC dX8_ones_7 (by decide) (fun c_7 => ?_) (fun c_7 => ?_)
      · refine o_iload_n hC dX8_ones_34 (by rfl) ?_
        refine o_iret hC hB dX8_ones_35 (Nat.le_of_ble_eq_true rfl) (Nat.le_of_ble_eq_true rfl) ?_
        exact ⟨rfl, rfl, rfl⟩
      · exact absurd (nI_le (by omega) (by omega)) c_7
    | succ k ih =>
      intro j hj
      refine o_iload_n hC dX8_ones_4 (by rfl) ?_
      refine o_bipush (v := nI 36) hC dX8_ones_5 (by decide +kernel) ?_
      refine o_icmp_ge (tgt := 34) hC dX8_ones_7 (by decide) (fun c_7 => ?_) (fun c_7 => ?_)
      · exact absurd c_7 (nI_ge (by omega) (by omega))
      · refine o_iload_n hC dX8_ones_10 (by rfl) ?_
        refine o_lload_n hC dX8_ones_11 (by rfl) ?_
        refine o_iload_n hC dX8_ones_12 (by rfl) ?_
        refine o_lshr hC dX8_ones_13 ?_
        refine o_lconst (v := 1) hC dX8_ones_14 (by decide +kernel) ?_
        refine o_land hC dX8_ones_15 ?_
        refine o_lconst (v := 1) hC dX8_ones_16 (by decide +kernel) ?_
        refine o_lcmp hC dX8_ones_17 ?_
        refine o_if_ne (tgt := 25) hC dX8_ones_18 (by decide) (fun c_18 => ?_) (fun c_18 => ?_)
        · refine o_iconst (v := nI 0) hC dX8_ones_25 (by decide +kernel) ?_
          refine o_iadd hC dX8_ones_26 ?_
          refine o_istore_n hC dX8_ones_27 (Nat.le_of_ble_eq_true rfl) ?_
          refine o_iinc hC dX8_ones_28 (by rfl) (rl_inc _) (Nat.le_of_ble_eq_true rfl) ?_
          refine o_goto (tgt := 4) hC dX8_ones_31 (by decide) ?_
          exact ih (j + 1) (by omega)
        · exact absurd c_18 (rl_on0 j (by omega))
  show rl_G X (rl_e D ids H0) 0 [some (.long 0), none, none, none] [] h n 0 0
  refine o_iconst (v := nI 0) hC dX8_ones_0 (by decide +kernel) ?_
  refine o_istore_n hC dX8_ones_1 (Nat.le_of_ble_eq_true rfl) ?_
  refine o_iconst (v := nI 0) hC dX8_ones_2 (by decide +kernel) ?_
  refine o_istore_n hC dX8_ones_3 (Nat.le_of_ble_eq_true rfl) ?_
  exact loop 36 0 (by omega)

set_option maxHeartbeats 4000000 in
set_option maxRecDepth 100000 in
theorem fr_X8_told (l : Launch) (D : va_G) (ids : Nat → ClassId) (H0 : Heap) (h : rl_H) (n : Nat) (m : Nat) (w : Int32) (hm : md_new ids h m) : rl_Met l (rl_e D ids H0) rl_BW rl_Ns yX8_told cX8_told 4 (some .int) ({ frames := 1, cells := 0, slots := 0, locals := 23 }) [.ref m, .int w] h n (fun v h' n' => v = some (.int (if w < 0 ∨ nI 5 < w then -2 else nI 0)) ∧ n' = n) := by
  obtain ⟨m0, m1, m2, m3, m4, m5, m6, m7, m8, m9, m10, m11, m12, m13, m14, m15, m16, m17, m18, m19, m20, m21, m22⟩ := id hm
  refine rl_Met.of (by decide +kernel) (Nat.le_of_ble_eq_true rfl) ?_
  intro X hC hB
  show rl_G X (rl_e D ids H0) 0 [some (.ref m), some (.int w), none, none] [] h n 0 0
  refine o_aload_n hC dX8_told_0 (by rfl) ?_
  refine o_iconst (v := nI 0) hC dX8_told_1 (by decide +kernel) ?_
  refine o_putf hC (fX8_78 hC rfl) (fwX8 rfl rfl rfl (Or.inl rfl)) dX8_told_2 (by repeat (first | with_reducible assumption | (rw [rl_u_s]; done) | (rw [rl_u_s]; rfl) | rw [rl_u_n (by first | with_reducible assumption | omega)])) (Nat.le_of_ble_eq_true rfl) ?_
  try simp only [List.set_cons_zero, List.set_cons_succ]
  refine o_iconst (v := nI 0) hC dX8_told_5 (by decide +kernel) ?_
  refine o_istore_n hC dX8_told_6 (Nat.le_of_ble_eq_true rfl) ?_
  refine o_iload_n hC dX8_told_7 (by rfl) ?_
  by_cases hw : w < 0 ∨ nI 5 < w
  · refine o_tableOut (tgt := 120) hC dX8_told_8 (rl_out (by decide) hw) (by decide) ?_
    refine o_bipush (v := (-2 : Int32)) hC dX8_told_120 (by decide +kernel) ?_
    refine o_iret hC hB dX8_told_122 (Nat.le_of_ble_eq_true rfl) (Nat.le_of_ble_eq_true rfl) ?_
    refine ⟨?_, rfl⟩
    first | rw [if_pos hw] | (rw [if_neg (by decide +kernel)]; done) | (rw [if_neg (by decide +kernel)]; rfl) | (rw [if_neg (by decide +kernel)]; decide +kernel)
  · obtain ⟨j, hj, rfl⟩ := rl_inn (by decide) hw
    rcases (show j = 0 ∨ j = 1 ∨ j = 2 ∨ j = 3 ∨ j = 4 ∨ j = 5 by omega) with rfl | rfl | rfl | rfl | rfl | rfl
    · refine o_tableIn (off := 40) (tgt := 48) hC dX8_told_8 (by decide +kernel) (by decide +kernel) (by decide +kernel) (by decide) ?_
      refine o_aload_n hC dX8_told_48 (by rfl) ?_
      refine o_getf hC (fX8_109 hC rfl) dX8_told_49 (by repeat (first | with_reducible assumption | (rw [rl_u_s]; done) | (rw [rl_u_s]; rfl) | rw [rl_u_n (by first | with_reducible assumption | omega)])) (by first | rfl | with_reducible assumption) ?_
      refine o_iret hC hB dX8_told_52 (Nat.le_of_ble_eq_true rfl) (Nat.le_of_ble_eq_true rfl) ?_
      refine ⟨?_, rfl⟩
      first | rw [if_pos hw] | (rw [if_neg (by decide +kernel)]; done) | (rw [if_neg (by decide +kernel)]; rfl) | (rw [if_neg (by decide +kernel)]; decide +kernel)
    · refine o_tableIn (off := 45) (tgt := 53) hC dX8_told_8 (by decide +kernel) (by decide +kernel) (by decide +kernel) (by decide) ?_
      refine o_aload_n hC dX8_told_53 (by rfl) ?_
      refine o_getf hC (fX8_112 hC rfl) dX8_told_54 (by repeat (first | with_reducible assumption | (rw [rl_u_s]; done) | (rw [rl_u_s]; rfl) | rw [rl_u_n (by first | with_reducible assumption | omega)])) (by first | rfl | with_reducible assumption) ?_
      refine o_iret hC hB dX8_told_57 (Nat.le_of_ble_eq_true rfl) (Nat.le_of_ble_eq_true rfl) ?_
      refine ⟨?_, rfl⟩
      first | rw [if_pos hw] | (rw [if_neg (by decide +kernel)]; done) | (rw [if_neg (by decide +kernel)]; rfl) | (rw [if_neg (by decide +kernel)]; decide +kernel)
    · refine o_tableIn (off := 50) (tgt := 58) hC dX8_told_8 (by decide +kernel) (by decide +kernel) (by decide +kernel) (by decide) ?_
      refine o_aload_n hC dX8_told_58 (by rfl) ?_
      refine o_getf hC (fX8_119 hC rfl) dX8_told_59 (by repeat (first | with_reducible assumption | (rw [rl_u_s]; done) | (rw [rl_u_s]; rfl) | rw [rl_u_n (by first | with_reducible assumption | omega)])) (by first | rfl | with_reducible assumption) ?_
      refine o_iret hC hB dX8_told_62 (Nat.le_of_ble_eq_true rfl) (Nat.le_of_ble_eq_true rfl) ?_
      refine ⟨?_, rfl⟩
      first | rw [if_pos hw] | (rw [if_neg (by decide +kernel)]; done) | (rw [if_neg (by decide +kernel)]; rfl) | (rw [if_neg (by decide +kernel)]; decide +kernel)
    · refine o_tableIn (off := 55) (tgt := 63) hC dX8_told_8 (by decide +kernel) (by decide +kernel) (by decide +kernel) (by decide) ?_
      refine o_aload_n hC dX8_told_63 (by rfl) ?_
      refine o_getf hC (fX8_46 hC rfl) dX8_told_64 (by repeat (first | with_reducible assumption | (rw [rl_u_s]; done) | (rw [rl_u_s]; rfl) | rw [rl_u_n (by first | with_reducible assumption | omega)])) (by first | rfl | with_reducible assumption) ?_
      refine o_bipush (v := nI 16) hC dX8_told_67 (by decide +kernel) ?_
      refine o_ialdN (t0 := 0) hC rfl dX8_told_69 (by repeat (first | with_reducible assumption | (rw [rl_u_s]; done) | (rw [rl_u_s]; rfl) | rw [rl_u_n (by first | with_reducible assumption | omega)])) (by omega) (by decide) ?_
      refine o_iret hC hB dX8_told_70 (Nat.le_of_ble_eq_true rfl) (Nat.le_of_ble_eq_true rfl) ?_
      refine ⟨?_, rfl⟩
      first | rw [if_pos hw] | (rw [if_neg (by decide +kernel)]; done) | (rw [if_neg (by decide +kernel)]; rfl) | (rw [if_neg (by decide +kernel)]; decide +kernel)
    · refine o_tableIn (off := 63) (tgt := 71) hC dX8_told_8 (by decide +kernel) (by decide +kernel) (by decide +kernel) (by decide) ?_
      refine o_iconst (v := nI 0) hC dX8_told_71 (by decide +kernel) ?_
      refine o_istore_n hC dX8_told_72 (Nat.le_of_ble_eq_true rfl) ?_
      refine o_iload_n hC dX8_told_73 (by rfl) ?_
      refine o_aload_n hC dX8_told_74 (by rfl) ?_
      refine o_getf hC (fX8_46 hC rfl) dX8_told_75 (by repeat (first | with_reducible assumption | (rw [rl_u_s]; done) | (rw [rl_u_s]; rfl) | rw [rl_u_n (by first | with_reducible assumption | omega)])) (by first | rfl | with_reducible assumption) ?_
      refine o_bipush (v := nI 16) hC dX8_told_78 (by decide +kernel) ?_
      refine o_ialdN (t0 := 0) hC rfl dX8_told_80 (by repeat (first | with_reducible assumption | (rw [rl_u_s]; done) | (rw [rl_u_s]; rfl) | rw [rl_u_n (by first | with_reducible assumption | omega)])) (by omega) (by decide) ?_
      refine o_icmp_ge (tgt := 110) hC dX8_told_81 (by decide) (fun c_81 => ?_) (fun c_81 => ?_)
      · refine o_iload_n hC dX8_told_110 (by rfl) ?_
        refine o_iret hC hB dX8_told_111 (Nat.le_of_ble_eq_true rfl) (Nat.le_of_ble_eq_true rfl) ?_
        refine ⟨?_, rfl⟩
        first | rw [if_pos hw] | (rw [if_neg (by decide +kernel)]; done) | (rw [if_neg (by decide +kernel)]; rfl) | (rw [if_neg (by decide +kernel)]; decide +kernel)
      · exact absurd (by decide +kernel) c_81
    · refine o_tableIn (off := 104) (tgt := 112) hC dX8_told_8 (by decide +kernel) (by decide +kernel) (by decide +kernel) (by decide) ?_
      refine o_aload_n hC dX8_told_112 (by rfl) ?_
      refine o_getf hC (fX8_115 hC rfl) dX8_told_113 (by repeat (first | with_reducible assumption | (rw [rl_u_s]; done) | (rw [rl_u_s]; rfl) | rw [rl_u_n (by first | with_reducible assumption | omega)])) (by first | rfl | with_reducible assumption) ?_
      refine o_callS1 hC rl_BW_good rl_Ns_nw (by exact hB.2.2.2.2.2) YX8_ones SX8_ones (mX8_220 hC) (by rw [hB.1]; exact fr_X8_ones l D ids H0 _ n) (Nat.le_of_ble_eq_true rfl) (by rw [hB.2.1]; first | exact Nat.le_of_ble_eq_true rfl | (dsimp only; omega)) (by rw [hB.2.1]; first | exact Nat.le_of_ble_eq_true rfl | (dsimp only; omega)) (by rw [hB.2.1]; first | exact Nat.le_of_ble_eq_true rfl | (dsimp only; omega)) (by rw [hB.2.1]; first | exact Nat.le_of_ble_eq_true rfl | (dsimp only; omega)) dX8_told_116 (fun v h_116 n_116 p_116 => ?_)
      obtain ⟨rfl, rfl, rfl⟩ := p_116
      try dsimp only [Option.toList, List.cons_append, List.nil_append]
      refine o_iret hC hB dX8_told_119 (Nat.le_of_ble_eq_true rfl) (Nat.le_of_ble_eq_true rfl) ?_
      refine ⟨?_, rfl⟩
      first | rw [if_pos hw] | (rw [if_neg (by decide +kernel)]; done) | (rw [if_neg (by decide +kernel)]; rfl) | (rw [if_neg (by decide +kernel)]; decide +kernel)
