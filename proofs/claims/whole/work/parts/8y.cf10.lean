/-! THE CLASS, functionally: setsWithNone, count -/
/-- the ROWS of the TERMS -/
abbrev trw (L : List tT) : Int64 := L.foldl (fun a t => a ||| (t.1 ||| t.2)) 0
theorem tm_rows_l (f g : Nat → Int64) : ∀ (m j : Nat) (a : Int64), tm_rows f g m j a = (tsg f g j m).foldl (fun a t => a ||| (t.1 ||| t.2)) a
  | 0, _, _ => rfl
  | m + 1, j, a => tm_rows_l f g m (j + 1) (a ||| (f j ||| g j))
theorem tm_rows_0 {f g : Nat → Int64} {k : Nat} {L : List tT} (h : tls f g k = L) : tm_rows f g k 0 0 = trw L := by
  rw [tm_rows_l, ← tls_0, h]

set_option maxHeartbeats 4000000 in
set_option maxRecDepth 100000 in
theorem cd_X7_setsWithNone (l : Launch) (D : va_G) (ids : Nat → ClassId) (H0 : Heap) (h : rl_H) (n : Nat) (w k : Nat) (f g : Nat → Int64) (rows : Int32) (hw : ws_at ids h w f g k) : ∀ (j fr : Nat) (a b : Int64), fr + j = k → rl_Met l (rl_e D ids H0) rl_BW rl_Ns yX7_setsWithNone cX7_setsWithNone 12 (some .int) ({ frames := 1 + j, cells := 0, slots := 0, locals := 21 + 31 * j }) [.ref w, .int (nI fr), .long a, .long b, .int rows] h n (fun v h' n' => v = some (.int (swn rows (tsg f g fr j) a b)) ∧ h' = h ∧ n' = n) := by
  obtain ⟨w1, w2, w3, w4⟩ := id hw
  intro j
  induction j with
  | zero =>
    intro fr a b hj
    refine rl_Met.of (by decide +kernel) (Nat.le_of_ble_eq_true rfl) ?_
    intro X hC hB
    show rl_G X (rl_e D ids H0) 0 [some (.ref w), some (.int (nI fr)), some (.long a), none, some (.long b), none, some (.int rows), none, none, none, none, none] [] h n 0 0
    refine o_iload_n hC dX7_setsWithNone_0 (by rfl) ?_
    refine o_aload_n hC dX7_setsWithNone_1 (by rfl) ?_
    refine o_getf hC (fX7_163 hC rfl) dX7_setsWithNone_2 (by repeat (first | with_reducible assumption | (rw [rl_u_s]; done) | (rw [rl_u_s]; rfl) | rw [rl_u_n (by first | with_reducible assumption | omega)])) (by first | rfl | with_reducible assumption) ?_
    refine o_icmp_lt (tgt := 21) hC dX7_setsWithNone_5 (by decide) (fun c_5 => ?_) (fun c_5 => ?_)
    · exact absurd c_5 (nI_nlt (by omega) (by omega))
    · refine o_iconst (v := nI 1) hC dX7_setsWithNone_8 (by decide +kernel) ?_
      refine o_iload hC dX7_setsWithNone_9 (by rfl) ?_
      refine o_lload_n hC dX7_setsWithNone_11 (by rfl) ?_
      refine o_lload hC dX7_setsWithNone_12 (by rfl) ?_
      refine o_lor hC dX7_setsWithNone_14 ?_
      refine o_callS1 hC rl_BW_good rl_Ns_nw (by exact hB.2.2.2.2.2) YJ13_bitCount_95d88 SJ13_bitCount_95d88 (mX7_203 hC) (by rw [hB.1]; exact ct_J13_bitCount_95d88 l D ids H0 _ _ _) (Nat.le_of_ble_eq_true rfl) (by rw [hB.2.1]; first | exact Nat.le_of_ble_eq_true rfl | (dsimp only; omega)) (by rw [hB.2.1]; first | exact Nat.le_of_ble_eq_true rfl | (dsimp only; omega)) (by rw [hB.2.1]; first | exact Nat.le_of_ble_eq_true rfl | (dsimp only; omega)) (by rw [hB.2.1]; first | exact Nat.le_of_ble_eq_true rfl | (dsimp only; omega)) dX7_setsWithNone_15 (fun v h_15 n_15 p_15 => ?_)
      obtain ⟨rfl, rfl, rfl⟩ := p_15
      try dsimp only [Option.toList, List.cons_append, List.nil_append]
      refine o_isub hC dX7_setsWithNone_18 ?_
      refine o_ishl hC dX7_setsWithNone_19 ?_
      refine o_iret hC hB dX7_setsWithNone_20 (Nat.le_of_ble_eq_true rfl) (Nat.le_of_ble_eq_true rfl) ?_
      exact ⟨rfl, rfl, rfl⟩
  | succ j ih =>
    intro fr a b hj
    refine rl_Met.of (by decide +kernel) (Nat.le_of_ble_eq_true rfl) ?_
    intro X hC hB
    show rl_G X (rl_e D ids H0) 0 [some (.ref w), some (.int (nI fr)), some (.long a), none, some (.long b), none, some (.int rows), none, none, none, none, none] [] h n 0 0
    refine o_iload_n hC dX7_setsWithNone_0 (by rfl) ?_
    refine o_aload_n hC dX7_setsWithNone_1 (by rfl) ?_
    refine o_getf hC (fX7_163 hC rfl) dX7_setsWithNone_2 (by repeat (first | with_reducible assumption | (rw [rl_u_s]; done) | (rw [rl_u_s]; rfl) | rw [rl_u_n (by first | with_reducible assumption | omega)])) (by first | rfl | with_reducible assumption) ?_
    refine o_icmp_lt (tgt := 21) hC dX7_setsWithNone_5 (by decide) (fun c_5 => ?_) (fun c_5 => ?_)
    · refine o_aload_n hC dX7_setsWithNone_21 (by rfl) ?_
      refine o_iload_n hC dX7_setsWithNone_22 (by rfl) ?_
      refine o_iconst (v := nI 1) hC dX7_setsWithNone_23 (by decide +kernel) ?_
      refine o_iadd hC dX7_setsWithNone_24 ?_
      rw [nI_add fr 1]
      refine o_lload_n hC dX7_setsWithNone_25 (by rfl) ?_
      refine o_lload hC dX7_setsWithNone_26 (by rfl) ?_
      refine o_iload hC dX7_setsWithNone_28 (by rfl) ?_
      refine o_callS5 hC rl_BW_good rl_Ns_nw (by exact hB.2.2.2.2.2) YX7_setsWithNone SX7_setsWithNone (mX7_208 hC) (by rw [hB.1]; exact ih (fr + 1) _ _ (by omega)) (Nat.le_of_ble_eq_true rfl) (by rw [hB.2.1]; first | exact Nat.le_of_ble_eq_true rfl | (dsimp only; omega)) (by rw [hB.2.1]; first | exact Nat.le_of_ble_eq_true rfl | (dsimp only; omega)) (by rw [hB.2.1]; first | exact Nat.le_of_ble_eq_true rfl | (dsimp only; omega)) (by rw [hB.2.1]; first | exact Nat.le_of_ble_eq_true rfl | (dsimp only; omega)) dX7_setsWithNone_30 (fun v h_30 n_30 p_30 => ?_)
      obtain ⟨rfl, rfl, rfl⟩ := p_30
      try dsimp only [Option.toList, List.cons_append, List.nil_append]
      refine o_istore hC dX7_setsWithNone_33 (Nat.le_of_ble_eq_true rfl) ?_
      refine o_lload_n hC dX7_setsWithNone_35 (by rfl) ?_
      refine o_aload_n hC dX7_setsWithNone_36 (by rfl) ?_
      refine o_getf hC (fX7_171 hC rfl) dX7_setsWithNone_37 (by repeat (first | with_reducible assumption | (rw [rl_u_s]; done) | (rw [rl_u_s]; rfl) | rw [rl_u_n (by first | with_reducible assumption | omega)])) (by first | rfl | with_reducible assumption) ?_
      refine o_iload_n hC dX7_setsWithNone_40 (by rfl) ?_
      refine o_laldN (t0 := 1) hC rfl dX7_setsWithNone_41 (by repeat (first | with_reducible assumption | (rw [rl_u_s]; done) | (rw [rl_u_s]; rfl) | rw [rl_u_n (by first | with_reducible assumption | omega)])) (by omega) (by decide) ?_
      refine o_lor hC dX7_setsWithNone_42 ?_
      refine o_lstore hC dX7_setsWithNone_43 (Nat.le_of_ble_eq_true rfl) ?_
      refine o_lload hC dX7_setsWithNone_45 (by rfl) ?_
      refine o_aload_n hC dX7_setsWithNone_47 (by rfl) ?_
      refine o_getf hC (fX7_175 hC rfl) dX7_setsWithNone_48 (by repeat (first | with_reducible assumption | (rw [rl_u_s]; done) | (rw [rl_u_s]; rfl) | rw [rl_u_n (by first | with_reducible assumption | omega)])) (by first | rfl | with_reducible assumption) ?_
      refine o_iload_n hC dX7_setsWithNone_51 (by rfl) ?_
      refine o_laldN (t0 := 1) hC rfl dX7_setsWithNone_52 (by repeat (first | with_reducible assumption | (rw [rl_u_s]; done) | (rw [rl_u_s]; rfl) | rw [rl_u_n (by first | with_reducible assumption | omega)])) (by omega) (by decide) ?_
      refine o_lor hC dX7_setsWithNone_53 ?_
      refine o_lstore hC dX7_setsWithNone_54 (Nat.le_of_ble_eq_true rfl) ?_
      refine o_lload hC dX7_setsWithNone_56 (by rfl) ?_
      refine o_lload hC dX7_setsWithNone_58 (by rfl) ?_
      refine o_land hC dX7_setsWithNone_60 ?_
      refine o_lconst (v := 0) hC dX7_setsWithNone_61 (by decide +kernel) ?_
      refine o_lcmp hC dX7_setsWithNone_62 ?_
      refine o_if_eq (tgt := 69) hC dX7_setsWithNone_63 (by decide) (fun c_63 => ?_) (fun c_63 => ?_)
      · refine o_iload hC dX7_setsWithNone_69 (by rfl) ?_
        refine o_aload_n hC dX7_setsWithNone_71 (by rfl) ?_
        refine o_iload_n hC dX7_setsWithNone_72 (by rfl) ?_
        refine o_iconst (v := nI 1) hC dX7_setsWithNone_73 (by decide +kernel) ?_
        refine o_iadd hC dX7_setsWithNone_74 ?_
        rw [nI_add fr 1]
        refine o_lload hC dX7_setsWithNone_75 (by rfl) ?_
        refine o_lload hC dX7_setsWithNone_77 (by rfl) ?_
        refine o_iload hC dX7_setsWithNone_79 (by rfl) ?_
        refine o_callS5 hC rl_BW_good rl_Ns_nw (by exact hB.2.2.2.2.2) YX7_setsWithNone SX7_setsWithNone (mX7_208 hC) (by rw [hB.1]; exact ih (fr + 1) _ _ (by omega)) (Nat.le_of_ble_eq_true rfl) (by rw [hB.2.1]; first | exact Nat.le_of_ble_eq_true rfl | (dsimp only; omega)) (by rw [hB.2.1]; first | exact Nat.le_of_ble_eq_true rfl | (dsimp only; omega)) (by rw [hB.2.1]; first | exact Nat.le_of_ble_eq_true rfl | (dsimp only; omega)) (by rw [hB.2.1]; first | exact Nat.le_of_ble_eq_true rfl | (dsimp only; omega)) dX7_setsWithNone_81 (fun v h_81 n_81 p_81 => ?_)
        obtain ⟨rfl, rfl, rfl⟩ := p_81
        try dsimp only [Option.toList, List.cons_append, List.nil_append]
        refine o_isub hC dX7_setsWithNone_84 ?_
        refine o_iret hC hB dX7_setsWithNone_85 (Nat.le_of_ble_eq_true rfl) (Nat.le_of_ble_eq_true rfl) ?_
        exact ⟨congrArg (fun z => some (Value.int z)) (if_pos (c := (a ||| f fr) &&& (b ||| g fr) = 0) ((lg_cmp_eq _ _).mp c_63)).symm, rfl, rfl⟩
      · refine o_iload hC dX7_setsWithNone_66 (by rfl) ?_
        refine o_iret hC hB dX7_setsWithNone_68 (Nat.le_of_ble_eq_true rfl) (Nat.le_of_ble_eq_true rfl) ?_
        exact ⟨congrArg (fun z => some (Value.int z)) (if_neg (c := (a ||| f fr) &&& (b ||| g fr) = 0) (fun w => c_63 ((lg_cmp_eq _ _).mpr w))).symm, rfl, rfl⟩
    · exact absurd (nI_lt (by omega) (by omega)) c_5

set_option maxHeartbeats 4000000 in
set_option maxRecDepth 100000 in
theorem cd_X7_count (l : Launch) (D : va_G) (ids : Nat → ClassId) (H0 : Heap) (h : rl_H) (n : Nat) (x L : Nat) (s : cl_S) (c : cl_N) (res : List arow) (rw : Nat) (q : Int32) (hk : cl_ok ids h n x L s c) (hd : cl_dp ids h s c) (hr : cl_rs s c res rw) : rl_Met l (rl_e D ids H0) rl_BW rl_Ns yX7_count cX7_count 4 (some .int) ({ frames := 14, cells := 0, slots := 0, locals := 424 }) [.ref x, .int q] h n (fun v h' n' => ∃ r : Int32, v = some (.int r) ∧ h' = h ∧ n' = n ∧ ((¬ (∃ t : Nat, t < res.length ∧ q = nI t) ∧ r = -1) ∨ ∃ t : Nat, t < res.length ∧ q = nI t ∧ r = (if (jd_bcL (trw (ark res t).2)) ≤ nI 16 then nI 1 <<< ((jd_bcL (trw (ark res t).2)) &&& 31) - swn (jd_bcL (trw (ark res t).2)) (ark res t).2 0 0 else (-4 : Int32)))) := by
  have nc16 := cl_nc hk
  have hc := hk.1
  obtain ⟨c1, c2, c3, ⟨pn, c4, c5⟩, ⟨pt, c6, c7⟩, c8, c9, c10, c11, c12, c13, c14, c15⟩ := id hc
  have htb := hr.tb hd (fun k hk9 => cl_wd hk hk9)
  refine rl_Met.of (by decide +kernel) (Nat.le_of_ble_eq_true rfl) ?_
  intro X hC hB
  show rl_G X (rl_e D ids H0) 0 [some (.ref x), some (.int q), none, none] [] h n 0 0
  refine o_aload_n hC dX7_count_0 (by rfl) ?_
  refine o_iload_n hC dX7_count_1 (by rfl) ?_
  refine o_callV1 hC rl_BW_good rl_Ns_nw (by exact hB.2.2.2.2.2) YX7_resultTuple IX7_resultTuple VX7_resultTuple (mX7_141 hC) (by rw [hB.1]; exact cd_X7_resultTuple l D ids H0 _ _ x L s c res rw _ hk hd hr) (by exact c1) rfl rfl (Nat.le_of_ble_eq_true rfl) (by rw [hB.2.1]; first | exact Nat.le_of_ble_eq_true rfl | (dsimp only; omega)) (by rw [hB.2.1]; first | exact Nat.le_of_ble_eq_true rfl | (dsimp only; omega)) (by rw [hB.2.1]; first | exact Nat.le_of_ble_eq_true rfl | (dsimp only; omega)) (by rw [hB.2.1]; first | exact Nat.le_of_ble_eq_true rfl | (dsimp only; omega)) dX7_count_2 (fun v h_2 n_2 p_2 => ?_)
  obtain ⟨zv, rfl, rfl, rfl, hz⟩ := p_2
  try dsimp only [Option.toList, List.cons_append, List.nil_append]
  rcases hz with ⟨rfl, hz⟩ | ⟨t, j, i, htl, rfl, hj, hrs, hi, rfl, P, S, ht, er⟩
  · try dsimp only [Option.toList, List.cons_append, List.nil_append]
    refine o_astore_nN hC dX7_count_5 (Nat.le_of_ble_eq_true rfl) ?_
    refine o_aload_nN hC dX7_count_6 (by rfl) ?_
    refine o_ifnonnullN hC dX7_count_7 ?_
    refine o_iconst (v := (-1 : Int32)) hC dX7_count_10 (by decide +kernel) ?_
    refine o_iret hC hB dX7_count_11 (Nat.le_of_ble_eq_true rfl) (Nat.le_of_ble_eq_true rfl) ?_
    exact ⟨_, rfl, rfl, rfl, Or.inl ⟨hz, rfl⟩⟩
  · try dsimp only [Option.toList, List.cons_append, List.nil_append]
    obtain ⟨t1, ⟨tf, t2, t3⟩, t4, t5, t6, t7⟩ := id ht
    obtain ⟨e1, e2, e3⟩ := t5 i hi
    obtain ⟨w1, w2, w3, w4⟩ := id e3
    have ew : tls (S.2.1 i) (S.2.2.1 i) (S.2.2.2 i) = (ark res t).2 := congrArg Prod.snd er
    refine o_astore_n hC dX7_count_5 (Nat.le_of_ble_eq_true rfl) ?_
    refine o_aload_n hC dX7_count_6 (by rfl) ?_
    refine o_ifnonnull (tgt := 12) hC dX7_count_7 (by decide) ?_
    refine o_aload_n hC dX7_count_12 (by rfl) ?_
    refine o_getf hC (fX7_160 hC rfl) dX7_count_13 (by repeat (first | with_reducible assumption | (rw [rl_u_s]; done) | (rw [rl_u_s]; rfl) | rw [rl_u_n (by first | with_reducible assumption | omega)])) (by first | rfl | with_reducible assumption) ?_
    refine o_callV0 hC rl_BW_good rl_Ns_nw (by exact hB.2.2.2.2.2) YX6_rowsOfTerms IX6_rowsOfTerms VX6_rowsOfTerms (mX7_199 hC) (by rw [hB.1]; exact ct_X6_rowsOfTerms l D ids H0 _ _ (c.1 j + 1 + 2 + 5 * i + 2) _ _ _ e3) (by exact e3.1) rfl rfl (Nat.le_of_ble_eq_true rfl) (by rw [hB.2.1]; first | exact Nat.le_of_ble_eq_true rfl | (dsimp only; omega)) (by rw [hB.2.1]; first | exact Nat.le_of_ble_eq_true rfl | (dsimp only; omega)) (by rw [hB.2.1]; first | exact Nat.le_of_ble_eq_true rfl | (dsimp only; omega)) (by rw [hB.2.1]; first | exact Nat.le_of_ble_eq_true rfl | (dsimp only; omega)) dX7_count_16 (fun v h_16 n_16 p_16 => ?_)
    obtain ⟨rfl, rfl, rfl⟩ := p_16
    rw [tm_rows_0 ew]
    try dsimp only [Option.toList, List.cons_append, List.nil_append]
    refine o_callS1 hC rl_BW_good rl_Ns_nw (by exact hB.2.2.2.2.2) YJ13_bitCount_95d88 SJ13_bitCount_95d88 (mX7_203 hC) (by rw [hB.1]; exact ct_J13_bitCount_95d88 l D ids H0 _ _ _) (Nat.le_of_ble_eq_true rfl) (by rw [hB.2.1]; first | exact Nat.le_of_ble_eq_true rfl | (dsimp only; omega)) (by rw [hB.2.1]; first | exact Nat.le_of_ble_eq_true rfl | (dsimp only; omega)) (by rw [hB.2.1]; first | exact Nat.le_of_ble_eq_true rfl | (dsimp only; omega)) (by rw [hB.2.1]; first | exact Nat.le_of_ble_eq_true rfl | (dsimp only; omega)) dX7_count_19 (fun v h_19 n_19 p_19 => ?_)
    obtain ⟨rfl, rfl, rfl⟩ := p_19
    try dsimp only [Option.toList, List.cons_append, List.nil_append]
    refine o_istore_n hC dX7_count_22 (Nat.le_of_ble_eq_true rfl) ?_
    refine o_iload_n hC dX7_count_23 (by rfl) ?_
    refine o_bipush (v := nI 16) hC dX7_count_24 (by decide +kernel) ?_
    refine o_icmp_le (tgt := 32) hC dX7_count_26 (by decide) (fun c_26 => ?_) (fun c_26 => ?_)
    · refine o_iconst (v := nI 1) hC dX7_count_32 (by decide +kernel) ?_
      refine o_iload_n hC dX7_count_33 (by rfl) ?_
      refine o_ishl hC dX7_count_34 ?_
      refine o_aload_n hC dX7_count_35 (by rfl) ?_
      refine o_getf hC (fX7_160 hC rfl) dX7_count_36 (by repeat (first | with_reducible assumption | (rw [rl_u_s]; done) | (rw [rl_u_s]; rfl) | rw [rl_u_n (by first | with_reducible assumption | omega)])) (by first | rfl | with_reducible assumption) ?_
      refine o_iconst (v := nI 0) hC dX7_count_39 (by decide +kernel) ?_
      refine o_lconst (v := 0) hC dX7_count_40 (by decide +kernel) ?_
      refine o_lconst (v := 0) hC dX7_count_41 (by decide +kernel) ?_
      refine o_iload_n hC dX7_count_42 (by rfl) ?_
      refine o_callS5 hC rl_BW_good rl_Ns_nw (by exact hB.2.2.2.2.2) YX7_setsWithNone SX7_setsWithNone (mX7_208 hC) (by rw [hB.1]; exact cd_X7_setsWithNone l D ids H0 _ _ (c.1 j + 1 + 2 + 5 * i + 2) _ _ _ _ e3 _ 0 _ _ (Nat.zero_add _)) (Nat.le_of_ble_eq_true rfl) (by rw [hB.2.1]; first | exact Nat.le_of_ble_eq_true rfl | (dsimp only; omega)) (by rw [hB.2.1]; first | exact Nat.le_of_ble_eq_true rfl | (dsimp only; omega)) (by rw [hB.2.1]; first | exact Nat.le_of_ble_eq_true rfl | (dsimp only; omega)) (by rw [hB.2.1]; first | exact Nat.le_of_ble_eq_true rfl | (dsimp only; omega)) dX7_count_43 (fun v h_43 n_43 p_43 => ?_)
      obtain ⟨rfl, rfl, rfl⟩ := p_43
      rw [← tls_0, ew]
      try dsimp only [Option.toList, List.cons_append, List.nil_append]
      refine o_isub hC dX7_count_46 ?_
      refine o_iret hC hB dX7_count_47 (Nat.le_of_ble_eq_true rfl) (Nat.le_of_ble_eq_true rfl) ?_
      first
      | exact ⟨_, rfl, rfl, rfl, Or.inr ⟨t, htl, rfl, (if_pos c_26).symm⟩⟩
      | exact ⟨_, rfl, rfl, rfl, Or.inr ⟨t, htl, rfl, (if_neg c_26).symm⟩⟩
    · refine o_bipush (v := (-4 : Int32)) hC dX7_count_29 (by decide +kernel) ?_
      refine o_iret hC hB dX7_count_31 (Nat.le_of_ble_eq_true rfl) (Nat.le_of_ble_eq_true rfl) ?_
      first
      | exact ⟨_, rfl, rfl, rfl, Or.inr ⟨t, htl, rfl, (if_pos c_26).symm⟩⟩
      | exact ⟨_, rfl, rfl, rfl, Or.inr ⟨t, htl, rfl, (if_neg c_26).symm⟩⟩
