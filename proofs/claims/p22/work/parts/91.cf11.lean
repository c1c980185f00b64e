/-! THE CLASS, functionally: isSeen, matters -/
theorem ite01 {P : Prop} [Decidable P] : ((if P then nI 0 else nI 1) = nI 0) ↔ P := by
  by_cases p : P
  · rw [if_pos p]
    exact ⟨fun _ => p, fun _ => rfl⟩
  · rw [if_neg p]
    exact ⟨fun e => absurd e (by decide +kernel), fun e => absurd e p⟩
theorem as_p {P : Prop} [Decidable P] : (if (if P then nI 0 else nI 1) = nI 0 then nI 0 else nI 1) = (if P then nI 0 else nI 1) := by
  by_cases p : P
  · rw [if_pos p, if_pos rfl]
  · rw [if_neg p, if_neg (by decide +kernel)]

set_option maxHeartbeats 4000000 in
set_option maxRecDepth 100000 in
theorem cd_X7_isSeen (l : Launch) (D : va_G) (ids : Nat → ClassId) (H0 : Heap) (h : rl_H) (n : Nat) (x L : Nat) (s : cl_S) (c : cl_N) (w k : Nat) (f g : Nat → Int64) (W : List tT) (bt9 : Int64) (rows : Int32) (hk : cl_ok ids h n x L s c) (hw : ws_at ids h w f g k) (ew : tls f g k = W) (hxw : x + 70 ≤ w) : rl_Met l (rl_e D ids H0) rl_BW rl_Ns yX7_isSeen cX7_isSeen 6 (some .boolean) ({ frames := 14, cells := 0, slots := 0, locals := 424 }) [.ref x, .ref w, .long bt9, .int rows] h n (fun v h' n' => ∃ (r : Int32) (Lb : List tT), v = some (.int r) ∧ n' = n ∧ cl_ok ids h' n x L s c ∧ cl_fr h h' x L ∧ (∀ q : Nat, x + 70 ≤ q → h' q = h q) ∧ wst (W.map (tfg bt9)) = some Lb ∧ r = (if swn rows W bt9 0 = swn rows Lb bt9 0 ∧ swn rows W 0 bt9 = swn rows Lb bt9 0 then nI 0 else nI 1)) := by
  obtain ⟨hc, k2, k3, k4, k5, k6, k7⟩ := id hk
  obtain ⟨c1, c2, c3, ⟨pn, c4, c5⟩, ⟨pt, c6, c7⟩, c8, c9, c10, c11, c12, c13, c14, c15⟩ := id hc
  obtain ⟨gp, c3⟩ := c3
  obtain ⟨o0, ⟨ds, d1⟩, -⟩ := id c3
  obtain ⟨bf, bg, bk, b1⟩ := c9
  refine rl_Met.of (by decide +kernel) (Nat.le_of_ble_eq_true rfl) ?_
  intro X hC hB
  show rl_G X (rl_e D ids H0) 0 [some (.ref x), some (.ref w), some (.long bt9), none, some (.int rows), none] [] h n 0 0
  refine o_aload_n hC dX7_isSeen_0 (by rfl) ?_
  refine o_getf hC (fX7_19 hC rfl) dX7_isSeen_1 (by repeat (first | with_reducible assumption | (rw [rl_u_s]; done) | (rw [rl_u_s]; rfl) | rw [rl_u_n (by first | with_reducible assumption | omega)])) (by first | rfl | with_reducible assumption) ?_
  refine o_getf hC (fX7_245 hC rfl) dX7_isSeen_4 (by repeat (first | with_reducible assumption | (rw [rl_u_s]; done) | (rw [rl_u_s]; rfl) | rw [rl_u_n (by first | with_reducible assumption | omega)])) (by first | rfl | with_reducible assumption) ?_
  refine o_aload_n hC dX7_isSeen_7 (by rfl) ?_
  refine o_lload_n hC dX7_isSeen_8 (by rfl) ?_
  refine o_aload_n hC dX7_isSeen_9 (by rfl) ?_
  refine o_getf hC (fX7_45 hC rfl) dX7_isSeen_10 (by repeat (first | with_reducible assumption | (rw [rl_u_s]; done) | (rw [rl_u_s]; rfl) | rw [rl_u_n (by first | with_reducible assumption | omega)])) (by first | rfl | with_reducible assumption) ?_
  refine o_callV3 hC rl_BW_good rl_Ns_nw (by exact hB.2.2.2.2.2) YX0_forget IX0_forget VX0_forget (mX7_249 hC) (by rw [hB.1]; exact ct_X0_forget l D ids H0 _ _ (x + 42) w (x + 67) _ _ _ _ _ _ _ _ d1 hw b1 (by omega) (by omega)) (by exact d1.1) rfl rfl (Nat.le_of_ble_eq_true rfl) (by rw [hB.2.1]; first | exact Nat.le_of_ble_eq_true rfl | (dsimp only; omega)) (by rw [hB.2.1]; first | exact Nat.le_of_ble_eq_true rfl | (dsimp only; omega)) (by rw [hB.2.1]; first | exact Nat.le_of_ble_eq_true rfl | (dsimp only; omega)) (by rw [hB.2.1]; first | exact Nat.le_of_ble_eq_true rfl | (dsimp only; omega)) dX7_isSeen_13 (fun v h_13 n_13 p_13 => ?_)
  obtain ⟨rfl, rfl, xo, q1⟩ := p_13
  have q2 := q1.f2
  obtain ⟨Lb, eL, fL, gL, hb2, eb2⟩ := fo_out ew hw.2.2.2 q1
  obtain ⟨u1, u2⟩ := hk.dw ⟨_, q1.1⟩ (q1.ws b1 (by omega)) q2
  have v1 := u1.1.1
  have b3 := hw.eqv (h' := h_13) (fun q a b => q2 q (by omega) (by omega))
  have kb := hb2.2.2.2
  have kw := b3.2.2.2
  try dsimp only [Option.toList, List.cons_append, List.nil_append]
  refine o_aload_n hC dX7_isSeen_16 (by rfl) ?_
  refine o_getf hC (fX7_45 hC rfl) dX7_isSeen_17 (by repeat (first | with_reducible assumption | (rw [rl_u_s]; done) | (rw [rl_u_s]; rfl) | rw [rl_u_n (by first | with_reducible assumption | omega)])) (by first | rfl | with_reducible assumption) ?_
  refine o_iconst (v := nI 0) hC dX7_isSeen_20 (by decide +kernel) ?_
  refine o_lload_n hC dX7_isSeen_21 (by rfl) ?_
  refine o_lconst (v := 0) hC dX7_isSeen_22 (by decide +kernel) ?_
  refine o_iload hC dX7_isSeen_23 (by rfl) ?_
  refine o_callS5 hC rl_BW_good rl_Ns_nw (by exact hB.2.2.2.2.2) YX7_setsWithNone SX7_setsWithNone (mX7_208 hC) (by rw [hB.1]; exact cd_X7_setsWithNone l D ids H0 _ _ (x + 67) _ _ _ _ hb2 _ 0 _ _ (Nat.zero_add _)) (Nat.le_of_ble_eq_true rfl) (by rw [hB.2.1]; first | exact Nat.le_of_ble_eq_true rfl | (dsimp only; omega)) (by rw [hB.2.1]; first | exact Nat.le_of_ble_eq_true rfl | (dsimp only; omega)) (by rw [hB.2.1]; first | exact Nat.le_of_ble_eq_true rfl | (dsimp only; omega)) (by rw [hB.2.1]; first | exact Nat.le_of_ble_eq_true rfl | (dsimp only; omega)) dX7_isSeen_25 (fun v h_25 n_25 p_25 => ?_)
  obtain ⟨rfl, rfl, rfl⟩ := p_25
  rw [← tls_0, eb2]
  try dsimp only [Option.toList, List.cons_append, List.nil_append]
  refine o_istore hC dX7_isSeen_28 (Nat.le_of_ble_eq_true rfl) ?_
  refine o_aload_n hC dX7_isSeen_30 (by rfl) ?_
  refine o_iconst (v := nI 0) hC dX7_isSeen_31 (by decide +kernel) ?_
  refine o_lload_n hC dX7_isSeen_32 (by rfl) ?_
  refine o_lconst (v := 0) hC dX7_isSeen_33 (by decide +kernel) ?_
  refine o_iload hC dX7_isSeen_34 (by rfl) ?_
  refine o_callS5 hC rl_BW_good rl_Ns_nw (by exact hB.2.2.2.2.2) YX7_setsWithNone SX7_setsWithNone (mX7_208 hC) (by rw [hB.1]; exact cd_X7_setsWithNone l D ids H0 _ _ w _ _ _ _ b3 _ 0 _ _ (Nat.zero_add _)) (Nat.le_of_ble_eq_true rfl) (by rw [hB.2.1]; first | exact Nat.le_of_ble_eq_true rfl | (dsimp only; omega)) (by rw [hB.2.1]; first | exact Nat.le_of_ble_eq_true rfl | (dsimp only; omega)) (by rw [hB.2.1]; first | exact Nat.le_of_ble_eq_true rfl | (dsimp only; omega)) (by rw [hB.2.1]; first | exact Nat.le_of_ble_eq_true rfl | (dsimp only; omega)) dX7_isSeen_36 (fun v h_36 n_36 p_36 => ?_)
  obtain ⟨rfl, rfl, rfl⟩ := p_36
  rw [← tls_0, ew]
  try dsimp only [Option.toList, List.cons_append, List.nil_append]
  refine o_iload hC dX7_isSeen_39 (by rfl) ?_
  refine o_icmp_ne (tgt := 58) hC dX7_isSeen_41 (by decide) (fun c_41 => ?_) (fun c_41 => ?_)
  · refine o_iconst (v := nI 1) hC dX7_isSeen_58 (by decide +kernel) ?_
    refine o_goto (tgt := 63) hC dX7_isSeen_59 (by decide) ?_
    refine o_zret hC hB dX7_isSeen_63 (by first | rfl | decide +kernel) (Nat.le_of_ble_eq_true rfl) (Nat.le_of_ble_eq_true rfl) ?_
    first
    | exact ⟨_, Lb, rfl, rfl, u1, u2.1, u2.2, eL, (if_neg (fun w => c_41 w.1)).symm⟩
    | exact ⟨_, Lb, rfl, rfl, u1, u2.1, u2.2, eL, (if_neg (fun w => c_55 w.2)).symm⟩
    | exact ⟨_, Lb, rfl, rfl, u1, u2.1, u2.2, eL, (if_pos ⟨by first | exact c_41 | exact Classical.not_not.mp c_41, by first | exact c_55 | exact Classical.not_not.mp c_55⟩).symm⟩
  · refine o_aload_n hC dX7_isSeen_44 (by rfl) ?_
    refine o_iconst (v := nI 0) hC dX7_isSeen_45 (by decide +kernel) ?_
    refine o_lconst (v := 0) hC dX7_isSeen_46 (by decide +kernel) ?_
    refine o_lload_n hC dX7_isSeen_47 (by rfl) ?_
    refine o_iload hC dX7_isSeen_48 (by rfl) ?_
    refine o_callS5 hC rl_BW_good rl_Ns_nw (by exact hB.2.2.2.2.2) YX7_setsWithNone SX7_setsWithNone (mX7_208 hC) (by rw [hB.1]; exact cd_X7_setsWithNone l D ids H0 _ _ w _ _ _ _ b3 _ 0 _ _ (Nat.zero_add _)) (Nat.le_of_ble_eq_true rfl) (by rw [hB.2.1]; first | exact Nat.le_of_ble_eq_true rfl | (dsimp only; omega)) (by rw [hB.2.1]; first | exact Nat.le_of_ble_eq_true rfl | (dsimp only; omega)) (by rw [hB.2.1]; first | exact Nat.le_of_ble_eq_true rfl | (dsimp only; omega)) (by rw [hB.2.1]; first | exact Nat.le_of_ble_eq_true rfl | (dsimp only; omega)) dX7_isSeen_50 (fun v h_50 n_50 p_50 => ?_)
    obtain ⟨rfl, rfl, rfl⟩ := p_50
    rw [← tls_0, ew]
    try dsimp only [Option.toList, List.cons_append, List.nil_append]
    refine o_iload hC dX7_isSeen_53 (by rfl) ?_
    refine o_icmp_eq (tgt := 62) hC dX7_isSeen_55 (by decide) (fun c_55 => ?_) (fun c_55 => ?_)
    · refine o_iconst (v := nI 0) hC dX7_isSeen_62 (by decide +kernel) ?_
      refine o_zret hC hB dX7_isSeen_63 (by first | rfl | decide +kernel) (Nat.le_of_ble_eq_true rfl) (Nat.le_of_ble_eq_true rfl) ?_
      first
      | exact ⟨_, Lb, rfl, rfl, u1, u2.1, u2.2, eL, (if_neg (fun w => c_41 w.1)).symm⟩
      | exact ⟨_, Lb, rfl, rfl, u1, u2.1, u2.2, eL, (if_neg (fun w => c_55 w.2)).symm⟩
      | exact ⟨_, Lb, rfl, rfl, u1, u2.1, u2.2, eL, (if_pos ⟨by first | exact c_41 | exact Classical.not_not.mp c_41, by first | exact c_55 | exact Classical.not_not.mp c_55⟩).symm⟩
    · refine o_iconst (v := nI 1) hC dX7_isSeen_58 (by decide +kernel) ?_
      refine o_goto (tgt := 63) hC dX7_isSeen_59 (by decide) ?_
      refine o_zret hC hB dX7_isSeen_63 (by first | rfl | decide +kernel) (Nat.le_of_ble_eq_true rfl) (Nat.le_of_ble_eq_true rfl) ?_
      first
      | exact ⟨_, Lb, rfl, rfl, u1, u2.1, u2.2, eL, (if_neg (fun w => c_41 w.1)).symm⟩
      | exact ⟨_, Lb, rfl, rfl, u1, u2.1, u2.2, eL, (if_neg (fun w => c_55 w.2)).symm⟩
      | exact ⟨_, Lb, rfl, rfl, u1, u2.1, u2.2, eL, (if_pos ⟨by first | exact c_41 | exact Classical.not_not.mp c_41, by first | exact c_55 | exact Classical.not_not.mp c_55⟩).symm⟩

set_option maxHeartbeats 4000000 in
set_option maxRecDepth 100000 in
theorem cd_X7_matters (l : Launch) (D : va_G) (ids : Nat → ClassId) (H0 : Heap) (h : rl_H) (n : Nat) (x L : Nat) (s : cl_S) (c : cl_N) (res : List arow) (rw : Nat) (q r : Int32) (hk : cl_ok ids h n x L s c) (hd : cl_dp ids h s c) (hr : cl_rs s c res rw) : rl_Met l (rl_e D ids H0) rl_BW rl_Ns yX7_matters cX7_matters 9 (some .int) ({ frames := 15, cells := 0, slots := 0, locals := 449 }) [.ref x, .int q, .int r] h n (fun v h' n' => ∃ z : Int32, v = some (.int z) ∧ n' = n ∧ cl_ok ids h' n x L s c ∧ cl_fr h h' x L ∧ (∀ q : Nat, x + 70 ≤ q → h' q = h q) ∧ (((¬ (∃ t : Nat, t < res.length ∧ q = nI t) ∨ (r < 0 ∨ nI s.2.2.2.2 ≤ r)) ∧ z = -1) ∨ ∃ t : Nat, t < res.length ∧ q = nI t ∧ ¬ (r < 0 ∨ nI s.2.2.2.2 ≤ r) ∧ ((¬ (jd_bcL (trw (ark res t).2)) ≤ nI 16 ∧ z = -4) ∨ ((jd_bcL (trw (ark res t).2)) ≤ nI 16 ∧ (trw (ark res t).2) &&& ((1 : Int64) <<< (r.toInt64 &&& 63)) = 0 ∧ z = nI 0) ∨ ((jd_bcL (trw (ark res t).2)) ≤ nI 16 ∧ ¬ (trw (ark res t).2) &&& ((1 : Int64) <<< (r.toInt64 &&& 63)) = 0 ∧ ∃ Lb : List tT, wst ((ark res t).2.map (tfg ((1 : Int64) <<< (r.toInt64 &&& 63)))) = some Lb ∧ z = (if swn (jd_bcL (trw (ark res t).2)) (ark res t).2 ((1 : Int64) <<< (r.toInt64 &&& 63)) 0 = swn (jd_bcL (trw (ark res t).2)) Lb ((1 : Int64) <<< (r.toInt64 &&& 63)) 0 ∧ swn (jd_bcL (trw (ark res t).2)) (ark res t).2 0 ((1 : Int64) <<< (r.toInt64 &&& 63)) = swn (jd_bcL (trw (ark res t).2)) Lb ((1 : Int64) <<< (r.toInt64 &&& 63)) 0 then nI 0 else nI 1))))) := by
  have nc16 := cl_nc hk
  have hc := hk.1
  obtain ⟨c1, c2, c3, ⟨pn, c4, c5⟩, ⟨pt, c6, c7⟩, c8, c9, c10, c11, c12, c13, c14, c15⟩ := id hc
  have htb := hr.tb hd (fun k hk9 => cl_wd hk hk9)
  refine rl_Met.of (by decide +kernel) (Nat.le_of_ble_eq_true rfl) ?_
  intro X hC hB
  show rl_G X (rl_e D ids H0) 0 [some (.ref x), some (.int q), some (.int r), none, none, none, none, none, none] [] h n 0 0
  refine o_aload_n hC dX7_matters_0 (by rfl) ?_
  refine o_iload_n hC dX7_matters_1 (by rfl) ?_
  refine o_callV1 hC rl_BW_good rl_Ns_nw (by exact hB.2.2.2.2.2) YX7_resultTuple IX7_resultTuple VX7_resultTuple (mX7_141 hC) (by rw [hB.1]; exact cd_X7_resultTuple l D ids H0 _ _ x L s c res rw _ hk hd hr) (by exact c1) rfl rfl (Nat.le_of_ble_eq_true rfl) (by rw [hB.2.1]; first | exact Nat.le_of_ble_eq_true rfl | (dsimp only; omega)) (by rw [hB.2.1]; first | exact Nat.le_of_ble_eq_true rfl | (dsimp only; omega)) (by rw [hB.2.1]; first | exact Nat.le_of_ble_eq_true rfl | (dsimp only; omega)) (by rw [hB.2.1]; first | exact Nat.le_of_ble_eq_true rfl | (dsimp only; omega)) dX7_matters_2 (fun v h_2 n_2 p_2 => ?_)
  obtain ⟨zv, rfl, rfl, rfl, hz⟩ := p_2
  try dsimp only [Option.toList, List.cons_append, List.nil_append]
  rcases hz with ⟨rfl, hz⟩ | ⟨t, j, i, htl, rfl, hj, hrs, hi, rfl, P, S, ht, er⟩
  · try dsimp only [Option.toList, List.cons_append, List.nil_append]
    refine o_astore_nN hC dX7_matters_5 (Nat.le_of_ble_eq_true rfl) ?_
    refine o_aload_nN hC dX7_matters_6 (by rfl) ?_
    refine o_ifnullN (tgt := 21) hC dX7_matters_7 (by decide) ?_
    refine o_iconst (v := (-1 : Int32)) hC dX7_matters_21 (by decide +kernel) ?_
    refine o_iret hC hB dX7_matters_22 (Nat.le_of_ble_eq_true rfl) (Nat.le_of_ble_eq_true rfl) ?_
    exact ⟨_, rfl, rfl, hk, cl_fr.rf, fun _ _ => rfl, Or.inl ⟨Or.inl hz, rfl⟩⟩
  · try dsimp only [Option.toList, List.cons_append, List.nil_append]
    obtain ⟨t1, ⟨tf, t2, t3⟩, t4, t5, t6, t7⟩ := id ht
    obtain ⟨e1, e2, e3⟩ := t5 i hi
    obtain ⟨w1, w2, w3, w4⟩ := id e3
    have ew : tls (S.2.1 i) (S.2.2.1 i) (S.2.2.2 i) = (ark res t).2 := congrArg Prod.snd er
    refine o_astore_n hC dX7_matters_5 (Nat.le_of_ble_eq_true rfl) ?_
    refine o_aload_n hC dX7_matters_6 (by rfl) ?_
    refine o_ifnull hC dX7_matters_7 ?_
    refine o_aload_n hC dX7_matters_10 (by rfl) ?_
    refine o_getf hC (fX7_10 hC rfl) dX7_matters_11 (by repeat (first | with_reducible assumption | (rw [rl_u_s]; done) | (rw [rl_u_s]; rfl) | rw [rl_u_n (by first | with_reducible assumption | omega)])) (by first | rfl | with_reducible assumption) ?_
    refine o_iload_n hC dX7_matters_14 (by rfl) ?_
    refine o_callV1 hC rl_BW_good rl_Ns_nw (by exact hB.2.2.2.2.2) YX3_isRow IX3_isRow VX3_isRow (mX7_178 hC) (by rw [hB.1]; exact ct_X3_isRow l D ids H0 _ _ (x + 1) _ _ _ _ _ _ c2) (by exact c2.1) rfl rfl (Nat.le_of_ble_eq_true rfl) (by rw [hB.2.1]; first | exact Nat.le_of_ble_eq_true rfl | (dsimp only; omega)) (by rw [hB.2.1]; first | exact Nat.le_of_ble_eq_true rfl | (dsimp only; omega)) (by rw [hB.2.1]; first | exact Nat.le_of_ble_eq_true rfl | (dsimp only; omega)) (by rw [hB.2.1]; first | exact Nat.le_of_ble_eq_true rfl | (dsimp only; omega)) dX7_matters_15 (fun v h_15 n_15 p_15 => ?_)
    obtain ⟨rfl, rfl, rfl⟩ := p_15
    try dsimp only [Option.toList, List.cons_append, List.nil_append]
    refine o_if_ne (tgt := 23) hC dX7_matters_18 (by decide) (fun c_18 => ?_) (fun c_18 => ?_)
    · refine o_aload_n hC dX7_matters_23 (by rfl) ?_
      refine o_getf hC (fX7_160 hC rfl) dX7_matters_24 (by repeat (first | with_reducible assumption | (rw [rl_u_s]; done) | (rw [rl_u_s]; rfl) | rw [rl_u_n (by first | with_reducible assumption | omega)])) (by first | rfl | with_reducible assumption) ?_
      refine o_callV0 hC rl_BW_good rl_Ns_nw (by exact hB.2.2.2.2.2) YX6_rowsOfTerms IX6_rowsOfTerms VX6_rowsOfTerms (mX7_199 hC) (by rw [hB.1]; exact ct_X6_rowsOfTerms l D ids H0 _ _ (c.1 j + 1 + 2 + 5 * i + 2) _ _ _ e3) (by exact e3.1) rfl rfl (Nat.le_of_ble_eq_true rfl) (by rw [hB.2.1]; first | exact Nat.le_of_ble_eq_true rfl | (dsimp only; omega)) (by rw [hB.2.1]; first | exact Nat.le_of_ble_eq_true rfl | (dsimp only; omega)) (by rw [hB.2.1]; first | exact Nat.le_of_ble_eq_true rfl | (dsimp only; omega)) (by rw [hB.2.1]; first | exact Nat.le_of_ble_eq_true rfl | (dsimp only; omega)) dX7_matters_27 (fun v h_27 n_27 p_27 => ?_)
      obtain ⟨rfl, rfl, rfl⟩ := p_27
      rw [tm_rows_0 ew]
      try dsimp only [Option.toList, List.cons_append, List.nil_append]
      refine o_lstore hC dX7_matters_30 (Nat.le_of_ble_eq_true rfl) ?_
      refine o_lload hC dX7_matters_32 (by rfl) ?_
      refine o_callS1 hC rl_BW_good rl_Ns_nw (by exact hB.2.2.2.2.2) YJ13_bitCount_95d88 SJ13_bitCount_95d88 (mX7_203 hC) (by rw [hB.1]; exact ct_J13_bitCount_95d88 l D ids H0 _ _ _) (Nat.le_of_ble_eq_true rfl) (by rw [hB.2.1]; first | exact Nat.le_of_ble_eq_true rfl | (dsimp only; omega)) (by rw [hB.2.1]; first | exact Nat.le_of_ble_eq_true rfl | (dsimp only; omega)) (by rw [hB.2.1]; first | exact Nat.le_of_ble_eq_true rfl | (dsimp only; omega)) (by rw [hB.2.1]; first | exact Nat.le_of_ble_eq_true rfl | (dsimp only; omega)) dX7_matters_34 (fun v h_34 n_34 p_34 => ?_)
      obtain ⟨rfl, rfl, rfl⟩ := p_34
      try dsimp only [Option.toList, List.cons_append, List.nil_append]
      refine o_istore hC dX7_matters_37 (Nat.le_of_ble_eq_true rfl) ?_
      refine o_iload hC dX7_matters_39 (by rfl) ?_
      refine o_bipush (v := nI 16) hC dX7_matters_41 (by decide +kernel) ?_
      refine o_icmp_le (tgt := 49) hC dX7_matters_43 (by decide) (fun c_43 => ?_) (fun c_43 => ?_)
      · refine o_lconst (v := 1) hC dX7_matters_49 (by decide +kernel) ?_
        refine o_iload_n hC dX7_matters_50 (by rfl) ?_
        refine o_lshl hC dX7_matters_51 ?_
        refine o_lstore hC dX7_matters_52 (Nat.le_of_ble_eq_true rfl) ?_
        refine o_lload hC dX7_matters_54 (by rfl) ?_
        refine o_lload hC dX7_matters_56 (by rfl) ?_
        refine o_land hC dX7_matters_58 ?_
        refine o_lconst (v := 0) hC dX7_matters_59 (by decide +kernel) ?_
        refine o_lcmp hC dX7_matters_60 ?_
        refine o_if_ne (tgt := 68) hC dX7_matters_61 (by decide) (fun c_61 => ?_) (fun c_61 => ?_)
        · refine o_aload_n hC dX7_matters_68 (by rfl) ?_
          refine o_aload_n hC dX7_matters_69 (by rfl) ?_
          refine o_getf hC (fX7_160 hC rfl) dX7_matters_70 (by repeat (first | with_reducible assumption | (rw [rl_u_s]; done) | (rw [rl_u_s]; rfl) | rw [rl_u_n (by first | with_reducible assumption | omega)])) (by first | rfl | with_reducible assumption) ?_
          refine o_lload hC dX7_matters_73 (by rfl) ?_
          refine o_iload hC dX7_matters_75 (by rfl) ?_
          refine o_callV3 hC rl_BW_good rl_Ns_nw (by exact hB.2.2.2.2.2) YX7_isSeen IX7_isSeen VX7_isSeen (mX7_212 hC) (by rw [hB.1]; exact cd_X7_isSeen l D ids H0 _ _ x L s c (c.1 j + 1 + 2 + 5 * i + 2) _ _ _ _ _ _ hk e3 ew (by have := c14 j (by omega); omega)) (by exact c1) rfl rfl (Nat.le_of_ble_eq_true rfl) (by rw [hB.2.1]; first | exact Nat.le_of_ble_eq_true rfl | (dsimp only; omega)) (by rw [hB.2.1]; first | exact Nat.le_of_ble_eq_true rfl | (dsimp only; omega)) (by rw [hB.2.1]; first | exact Nat.le_of_ble_eq_true rfl | (dsimp only; omega)) (by rw [hB.2.1]; first | exact Nat.le_of_ble_eq_true rfl | (dsimp only; omega)) dX7_matters_77 (fun v h_77 n_77 p_77 => ?_)
          obtain ⟨is, Lb, rfl, rfl, u1, u2, u3, eL, rfl⟩ := p_77
          try dsimp only [Option.toList, List.cons_append, List.nil_append]
          refine o_callS1 hC rl_BW_good rl_Ns_nw (by exact hB.2.2.2.2.2) YX7_asNumber SX7_asNumber (mX7_187 hC) (by rw [hB.1]; exact cd_X7_asNumber l D ids H0 _ _ _) (Nat.le_of_ble_eq_true rfl) (by rw [hB.2.1]; first | exact Nat.le_of_ble_eq_true rfl | (dsimp only; omega)) (by rw [hB.2.1]; first | exact Nat.le_of_ble_eq_true rfl | (dsimp only; omega)) (by rw [hB.2.1]; first | exact Nat.le_of_ble_eq_true rfl | (dsimp only; omega)) (by rw [hB.2.1]; first | exact Nat.le_of_ble_eq_true rfl | (dsimp only; omega)) dX7_matters_80 (fun v h_80 n_80 p_80 => ?_)
          obtain ⟨rfl, rfl, rfl⟩ := p_80
          rw [as_p]
          try dsimp only [Option.toList, List.cons_append, List.nil_append]
          refine o_iret hC hB dX7_matters_83 (Nat.le_of_ble_eq_true rfl) (Nat.le_of_ble_eq_true rfl) ?_
          first
          | exact ⟨_, rfl, rfl, hk, cl_fr.rf, fun _ _ => rfl, Or.inr ⟨t, htl, rfl, (fun u => c_18 (ite01.mpr u)), Or.inr (Or.inl ⟨c_43, (lg_cmp_eq _ _).mp (by first | exact c_61 | exact Classical.not_not.mp c_61), rfl⟩)⟩⟩
          | exact ⟨_, rfl, rfl, u1, u2, u3, Or.inr ⟨t, htl, rfl, (fun u => c_18 (ite01.mpr u)), Or.inr (Or.inr ⟨c_43, fun w => c_61 ((lg_cmp_eq _ _).mpr w), Lb, eL, rfl⟩)⟩⟩
        · refine o_iconst (v := nI 0) hC dX7_matters_64 (by decide +kernel) ?_
          refine o_goto (tgt := 83) hC dX7_matters_65 (by decide) ?_
          refine o_iret hC hB dX7_matters_83 (Nat.le_of_ble_eq_true rfl) (Nat.le_of_ble_eq_true rfl) ?_
          first
          | exact ⟨_, rfl, rfl, hk, cl_fr.rf, fun _ _ => rfl, Or.inr ⟨t, htl, rfl, (fun u => c_18 (ite01.mpr u)), Or.inr (Or.inl ⟨c_43, (lg_cmp_eq _ _).mp (by first | exact c_61 | exact Classical.not_not.mp c_61), rfl⟩)⟩⟩
          | exact ⟨_, rfl, rfl, u1, u2, u3, Or.inr ⟨t, htl, rfl, (fun u => c_18 (ite01.mpr u)), Or.inr (Or.inr ⟨c_43, fun w => c_61 ((lg_cmp_eq _ _).mpr w), Lb, eL, rfl⟩)⟩⟩
      · refine o_bipush (v := (-4 : Int32)) hC dX7_matters_46 (by decide +kernel) ?_
        refine o_iret hC hB dX7_matters_48 (Nat.le_of_ble_eq_true rfl) (Nat.le_of_ble_eq_true rfl) ?_
        exact ⟨_, rfl, rfl, hk, cl_fr.rf, fun _ _ => rfl, Or.inr ⟨t, htl, rfl, (fun u => c_18 (ite01.mpr u)), Or.inl ⟨c_43, rfl⟩⟩⟩
    · refine o_iconst (v := (-1 : Int32)) hC dX7_matters_21 (by decide +kernel) ?_
      refine o_iret hC hB dX7_matters_22 (Nat.le_of_ble_eq_true rfl) (Nat.le_of_ble_eq_true rfl) ?_
      exact ⟨_, rfl, rfl, hk, cl_fr.rf, fun _ _ => rfl, Or.inl ⟨Or.inr (ite01.mp (by first | exact c_18 | exact Classical.not_not.mp c_18)), rfl⟩⟩
