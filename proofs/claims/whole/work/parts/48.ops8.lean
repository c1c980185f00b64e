/-! Operators.fill by shapes -/
/-- what a Node's numbers must be, so that its table can be filled -/
def nd_ok (op w : Nat) (f4 f5 f6 f7 : Int32) (wd1 wd2 : Nat) : Prop :=
  op ≤ 6 ∧ w ≤ 6 ∧ (op = 1 → (∃ c4 : Nat, c4 < 6 ∧ f4 = nI c4) ∧ (f5 = -1 ∨ ∃ c5 : Nat, c5 < 6 ∧ f5 = nI c5) ∧ ∃ kd : Nat, kd ≤ 2 ∧ f6 = nI kd) ∧ (op = 2 → ∃ N : Nat, N < 2147483648 ∧ f7 = nI N ∧ ∀ c, c < w → 1 ≤ N / 10 ^ c % 10 ∧ N / 10 ^ c % 10 ≤ 6) ∧
  (op = 3 → (∃ c4 : Nat, c4 < 6 ∧ f4 = nI c4) ∧ (∃ c5 : Nat, c5 < 6 ∧ f5 = nI c5) ∧ wd1 + wd2 ≤ 6) ∧ (op = 6 → (∃ c4 : Nat, c4 < 6 ∧ f4 = nI c4) ∧ (∃ c5 : Nat, c5 < 6 ∧ f5 = nI c5) ∧ ∃ kd : Nat, kd ≤ 3 ∧ f6 = nI kd)
theorem tb_ok.begin {ids : Nat → ClassId} {h h' : rl_H} {a wd w : Nat} (H : tb_ok ids h a wd) (hw : w ≤ 6) (h1 : h' a = some (.inr (4, [.ref (a + 1), .int (nI 0), .int (nI w)]))) (he : ∀ q, q ≠ a → h' q = h q) : tb_ok ids h' a w := by
  obtain ⟨sz, P, S, t1, ⟨f, t2, t3⟩, t4, t5, t6, t7⟩ := H
  exact ⟨0, P, S, h1, ⟨f, by rw [he (a + 1) (by omega)]; exact t2, t3⟩, t4, fun i hi => (t5 i hi).eqv (fun q q1 q2 => he q (by omega)), Nat.zero_le _, hw⟩

set_option maxHeartbeats 4000000 in
set_option maxRecDepth 100000 in
theorem ct_X2_fill (l : Launch) (D : va_G) (ids : Nat → ClassId) (H0 : Heap) (h : rl_H) (n : Nat) (o so a w wd0 op nd a1 a2 sz1 sz2 wd1 wd2 sc rc : Nat) (gp : Nat → Option Nat) (P1 P2 : Nat → Nat) (S1 S2 : tb_S) (wf sf : Nat → Int32) (cf : Nat → Nat → Int32) (f2 f3 f4 f5 f6 f7 f8 : Int32) (ho : op_sh ids h o so gp) (ht : tb_ok ids h a wd0) (hs : so_at ids h so wf sf cf sc rc) (hnd : h nd = some (.inr (1, [.int (nI op), .int (nI w), .int f2, .int f3, .int f4, .int f5, .int f6, .int f7, .int f8]))) (hok : nd_ok op w f4 f5 f6 f7 wd1 wd2) (hoa : o + 22 ≤ a ∨ a + 402 ≤ o) (hso : so + 40 ≤ o ∨ o + 22 ≤ so) (hsa : so + 40 ≤ a ∨ a + 402 ≤ so) (hno : nd < o ∨ o + 22 ≤ nd) (hna : nd < a ∨ a + 402 ≤ nd) (hi : 1 ≤ op → tb_at ids h a1 sz1 wd1 P1 S1 ∧ (o + 22 ≤ a1 ∨ a1 + 402 ≤ o) ∧ (a1 + 402 ≤ a ∨ a + 402 ≤ a1)) (hj : op = 3 ∨ op = 4 ∨ op = 5 → tb_at ids h a2 sz2 wd2 P2 S2 ∧ (o + 22 ≤ a2 ∨ a2 + 402 ≤ o) ∧ (a2 + 402 ≤ a ∨ a + 402 ≤ a2)) : rl_Met l (rl_e D ids H0) rl_BW rl_Ns yX2_fill cX2_fill 6 (some .boolean) ({ frames := 6, cells := 0, slots := 0, locals := 201 }) [.ref o, .ref nd, .ref so, .ref a1, .ref a2, .ref a] h n (fun v h' n' => ∃ x : Int32, v = some (.int x) ∧ n' = n ∧ (x = nI 0 ∨ x = nI 1) ∧ (∃ gp' : Nat → Option Nat, op_sh ids h' o so gp') ∧ tb_ok ids h' a w ∧ rl_g2 h h' o (o + 22) a (a + 402)) := by
  obtain ⟨sz0, P0, S0, ht0⟩ := id ht
  have t1 := ht0.1
  refine rl_Met.of (by decide +kernel) (Nat.le_of_ble_eq_true rfl) ?_
  intro X hC hB
  show rl_G X (rl_e D ids H0) 0 [some (.ref o), some (.ref nd), some (.ref so), some (.ref a1), some (.ref a2), some (.ref a)] [] h n 0 0
  refine o_aload hC dX2_fill_0 (by rfl) ?_
  refine o_aload_n hC dX2_fill_2 (by rfl) ?_
  refine o_getf hC (fX2_39 hC rfl) dX2_fill_3 (by repeat (first | with_reducible assumption | (rw [rl_u_s]; done) | (rw [rl_u_s]; rfl) | rw [rl_u_n (by first | with_reducible assumption | omega)])) (by first | rfl | with_reducible assumption) ?_
  refine o_callV1 hC rl_BW_good rl_Ns_nw (by exact hB.2.2.2.2.2) YX4_begin IX4_begin VX4_begin (mX2_45 hC) (by rw [hB.1]; exact ct_X4_begin l D ids H0 _ _ a _ _ _ _ t1) (by exact t1) rfl rfl (Nat.le_of_ble_eq_true rfl) (by rw [hB.2.1]; first | exact Nat.le_of_ble_eq_true rfl | (dsimp only; omega)) (by rw [hB.2.1]; first | exact Nat.le_of_ble_eq_true rfl | (dsimp only; omega)) (by rw [hB.2.1]; first | exact Nat.le_of_ble_eq_true rfl | (dsimp only; omega)) (by rw [hB.2.1]; first | exact Nat.le_of_ble_eq_true rfl | (dsimp only; omega)) dX2_fill_6 (fun v h_6 n_6 p_6 => ?_)
  obtain ⟨rfl, rfl, b1, b2⟩ := p_6
  have b3 : ∀ q, q ≠ a → h_6 q = h q := fun q hq => b2 q (by omega)
  have ho2 : op_sh ids h_6 o so gp := ho.eqv (fun q q1 q2 => b3 q (by omega))
  have ht2 : tb_ok ids h_6 a w := ht.begin hok.2.1 b1 b3
  have hs2 := hs.eqv (h' := h_6) (fun q q1 q2 => b3 q (by omega))
  have n2 := (b3 nd (by omega)).trans hnd
  have o2 := ho2.1
  try dsimp only [Option.toList, List.cons_append, List.nil_append]
  refine o_aload_n hC dX2_fill_9 (by rfl) ?_
  refine o_getf hC (fX2_51 hC rfl) dX2_fill_10 (by repeat (first | with_reducible assumption | (rw [rl_u_s]; done) | (rw [rl_u_s]; rfl) | rw [rl_u_n (by first | with_reducible assumption | omega)])) (by first | rfl | with_reducible assumption) ?_
  rcases (show op = 0 ∨ op = 1 ∨ op = 2 ∨ op = 3 ∨ op = 4 ∨ op = 5 ∨ op = 6 by have := hok.1; omega) with rfl | rfl | rfl | rfl | rfl | rfl | rfl
  · refine o_tableIn (off := 39) (tgt := 52) hC dX2_fill_13 (by decide +kernel) (by decide +kernel) (by decide +kernel) (by decide) ?_
    refine o_aload_n hC dX2_fill_52 (by rfl) ?_
    refine o_aload_n hC dX2_fill_53 (by rfl) ?_
    refine o_aload_n hC dX2_fill_54 (by rfl) ?_
    refine o_aload hC dX2_fill_55 (by rfl) ?_
    refine o_callV3 hC rl_BW_good rl_Ns_nw (by exact hB.2.2.2.2.2) YX2_fillScan IX2_fillScan VX2_fillScan (mX2_54 hC) (by rw [hB.1]; exact ct_X2_fillScan l D ids H0 _ _ o so a w nd sc rc gp wf sf cf _ _ _ _ _ _ _ _ _ ho2 ht2 hs2 n2 (by omega) (by omega) (by omega) (by omega) (by omega)) (by exact o2) rfl rfl (Nat.le_of_ble_eq_true rfl) (by rw [hB.2.1]; first | exact Nat.le_of_ble_eq_true rfl | (dsimp only; omega)) (by rw [hB.2.1]; first | exact Nat.le_of_ble_eq_true rfl | (dsimp only; omega)) (by rw [hB.2.1]; first | exact Nat.le_of_ble_eq_true rfl | (dsimp only; omega)) (by rw [hB.2.1]; first | exact Nat.le_of_ble_eq_true rfl | (dsimp only; omega)) dX2_fill_57 (fun v h_57 n_57 p_57 => ?_)
    obtain ⟨x, rfl, rfl, q0, ⟨gp3, q1⟩, q2, q3⟩ := p_57
    try dsimp only [Option.toList, List.cons_append, List.nil_append]
    refine o_zret hC hB dX2_fill_60 (by rcases q0 with q | q <;> (rw [q]; decide +kernel)) (Nat.le_of_ble_eq_true rfl) (Nat.le_of_ble_eq_true rfl) ?_
    exact ⟨_, rfl, rfl, q0, ⟨_, q1⟩, q2, (fun q z1 z2 => (q3 q (by omega) (by omega)).trans (b3 q (by omega)))⟩
  · obtain ⟨i1, i2, i3⟩ := hi (by decide)
    have i4 := i1.eqv (h' := h_6) (fun q q1 q2 => b3 q (by omega))
    obtain ⟨⟨c4, h4, rfl⟩, hf5, kd, h6, rfl⟩ := hok.2.2.1 rfl
    refine o_tableIn (off := 48) (tgt := 61) hC dX2_fill_13 (by decide +kernel) (by decide +kernel) (by decide +kernel) (by decide) ?_
    refine o_aload_n hC dX2_fill_61 (by rfl) ?_
    refine o_aload_n hC dX2_fill_62 (by rfl) ?_
    refine o_aload_n hC dX2_fill_63 (by rfl) ?_
    refine o_aload hC dX2_fill_64 (by rfl) ?_
    refine o_callV3 hC rl_BW_good rl_Ns_nw (by exact hB.2.2.2.2.2) YX2_fillPick IX2_fillPick VX2_fillPick (mX2_58 hC) (by rw [hB.1]; exact ct_X2_fillPick l D ids H0 _ _ o so a a1 sz1 w wd1 gp P1 S1 nd c4 kd _ _ _ _ f5 _ _ ho2 ht2 i4 (by omega) (by omega) (by omega) n2 h4 hf5 h6 (by omega) (by omega)) (by exact o2) rfl rfl (Nat.le_of_ble_eq_true rfl) (by rw [hB.2.1]; first | exact Nat.le_of_ble_eq_true rfl | (dsimp only; omega)) (by rw [hB.2.1]; first | exact Nat.le_of_ble_eq_true rfl | (dsimp only; omega)) (by rw [hB.2.1]; first | exact Nat.le_of_ble_eq_true rfl | (dsimp only; omega)) (by rw [hB.2.1]; first | exact Nat.le_of_ble_eq_true rfl | (dsimp only; omega)) dX2_fill_66 (fun v h_66 n_66 p_66 => ?_)
    obtain ⟨x, rfl, rfl, q0, ⟨gp3, q1⟩, q2, q3⟩ := p_66
    try dsimp only [Option.toList, List.cons_append, List.nil_append]
    refine o_zret hC hB dX2_fill_69 (by rcases q0 with q | q <;> (rw [q]; decide +kernel)) (Nat.le_of_ble_eq_true rfl) (Nat.le_of_ble_eq_true rfl) ?_
    exact ⟨_, rfl, rfl, q0, ⟨_, q1⟩, q2, (fun q z1 z2 => (q3 q (by omega) (by omega)).trans (b3 q (by omega)))⟩
  · obtain ⟨i1, i2, i3⟩ := hi (by decide)
    have i4 := i1.eqv (h' := h_6) (fun q q1 q2 => b3 q (by omega))
    obtain ⟨N, hN, rfl, hdg⟩ := hok.2.2.2.1 rfl
    refine o_tableIn (off := 57) (tgt := 70) hC dX2_fill_13 (by decide +kernel) (by decide +kernel) (by decide +kernel) (by decide) ?_
    refine o_aload_n hC dX2_fill_70 (by rfl) ?_
    refine o_aload_n hC dX2_fill_71 (by rfl) ?_
    refine o_aload_n hC dX2_fill_72 (by rfl) ?_
    refine o_aload hC dX2_fill_73 (by rfl) ?_
    refine o_callV3 hC rl_BW_good rl_Ns_nw (by exact hB.2.2.2.2.2) YX2_fillCols IX2_fillCols VX2_fillCols (mX2_62 hC) (by rw [hB.1]; exact ct_X2_fillCols l D ids H0 _ _ o so a a1 sz1 w wd1 gp P1 S1 nd w N _ _ _ _ _ _ _ ho2 ht2 i4 (by omega) (by omega) (by omega) n2 hok.2.1 hN hdg (by omega) (by omega)) (by exact o2) rfl rfl (Nat.le_of_ble_eq_true rfl) (by rw [hB.2.1]; first | exact Nat.le_of_ble_eq_true rfl | (dsimp only; omega)) (by rw [hB.2.1]; first | exact Nat.le_of_ble_eq_true rfl | (dsimp only; omega)) (by rw [hB.2.1]; first | exact Nat.le_of_ble_eq_true rfl | (dsimp only; omega)) (by rw [hB.2.1]; first | exact Nat.le_of_ble_eq_true rfl | (dsimp only; omega)) dX2_fill_75 (fun v h_75 n_75 p_75 => ?_)
    obtain ⟨x, rfl, rfl, q0, ⟨gp3, q1⟩, q2, q3⟩ := p_75
    try dsimp only [Option.toList, List.cons_append, List.nil_append]
    refine o_zret hC hB dX2_fill_78 (by rcases q0 with q | q <;> (rw [q]; decide +kernel)) (Nat.le_of_ble_eq_true rfl) (Nat.le_of_ble_eq_true rfl) ?_
    exact ⟨_, rfl, rfl, q0, ⟨_, q1⟩, q2, (fun q z1 z2 => (q3 q (by omega) (by omega)).trans (b3 q (by omega)))⟩
  · obtain ⟨i1, i2, i3⟩ := hi (by decide)
    have i4 := i1.eqv (h' := h_6) (fun q q1 q2 => b3 q (by omega))
    obtain ⟨j1, j2, j3⟩ := hj (by decide)
    have j4 := j1.eqv (h' := h_6) (fun q q1 q2 => b3 q (by omega))
    obtain ⟨⟨c4, h4, rfl⟩, ⟨c5, h5, rfl⟩, hwd⟩ := hok.2.2.2.2.1 rfl
    refine o_tableIn (off := 66) (tgt := 79) hC dX2_fill_13 (by decide +kernel) (by decide +kernel) (by decide +kernel) (by decide) ?_
    refine o_aload_n hC dX2_fill_79 (by rfl) ?_
    refine o_aload_n hC dX2_fill_80 (by rfl) ?_
    refine o_aload_n hC dX2_fill_81 (by rfl) ?_
    refine o_aload hC dX2_fill_82 (by rfl) ?_
    refine o_aload hC dX2_fill_84 (by rfl) ?_
    refine o_callV4 hC rl_BW_good rl_Ns_nw (by exact hB.2.2.2.2.2) YX2_fillJoin IX2_fillJoin VX2_fillJoin (mX2_65 hC) (by rw [hB.1]; exact ct_X2_fillJoin l D ids H0 _ _ o so a a1 sz1 w wd1 gp P1 S1 a2 sz2 wd2 nd c4 c5 P2 S2 _ _ _ _ _ _ _ ho2 ht2 i4 (by omega) (by omega) (by omega) j4 (by omega) (by omega) n2 h4 h5 (by omega) (by omega) hwd) (by exact o2) rfl rfl (Nat.le_of_ble_eq_true rfl) (by rw [hB.2.1]; first | exact Nat.le_of_ble_eq_true rfl | (dsimp only; omega)) (by rw [hB.2.1]; first | exact Nat.le_of_ble_eq_true rfl | (dsimp only; omega)) (by rw [hB.2.1]; first | exact Nat.le_of_ble_eq_true rfl | (dsimp only; omega)) (by rw [hB.2.1]; first | exact Nat.le_of_ble_eq_true rfl | (dsimp only; omega)) dX2_fill_86 (fun v h_86 n_86 p_86 => ?_)
    obtain ⟨x, rfl, rfl, q0, ⟨gp3, q1⟩, q2, q3⟩ := p_86
    try dsimp only [Option.toList, List.cons_append, List.nil_append]
    refine o_zret hC hB dX2_fill_89 (by rcases q0 with q | q <;> (rw [q]; decide +kernel)) (Nat.le_of_ble_eq_true rfl) (Nat.le_of_ble_eq_true rfl) ?_
    exact ⟨_, rfl, rfl, q0, ⟨_, q1⟩, q2, (fun q z1 z2 => (q3 q (by omega) (by omega)).trans (b3 q (by omega)))⟩
  · obtain ⟨i1, i2, i3⟩ := hi (by decide)
    have i4 := i1.eqv (h' := h_6) (fun q q1 q2 => b3 q (by omega))
    obtain ⟨j1, j2, j3⟩ := hj (by decide)
    have j4 := j1.eqv (h' := h_6) (fun q q1 q2 => b3 q (by omega))
    refine o_tableIn (off := 77) (tgt := 90) hC dX2_fill_13 (by decide +kernel) (by decide +kernel) (by decide +kernel) (by decide) ?_
    refine o_aload_n hC dX2_fill_90 (by rfl) ?_
    refine o_aload_n hC dX2_fill_91 (by rfl) ?_
    refine o_aload hC dX2_fill_92 (by rfl) ?_
    refine o_callV2 hC rl_BW_good rl_Ns_nw (by exact hB.2.2.2.2.2) YX2_putAll IX2_putAll VX2_putAll (mX2_69 hC) (by rw [hB.1]; exact ct_X2_putAll l D ids H0 _ _ o so a a1 sz1 w wd1 gp P1 S1 ho2 ht2 i4 (by omega) (by omega) (by omega)) (by exact o2) rfl rfl (Nat.le_of_ble_eq_true rfl) (by rw [hB.2.1]; first | exact Nat.le_of_ble_eq_true rfl | (dsimp only; omega)) (by rw [hB.2.1]; first | exact Nat.le_of_ble_eq_true rfl | (dsimp only; omega)) (by rw [hB.2.1]; first | exact Nat.le_of_ble_eq_true rfl | (dsimp only; omega)) (by rw [hB.2.1]; first | exact Nat.le_of_ble_eq_true rfl | (dsimp only; omega)) dX2_fill_94 (fun v h_94 n_94 p_94 => ?_)
    obtain ⟨x, rfl, rfl, q0, ⟨gp3, q1⟩, q2, q3⟩ := p_94
    have o4 := q1.1
    have j5 := j4.eqv (h' := h_94) (fun q z1 z2 => q3 q (by omega) (by omega))
    try dsimp only [Option.toList, List.cons_append, List.nil_append]
    refine o_if_eq (tgt := 115) hC dX2_fill_97 (by decide) (fun c_97 => ?_) (fun c_97 => ?_)
    · refine o_iconst (v := nI 0) hC dX2_fill_115 (by decide +kernel) ?_
      refine o_zret hC hB dX2_fill_116 (by first | rfl | decide +kernel) (Nat.le_of_ble_eq_true rfl) (Nat.le_of_ble_eq_true rfl) ?_
      first
      | exact ⟨_, rfl, rfl, (by first | exact Or.inl rfl | exact Or.inr rfl), ⟨_, r1⟩, r2, fun q z1 z2 => (r3 q (by omega) (by omega)).trans ((q3 q (by omega) (by omega)).trans (b3 q (by omega)))⟩
      | exact ⟨_, rfl, rfl, Or.inl rfl, ⟨_, q1⟩, q2, (fun q z1 z2 => (q3 q (by omega) (by omega)).trans (b3 q (by omega)))⟩
    · refine o_aload_n hC dX2_fill_100 (by rfl) ?_
      refine o_aload hC dX2_fill_101 (by rfl) ?_
      refine o_aload hC dX2_fill_103 (by rfl) ?_
      refine o_callV2 hC rl_BW_good rl_Ns_nw (by exact hB.2.2.2.2.2) YX2_putAll IX2_putAll VX2_putAll (mX2_69 hC) (by rw [hB.1]; exact ct_X2_putAll l D ids H0 _ _ o so a a2 sz2 w wd2 _ P2 S2 q1 q2 j5 (by omega) (by omega) (by omega)) (by exact q1.1) rfl rfl (Nat.le_of_ble_eq_true rfl) (by rw [hB.2.1]; first | exact Nat.le_of_ble_eq_true rfl | (dsimp only; omega)) (by rw [hB.2.1]; first | exact Nat.le_of_ble_eq_true rfl | (dsimp only; omega)) (by rw [hB.2.1]; first | exact Nat.le_of_ble_eq_true rfl | (dsimp only; omega)) (by rw [hB.2.1]; first | exact Nat.le_of_ble_eq_true rfl | (dsimp only; omega)) dX2_fill_105 (fun v h_105 n_105 p_105 => ?_)
      obtain ⟨x, rfl, rfl, r0, ⟨gp4, r1⟩, r2, r3⟩ := p_105
      have o5 := r1.1
      try dsimp only [Option.toList, List.cons_append, List.nil_append]
      refine o_if_eq (tgt := 115) hC dX2_fill_108 (by decide) (fun c_108 => ?_) (fun c_108 => ?_)
      · refine o_iconst (v := nI 0) hC dX2_fill_115 (by decide +kernel) ?_
        refine o_zret hC hB dX2_fill_116 (by first | rfl | decide +kernel) (Nat.le_of_ble_eq_true rfl) (Nat.le_of_ble_eq_true rfl) ?_
        first
        | exact ⟨_, rfl, rfl, (by first | exact Or.inl rfl | exact Or.inr rfl), ⟨_, r1⟩, r2, fun q z1 z2 => (r3 q (by omega) (by omega)).trans ((q3 q (by omega) (by omega)).trans (b3 q (by omega)))⟩
        | exact ⟨_, rfl, rfl, Or.inl rfl, ⟨_, q1⟩, q2, (fun q z1 z2 => (q3 q (by omega) (by omega)).trans (b3 q (by omega)))⟩
      · refine o_iconst (v := nI 1) hC dX2_fill_111 (by decide +kernel) ?_
        refine o_goto (tgt := 116) hC dX2_fill_112 (by decide) ?_
        refine o_zret hC hB dX2_fill_116 (by first | rfl | decide +kernel) (Nat.le_of_ble_eq_true rfl) (Nat.le_of_ble_eq_true rfl) ?_
        first
        | exact ⟨_, rfl, rfl, (by first | exact Or.inl rfl | exact Or.inr rfl), ⟨_, r1⟩, r2, fun q z1 z2 => (r3 q (by omega) (by omega)).trans ((q3 q (by omega) (by omega)).trans (b3 q (by omega)))⟩
        | exact ⟨_, rfl, rfl, Or.inl rfl, ⟨_, q1⟩, q2, (fun q z1 z2 => (q3 q (by omega) (by omega)).trans (b3 q (by omega)))⟩
  · obtain ⟨i1, i2, i3⟩ := hi (by decide)
    have i4 := i1.eqv (h' := h_6) (fun q q1 q2 => b3 q (by omega))
    obtain ⟨j1, j2, j3⟩ := hj (by decide)
    have j4 := j1.eqv (h' := h_6) (fun q q1 q2 => b3 q (by omega))
    refine o_tableIn (off := 104) (tgt := 117) hC dX2_fill_13 (by decide +kernel) (by decide +kernel) (by decide +kernel) (by decide) ?_
    refine o_aload_n hC dX2_fill_117 (by rfl) ?_
    refine o_aload_n hC dX2_fill_118 (by rfl) ?_
    refine o_aload hC dX2_fill_119 (by rfl) ?_
    refine o_aload hC dX2_fill_121 (by rfl) ?_
    refine o_callV3 hC rl_BW_good rl_Ns_nw (by exact hB.2.2.2.2.2) YX2_fillMinus IX2_fillMinus VX2_fillMinus (mX2_73 hC) (by rw [hB.1]; exact ct_X2_fillMinus l D ids H0 _ _ o so a a1 sz1 w wd1 gp P1 S1 a2 sz2 wd2 P2 S2 ho2 ht2 i4 (by omega) (by omega) (by omega) j4 (by omega) (by omega)) (by exact o2) rfl rfl (Nat.le_of_ble_eq_true rfl) (by rw [hB.2.1]; first | exact Nat.le_of_ble_eq_true rfl | (dsimp only; omega)) (by rw [hB.2.1]; first | exact Nat.le_of_ble_eq_true rfl | (dsimp only; omega)) (by rw [hB.2.1]; first | exact Nat.le_of_ble_eq_true rfl | (dsimp only; omega)) (by rw [hB.2.1]; first | exact Nat.le_of_ble_eq_true rfl | (dsimp only; omega)) dX2_fill_123 (fun v h_123 n_123 p_123 => ?_)
    obtain ⟨x, rfl, rfl, q0, ⟨gp3, q1⟩, q2, q3⟩ := p_123
    try dsimp only [Option.toList, List.cons_append, List.nil_append]
    refine o_zret hC hB dX2_fill_126 (by rcases q0 with q | q <;> (rw [q]; decide +kernel)) (Nat.le_of_ble_eq_true rfl) (Nat.le_of_ble_eq_true rfl) ?_
    exact ⟨_, rfl, rfl, q0, ⟨_, q1⟩, q2, (fun q z1 z2 => (q3 q (by omega) (by omega)).trans (b3 q (by omega)))⟩
  · obtain ⟨i1, i2, i3⟩ := hi (by decide)
    have i4 := i1.eqv (h' := h_6) (fun q q1 q2 => b3 q (by omega))
    obtain ⟨⟨c4, h4, rfl⟩, ⟨c5, h5, rfl⟩, kd, h6, rfl⟩ := hok.2.2.2.2.2 rfl
    refine o_tableOut (tgt := 127) hC dX2_fill_13 (by decide +kernel) (by decide) ?_
    refine o_aload_n hC dX2_fill_127 (by rfl) ?_
    refine o_aload_n hC dX2_fill_128 (by rfl) ?_
    refine o_aload_n hC dX2_fill_129 (by rfl) ?_
    refine o_aload hC dX2_fill_130 (by rfl) ?_
    refine o_callV3 hC rl_BW_good rl_Ns_nw (by exact hB.2.2.2.2.2) YX2_fillFold IX2_fillFold VX2_fillFold (mX2_77 hC) (by rw [hB.1]; exact ct_X2_fillFold l D ids H0 _ _ o so a a1 sz1 w wd1 gp P1 S1 nd c4 c5 kd _ _ _ _ _ _ ho2 ht2 i4 (by omega) (by omega) (by omega) n2 h4 h5 h6 (by omega) (by omega)) (by exact o2) rfl rfl (Nat.le_of_ble_eq_true rfl) (by rw [hB.2.1]; first | exact Nat.le_of_ble_eq_true rfl | (dsimp only; omega)) (by rw [hB.2.1]; first | exact Nat.le_of_ble_eq_true rfl | (dsimp only; omega)) (by rw [hB.2.1]; first | exact Nat.le_of_ble_eq_true rfl | (dsimp only; omega)) (by rw [hB.2.1]; first | exact Nat.le_of_ble_eq_true rfl | (dsimp only; omega)) dX2_fill_132 (fun v h_132 n_132 p_132 => ?_)
    obtain ⟨x, rfl, rfl, q0, ⟨gp3, q1⟩, q2, q3⟩ := p_132
    try dsimp only [Option.toList, List.cons_append, List.nil_append]
    refine o_zret hC hB dX2_fill_135 (by rcases q0 with q | q <;> (rw [q]; decide +kernel)) (Nat.le_of_ble_eq_true rfl) (Nat.le_of_ble_eq_true rfl) ?_
    exact ⟨_, rfl, rfl, q0, ⟨_, q1⟩, q2, (fun q z1 z2 => (q3 q (by omega) (by omega)).trans (b3 q (by omega)))⟩
