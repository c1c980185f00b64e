/-! RowLineage in every state: row -/

set_option maxHeartbeats 4000000 in
set_option maxRecDepth 100000 in
theorem cg_X7_row (l : Launch) (D : va_G) (ids : Nat → ClassId) (H0 : Heap) (h : rl_H) (n : Nat) (x : Nat) (s : cl_S) (c : cl_N) (q a b e d : Int32) (hc : cl_at ids h x s c) : rl_Met l (rl_e D ids H0) rl_BW rl_Ns yX7_row cX7_row 7 (some .int) ({ frames := 1, cells := 0, slots := 0, locals := 26 }) [.ref x, .int q, .int a, .int b, .int e, .int d] h n (fun v h' n' => ∃ z : Int32, v = some (.int z) ∧ n' = n ∧ (((q < 0 ∨ nI s.2.2.2.1 ≤ q) ∧ z = -1 ∧ h' = h) ∨ (¬ (q < 0 ∨ nI s.2.2.2.1 ≤ q) ∧ 36 ≤ s.2.2.2.2 ∧ z = -4 ∧ h' = h) ∨ (¬ (q < 0 ∨ nI s.2.2.2.1 ≤ q) ∧ s.2.2.2.2 < 36 ∧ z = nI s.2.2.2.2 ∧ cl_at ids h' x (s.1, upd s.2.1 s.2.2.2.2 q, (fun r => if r = s.2.2.2.2 then upd (upd (upd (upd (s.2.2.1 s.2.2.2.2) 0 a) 1 b) 2 e) 3 d else s.2.2.1 r), s.2.2.2.1, s.2.2.2.2 + 1) (c.1, c.2.1, c.2.2.1, cl_un c.2.2.2.1 c.2.2.1, -1, (c.2.2.2.2.2 ||| (1 : Int64) <<< ((nI s.2.2.2.2).toInt64 &&& 63))) ∧ ∀ k, (k < x ∨ x + 41 ≤ k) → (∀ i, i < c.2.2.1 → k ≠ c.1 i) → h' k = h k))) := by
  obtain ⟨c1, c2, c3, ⟨pn, c4, c5⟩, ⟨pt, c6, c7⟩, c8, c9, c10, c11, c12, c13, c14, c15⟩ := id hc
  obtain ⟨s1, s2, s3, s4, s5, s6, s7⟩ := id c2
  refine rl_Met.of (by decide +kernel) (Nat.le_of_ble_eq_true rfl) ?_
  intro X hC hB
  show rl_G X (rl_e D ids H0) 0 [some (.ref x), some (.int q), some (.int a), some (.int b), some (.int e), some (.int d), none] [] h n 0 0
  refine o_aload_n hC dX7_row_0 (by rfl) ?_
  refine o_getf hC (fX7_10 hC rfl) dX7_row_1 (by repeat (first | with_reducible assumption | (rw [rl_u_s]; done) | (rw [rl_u_s]; rfl) | rw [rl_u_n (by first | with_reducible assumption | omega)])) (by first | rfl | with_reducible assumption) ?_
  refine o_iload_n hC dX7_row_4 (by rfl) ?_
  refine o_callV1 hC rl_BW_good rl_Ns_nw (by exact hB.2.2.2.2.2) YX3_isSource IX3_isSource VX3_isSource (mX7_60 hC) (by rw [hB.1]; exact ct_X3_isSource l D ids H0 _ _ (x + 1) _ _ _ _ _ _ c2) (by exact c2.1) rfl rfl (Nat.le_of_ble_eq_true rfl) (by rw [hB.2.1]; first | exact Nat.le_of_ble_eq_true rfl | (dsimp only; omega)) (by rw [hB.2.1]; first | exact Nat.le_of_ble_eq_true rfl | (dsimp only; omega)) (by rw [hB.2.1]; first | exact Nat.le_of_ble_eq_true rfl | (dsimp only; omega)) (by rw [hB.2.1]; first | exact Nat.le_of_ble_eq_true rfl | (dsimp only; omega)) dX7_row_5 (fun v h_5 n_5 p_5 => ?_)
  obtain ⟨rfl, rfl, rfl⟩ := p_5
  try dsimp only [Option.toList, List.cons_append, List.nil_append]
  by_cases hr : (q < 0 ∨ nI s.2.2.2.1 ≤ q)
  · rw [if_pos hr]
    refine o_if_ne (tgt := 13) hC dX7_row_8 (by decide) (fun c_8 => ?_) (fun c_8 => ?_)
    · exact absurd rfl c_8
    · refine o_iconst (v := (-1 : Int32)) hC dX7_row_11 (by decide +kernel) ?_
      refine o_iret hC hB dX7_row_12 (Nat.le_of_ble_eq_true rfl) (Nat.le_of_ble_eq_true rfl) ?_
      exact ⟨_, rfl, rfl, Or.inl ⟨hr, rfl, rfl⟩⟩
  · rw [if_neg hr]
    refine o_if_ne (tgt := 13) hC dX7_row_8 (by decide) (fun c_8 => ?_) (fun c_8 => ?_)
    · refine o_aload_n hC dX7_row_13 (by rfl) ?_
      refine o_getf hC (fX7_10 hC rfl) dX7_row_14 (by repeat (first | with_reducible assumption | (rw [rl_u_s]; done) | (rw [rl_u_s]; rfl) | rw [rl_u_n (by first | with_reducible assumption | omega)])) (by first | rfl | with_reducible assumption) ?_
      refine o_getf hC (fX7_64 hC rfl) dX7_row_17 (by repeat (first | with_reducible assumption | (rw [rl_u_s]; done) | (rw [rl_u_s]; rfl) | rw [rl_u_n (by first | with_reducible assumption | omega)])) (by first | rfl | with_reducible assumption) ?_
      refine o_bipush (v := nI 36) hC dX7_row_20 (by decide +kernel) ?_
      refine o_icmp_lt (tgt := 28) hC dX7_row_22 (by decide) (fun c_22 => ?_) (fun c_22 => ?_)
      · have h36 : s.2.2.2.2 < 36 := by
          rcases Nat.lt_or_ge s.2.2.2.2 36 with z | z
          · exact z
          · exact absurd c_22 (nI_nlt z (by omega))
        refine o_aload_n hC dX7_row_28 (by rfl) ?_
        refine o_getf hC (fX7_10 hC rfl) dX7_row_29 (by repeat (first | with_reducible assumption | (rw [rl_u_s]; done) | (rw [rl_u_s]; rfl) | rw [rl_u_n (by first | with_reducible assumption | omega)])) (by first | rfl | with_reducible assumption) ?_
        refine o_iload_n hC dX7_row_32 (by rfl) ?_
        refine o_iload_n hC dX7_row_33 (by rfl) ?_
        refine o_iload_n hC dX7_row_34 (by rfl) ?_
        refine o_iload hC dX7_row_35 (by rfl) ?_
        refine o_iload hC dX7_row_37 (by rfl) ?_
        refine o_callV5 hC rl_BW_good rl_Ns_nw (by exact hB.2.2.2.2.2) YX3_addRow IX3_addRow VX3_addRow (mX7_67 hC) (by rw [hB.1]; exact ct_X3_addRow l D ids H0 _ _ (x + 1) _ _ _ _ _ q a b e d c2 h36) (by exact c2.1) rfl rfl (Nat.le_of_ble_eq_true rfl) (by rw [hB.2.1]; first | exact Nat.le_of_ble_eq_true rfl | (dsimp only; omega)) (by rw [hB.2.1]; first | exact Nat.le_of_ble_eq_true rfl | (dsimp only; omega)) (by rw [hB.2.1]; first | exact Nat.le_of_ble_eq_true rfl | (dsimp only; omega)) (by rw [hB.2.1]; first | exact Nat.le_of_ble_eq_true rfl | (dsimp only; omega)) dX7_row_39 (fun v h_39 n_39 p_39 => ?_)
        obtain ⟨rfl, rfl, p1, p2⟩ := p_39
        have k1 : cl_at ids h_39 x (s.1, upd s.2.1 s.2.2.2.2 q, (fun r => if r = s.2.2.2.2 then upd (upd (upd (upd (s.2.2.1 s.2.2.2.2) 0 a) 1 b) 2 e) 3 d else s.2.2.1 r), s.2.2.2.1, s.2.2.2.2 + 1) c := hc.so (s' := (s.1, upd s.2.1 s.2.2.2.2 q, (fun r => if r = s.2.2.2.2 then upd (upd (upd (upd (s.2.2.1 s.2.2.2.2) 0 a) 1 b) 2 e) 3 d else s.2.2.1 r), s.2.2.2.1, s.2.2.2.2 + 1)) p1 (p2.wd (by omega) (by omega))
        have k0 := k1.1
        try dsimp only [Option.toList, List.cons_append, List.nil_append]
        refine o_istore hC dX7_row_42 (Nat.le_of_ble_eq_true rfl) ?_
        refine o_aload_n hC dX7_row_44 (by rfl) ?_
        refine o_dup hC dX7_row_45 rfl ?_
        refine o_getf hC (fX7_71 hC rfl) dX7_row_46 (by repeat (first | with_reducible assumption | (rw [rl_u_s]; done) | (rw [rl_u_s]; rfl) | rw [rl_u_n (by first | with_reducible assumption | omega)])) (by first | rfl | with_reducible assumption) ?_
        refine o_lconst (v := 1) hC dX7_row_49 (by decide +kernel) ?_
        refine o_iload hC dX7_row_50 (by rfl) ?_
        refine o_lshl hC dX7_row_52 ?_
        refine o_lor hC dX7_row_53 ?_
        refine o_putf hC (fX7_71 hC rfl) (fwX7 rfl rfl rfl (Or.inl rfl)) dX7_row_54 (by repeat (first | with_reducible assumption | (rw [rl_u_s]; done) | (rw [rl_u_s]; rfl) | rw [rl_u_n (by first | with_reducible assumption | omega)])) (Nat.le_of_ble_eq_true rfl) ?_
        try simp only [List.set_cons_zero, List.set_cons_succ]
        refine o_aload_n hC dX7_row_57 (by rfl) ?_
        refine o_callV0 hC rl_BW_good rl_Ns_nw (by exact hB.2.2.2.2.2) YX7_forgetWhatNodesGave IX7_forgetWhatNodesGave VX7_forgetWhatNodesGave (mX7_75 hC) (by rw [hB.1]; exact cg_X7_forgetWhatNodesGave l D ids H0 _ _ x _ _ (k1.rp c.2.2.2.2.1 (c.2.2.2.2.2 ||| (1 : Int64) <<< ((nI s.2.2.2.2).toInt64 &&& 63)))) (by exact rl_u_s) rfl rfl (Nat.le_of_ble_eq_true rfl) (by rw [hB.2.1]; first | exact Nat.le_of_ble_eq_true rfl | (dsimp only; omega)) (by rw [hB.2.1]; first | exact Nat.le_of_ble_eq_true rfl | (dsimp only; omega)) (by rw [hB.2.1]; first | exact Nat.le_of_ble_eq_true rfl | (dsimp only; omega)) (by rw [hB.2.1]; first | exact Nat.le_of_ble_eq_true rfl | (dsimp only; omega)) dX7_row_58 (fun v h_58 n_58 p_58 => ?_)
        obtain ⟨rfl, rfl, k3, k4⟩ := p_58
        try dsimp only [Option.toList, List.cons_append, List.nil_append]
        refine o_iload hC dX7_row_61 (by rfl) ?_
        refine o_iret hC hB dX7_row_63 (Nat.le_of_ble_eq_true rfl) (Nat.le_of_ble_eq_true rfl) ?_
        first
        | exact ⟨_, rfl, rfl, Or.inr (Or.inr ⟨hr, h36, rfl, k3, fun k z1 z2 => by rw [k4 k z2 (by omega), rl_u_n (by omega)]; exact p2 k (by omega)⟩)⟩
        | exact ⟨_, rfl, rfl, Or.inr (Or.inl ⟨hr, (by rcases Nat.lt_or_ge s.2.2.2.2 36 with z | z; exact absurd (nI_lt z (by decide)) c_22; exact z), rfl, rfl⟩)⟩
      · refine o_bipush (v := (-4 : Int32)) hC dX7_row_25 (by decide +kernel) ?_
        refine o_iret hC hB dX7_row_27 (Nat.le_of_ble_eq_true rfl) (Nat.le_of_ble_eq_true rfl) ?_
        first
        | exact ⟨_, rfl, rfl, Or.inr (Or.inr ⟨hr, h36, rfl, k3, fun k z1 z2 => by rw [k4 k z2 (by omega), rl_u_n (by omega)]; exact p2 k (by omega)⟩)⟩
        | exact ⟨_, rfl, rfl, Or.inr (Or.inl ⟨hr, (by rcases Nat.lt_or_ge s.2.2.2.2 36 with z | z; exact absurd (nI_lt z (by decide)) c_22; exact z), rfl, rfl⟩)⟩
    · exact absurd c_8 (by decide +kernel)
