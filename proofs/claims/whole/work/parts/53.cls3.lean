/-! RowLineage in every state: source, columns -/
/-- the sources are others -/
theorem cl_at.so {ids : Nat → ClassId} {h h' : rl_H} {x : Nat} {s s' : cl_S} {c : cl_N} (H : cl_at ids h x s c) (hs : so_at ids h' (x + 1) s'.1 s'.2.1 s'.2.2.1 s'.2.2.2.1 s'.2.2.2.2) (hf : rl_fr h h' (x + 1) (x + 41)) : cl_at ids h' x s' c := by
  obtain ⟨c1, c2, ⟨gp, c3⟩, ⟨pn, c4, c5⟩, ⟨pt, c6, c7⟩, c8, c9, c10, c11, c12, c13, c14, c15⟩ := H
  refine ⟨(hf x (by omega)).trans c1, hs, ⟨gp, c3.eqv (fun q a b => hf q (by omega))⟩, ⟨pn, (hf _ (by omega)).trans c4, c5⟩, ⟨pt, (hf _ (by omega)).trans c6, c7⟩, (hf _ (by omega)).trans c8, c9.eqv (fun q a b => hf q (by omega)), c10, c11, fun k hk => (hf _ (by have := c14 k hk; omega)).trans (c12 k hk), fun k hk => ?_, c14, c15⟩
  obtain ⟨wd, hw⟩ := c13 k hk
  exact ⟨wd, hw.eqv (fun q a b => hf q (by have := c14 k hk; omega))⟩

set_option maxHeartbeats 4000000 in
set_option maxRecDepth 100000 in
theorem cg_X7_source (l : Launch) (D : va_G) (ids : Nat → ClassId) (H0 : Heap) (h : rl_H) (n : Nat) (x : Nat) (s : cl_S) (c : cl_N) (q : Int32) (hc : cl_at ids h x s c) : rl_Met l (rl_e D ids H0) rl_BW rl_Ns yX7_source cX7_source 2 (some .int) ({ frames := 1, cells := 0, slots := 0, locals := 21 }) [.ref x, .int q] h n (fun v h' n' => ∃ z : Int32, v = some (.int z) ∧ n' = n ∧ (((q < nI 1 ∨ ¬ q ≤ nI 4) ∧ z = -2 ∧ h' = h) ∨ (¬ (q < nI 1 ∨ ¬ q ≤ nI 4) ∧ 4 ≤ s.2.2.2.1 ∧ z = -4 ∧ h' = h) ∨ (¬ (q < nI 1 ∨ ¬ q ≤ nI 4) ∧ s.2.2.2.1 < 4 ∧ z = nI s.2.2.2.1 ∧ cl_at ids h' x (upd s.1 s.2.2.2.1 q, s.2.1, s.2.2.1, s.2.2.2.1 + 1, s.2.2.2.2) c ∧ rl_fr h h' (x + 1) (x + 41)))) := by
  obtain ⟨c1, c2, c3, ⟨pn, c4, c5⟩, ⟨pt, c6, c7⟩, c8, c9, c10, c11, c12, c13, c14, c15⟩ := id hc
  obtain ⟨s1, s2, s3, s4, s5, s6, s7⟩ := id c2
  refine rl_Met.of (by decide +kernel) (Nat.le_of_ble_eq_true rfl) ?_
  intro X hC hB
  show rl_G X (rl_e D ids H0) 0 [some (.ref x), some (.int q)] [] h n 0 0
  refine o_iload_n hC dX7_source_0 (by rfl) ?_
  refine o_iconst (v := nI 1) hC dX7_source_1 (by decide +kernel) ?_
  refine o_icmp_lt (tgt := 10) hC dX7_source_2 (by decide) (fun c_2 => ?_) (fun c_2 => ?_)
  · refine o_bipush (v := (-2 : Int32)) hC dX7_source_10 (by decide +kernel) ?_
    refine o_iret hC hB dX7_source_12 (Nat.le_of_ble_eq_true rfl) (Nat.le_of_ble_eq_true rfl) ?_
    first
    | exact ⟨_, rfl, rfl, Or.inl ⟨Or.inl c_2, rfl, rfl⟩⟩
    | exact ⟨_, rfl, rfl, Or.inl ⟨Or.inr c_7, rfl, rfl⟩⟩
    | exact ⟨_, rfl, rfl, Or.inr (Or.inr ⟨fun z => z.elim c_2 (fun z => z c_7), h4, rfl, hc.so (s' := (upd s.1 s.2.2.2.1 q, s.2.1, s.2.2.1, s.2.2.2.1 + 1, s.2.2.2.2)) p1 (p2.wd (by omega) (by omega)), p2.wd (by omega) (by omega)⟩)⟩
    | exact ⟨_, rfl, rfl, Or.inr (Or.inl ⟨fun z => z.elim c_2 (fun z => z c_7), (by rcases Nat.lt_or_ge s.2.2.2.1 4 with z | z; exact absurd (nI_lt z (by decide)) c_21; exact z), rfl, rfl⟩)⟩
  · refine o_iload_n hC dX7_source_5 (by rfl) ?_
    refine o_iconst (v := nI 4) hC dX7_source_6 (by decide +kernel) ?_
    refine o_icmp_le (tgt := 13) hC dX7_source_7 (by decide) (fun c_7 => ?_) (fun c_7 => ?_)
    · refine o_aload_n hC dX7_source_13 (by rfl) ?_
      refine o_getf hC (fX7_10 hC rfl) dX7_source_14 (by repeat (first | with_reducible assumption | (rw [rl_u_s]; done) | (rw [rl_u_s]; rfl) | rw [rl_u_n (by first | with_reducible assumption | omega)])) (by first | rfl | with_reducible assumption) ?_
      refine o_getf hC (fX7_53 hC rfl) dX7_source_17 (by repeat (first | with_reducible assumption | (rw [rl_u_s]; done) | (rw [rl_u_s]; rfl) | rw [rl_u_n (by first | with_reducible assumption | omega)])) (by first | rfl | with_reducible assumption) ?_
      refine o_iconst (v := nI 4) hC dX7_source_20 (by decide +kernel) ?_
      refine o_icmp_lt (tgt := 29) hC dX7_source_21 (by decide) (fun c_21 => ?_) (fun c_21 => ?_)
      · have h4 : s.2.2.2.1 < 4 := by
          rcases Nat.lt_or_ge s.2.2.2.1 4 with z | z
          · exact z
          · exact absurd c_21 (nI_nlt z (by omega))
        refine o_aload_n hC dX7_source_29 (by rfl) ?_
        refine o_getf hC (fX7_10 hC rfl) dX7_source_30 (by repeat (first | with_reducible assumption | (rw [rl_u_s]; done) | (rw [rl_u_s]; rfl) | rw [rl_u_n (by first | with_reducible assumption | omega)])) (by first | rfl | with_reducible assumption) ?_
        refine o_iload_n hC dX7_source_33 (by rfl) ?_
        refine o_callV1 hC rl_BW_good rl_Ns_nw (by exact hB.2.2.2.2.2) YX3_addSource IX3_addSource VX3_addSource (mX7_56 hC) (by rw [hB.1]; exact ct_X3_addSource l D ids H0 _ _ (x + 1) _ _ _ _ _ _ c2 h4) (by exact c2.1) rfl rfl (Nat.le_of_ble_eq_true rfl) (by rw [hB.2.1]; first | exact Nat.le_of_ble_eq_true rfl | (dsimp only; omega)) (by rw [hB.2.1]; first | exact Nat.le_of_ble_eq_true rfl | (dsimp only; omega)) (by rw [hB.2.1]; first | exact Nat.le_of_ble_eq_true rfl | (dsimp only; omega)) (by rw [hB.2.1]; first | exact Nat.le_of_ble_eq_true rfl | (dsimp only; omega)) dX7_source_34 (fun v h_34 n_34 p_34 => ?_)
        obtain ⟨rfl, rfl, p1, p2⟩ := p_34
        try dsimp only [Option.toList, List.cons_append, List.nil_append]
        refine o_iret hC hB dX7_source_37 (Nat.le_of_ble_eq_true rfl) (Nat.le_of_ble_eq_true rfl) ?_
        first
        | exact ⟨_, rfl, rfl, Or.inl ⟨Or.inl c_2, rfl, rfl⟩⟩
        | exact ⟨_, rfl, rfl, Or.inl ⟨Or.inr c_7, rfl, rfl⟩⟩
        | exact ⟨_, rfl, rfl, Or.inr (Or.inr ⟨fun z => z.elim c_2 (fun z => z c_7), h4, rfl, hc.so (s' := (upd s.1 s.2.2.2.1 q, s.2.1, s.2.2.1, s.2.2.2.1 + 1, s.2.2.2.2)) p1 (p2.wd (by omega) (by omega)), p2.wd (by omega) (by omega)⟩)⟩
        | exact ⟨_, rfl, rfl, Or.inr (Or.inl ⟨fun z => z.elim c_2 (fun z => z c_7), (by rcases Nat.lt_or_ge s.2.2.2.1 4 with z | z; exact absurd (nI_lt z (by decide)) c_21; exact z), rfl, rfl⟩)⟩
      · refine o_bipush (v := (-4 : Int32)) hC dX7_source_24 (by decide +kernel) ?_
        refine o_goto (tgt := 37) hC dX7_source_26 (by decide) ?_
        refine o_iret hC hB dX7_source_37 (Nat.le_of_ble_eq_true rfl) (Nat.le_of_ble_eq_true rfl) ?_
        first
        | exact ⟨_, rfl, rfl, Or.inl ⟨Or.inl c_2, rfl, rfl⟩⟩
        | exact ⟨_, rfl, rfl, Or.inl ⟨Or.inr c_7, rfl, rfl⟩⟩
        | exact ⟨_, rfl, rfl, Or.inr (Or.inr ⟨fun z => z.elim c_2 (fun z => z c_7), h4, rfl, hc.so (s' := (upd s.1 s.2.2.2.1 q, s.2.1, s.2.2.1, s.2.2.2.1 + 1, s.2.2.2.2)) p1 (p2.wd (by omega) (by omega)), p2.wd (by omega) (by omega)⟩)⟩
        | exact ⟨_, rfl, rfl, Or.inr (Or.inl ⟨fun z => z.elim c_2 (fun z => z c_7), (by rcases Nat.lt_or_ge s.2.2.2.1 4 with z | z; exact absurd (nI_lt z (by decide)) c_21; exact z), rfl, rfl⟩)⟩
    · refine o_bipush (v := (-2 : Int32)) hC dX7_source_10 (by decide +kernel) ?_
      refine o_iret hC hB dX7_source_12 (Nat.le_of_ble_eq_true rfl) (Nat.le_of_ble_eq_true rfl) ?_
      first
      | exact ⟨_, rfl, rfl, Or.inl ⟨Or.inl c_2, rfl, rfl⟩⟩
      | exact ⟨_, rfl, rfl, Or.inl ⟨Or.inr c_7, rfl, rfl⟩⟩
      | exact ⟨_, rfl, rfl, Or.inr (Or.inr ⟨fun z => z.elim c_2 (fun z => z c_7), h4, rfl, hc.so (s' := (upd s.1 s.2.2.2.1 q, s.2.1, s.2.2.1, s.2.2.2.1 + 1, s.2.2.2.2)) p1 (p2.wd (by omega) (by omega)), p2.wd (by omega) (by omega)⟩)⟩
      | exact ⟨_, rfl, rfl, Or.inr (Or.inl ⟨fun z => z.elim c_2 (fun z => z c_7), (by rcases Nat.lt_or_ge s.2.2.2.1 4 with z | z; exact absurd (nI_lt z (by decide)) c_21; exact z), rfl, rfl⟩)⟩

set_option maxHeartbeats 4000000 in
set_option maxRecDepth 100000 in
theorem cg_X7_columns (l : Launch) (D : va_G) (ids : Nat → ClassId) (H0 : Heap) (h : rl_H) (n : Nat) (x : Nat) (s : cl_S) (c : cl_N) (q : Int32) (hc : cl_at ids h x s c) : rl_Met l (rl_e D ids H0) rl_BW rl_Ns yX7_columns cX7_columns 2 (some .int) ({ frames := 1, cells := 0, slots := 0, locals := 21 }) [.ref x, .int q] h n (fun v h' n' => ∃ z : Int32, v = some (.int z) ∧ h' = h ∧ n' = n ∧ ((z = -1 ∧ ¬ (∃ j : Nat, j < c.2.2.1 ∧ q = nI j)) ∨ ∃ j : Nat, j < c.2.2.1 ∧ q = nI j ∧ z = c.2.2.2.1 j 1)) := by
  obtain ⟨c1, c2, c3, ⟨pn, c4, c5⟩, ⟨pt, c6, c7⟩, c8, c9, c10, c11, c12, c13, c14, c15⟩ := id hc
  refine rl_Met.of (by decide +kernel) (Nat.le_of_ble_eq_true rfl) ?_
  intro X hC hB
  show rl_G X (rl_e D ids H0) 0 [some (.ref x), some (.int q)] [] h n 0 0
  refine o_aload_n hC dX7_columns_0 (by rfl) ?_
  refine o_iload_n hC dX7_columns_1 (by rfl) ?_
  refine o_callV1 hC rl_BW_good rl_Ns_nw (by exact hB.2.2.2.2.2) YX7_isNode IX7_isNode VX7_isNode (mX7_100 hC) (by rw [hB.1]; exact cg_X7_isNode l D ids H0 _ _ x s c _ hc) (by exact c1) rfl rfl (Nat.le_of_ble_eq_true rfl) (by rw [hB.2.1]; first | exact Nat.le_of_ble_eq_true rfl | (dsimp only; omega)) (by rw [hB.2.1]; first | exact Nat.le_of_ble_eq_true rfl | (dsimp only; omega)) (by rw [hB.2.1]; first | exact Nat.le_of_ble_eq_true rfl | (dsimp only; omega)) (by rw [hB.2.1]; first | exact Nat.le_of_ble_eq_true rfl | (dsimp only; omega)) dX7_columns_2 (fun v h_2 n_2 p_2 => ?_)
  obtain ⟨z, rfl, rfl, rfl, hz⟩ := p_2
  try dsimp only [Option.toList, List.cons_append, List.nil_append]
  refine o_if_eq (tgt := 20) hC dX7_columns_5 (by decide) (fun c_5 => ?_) (fun c_5 => ?_)
  · refine o_iconst (v := (-1 : Int32)) hC dX7_columns_20 (by decide +kernel) ?_
    refine o_iret hC hB dX7_columns_21 (Nat.le_of_ble_eq_true rfl) (Nat.le_of_ble_eq_true rfl) ?_
    first
    | exact ⟨_, rfl, rfl, rfl, Or.inr ⟨j, hj, rfl, rfl⟩⟩
    | exact ⟨_, rfl, rfl, rfl, Or.inl ⟨rfl, hz.elim (fun q => q.2) (fun q => absurd (c_5.symm.trans q.1) (by decide +kernel))⟩⟩
  · obtain ⟨j, hj, rfl⟩ : (∃ j : Nat, j < c.2.2.1 ∧ q = nI j) := hz.elim (fun q => absurd q.1 c_5) (fun q => q.2)
    have m1 := c12 j (by omega)
    unfold cl_nd at m1
    refine o_aload_n hC dX7_columns_8 (by rfl) ?_
    refine o_getf hC (fX7_25 hC rfl) dX7_columns_9 (by repeat (first | with_reducible assumption | (rw [rl_u_s]; done) | (rw [rl_u_s]; rfl) | rw [rl_u_n (by first | with_reducible assumption | omega)])) (by first | rfl | with_reducible assumption) ?_
    refine o_iload_n hC dX7_columns_12 (by rfl) ?_
    refine o_aaldN (t0 := 5) (k := j) hC rfl dX7_columns_13 c4 (by omega) (by decide) ?_
    rw [c5 j (by omega), if_pos (by omega)]
    show rl_G X _ _ _ (.ref _ :: _) _ _ _ _
    refine o_getf hC (fX7_97 hC rfl) dX7_columns_14 (by repeat (first | with_reducible assumption | (rw [rl_u_s]; done) | (rw [rl_u_s]; rfl) | rw [rl_u_n (by first | with_reducible assumption | omega)])) (by first | rfl | with_reducible assumption) ?_
    refine o_goto (tgt := 21) hC dX7_columns_17 (by decide) ?_
    refine o_iret hC hB dX7_columns_21 (Nat.le_of_ble_eq_true rfl) (Nat.le_of_ble_eq_true rfl) ?_
    first
    | exact ⟨_, rfl, rfl, rfl, Or.inr ⟨j, hj, rfl, rfl⟩⟩
    | exact ⟨_, rfl, rfl, rfl, Or.inl ⟨rfl, hz.elim (fun q => q.2) (fun q => absurd (c_5.symm.trans q.1) (by decide +kernel))⟩⟩
