/-! RowLineage in every state: clear -/
/-- nodeCount, result and present are others -/
theorem cl_at.nc {ids : Nat → ClassId} {h : rl_H} {x : Nat} {s : cl_S} {c : cl_N} (H : cl_at ids h x s c) (nc : Nat) (hnc : nc ≤ c.2.1) (rs : Int32) (pr : Int64) : cl_at ids (rl_u h x (.inr (7, [.ref (x + 1), .ref (x + 41), .ref (x + 63), .ref (x + 64), .ref (x + 65), .ref (x + 67), .int (nI nc), .int rs, .long pr]))) x s (c.1, c.2.1, nc, c.2.2.2.1, rs, pr) := by
  obtain ⟨c1, c2, ⟨gp, c3⟩, ⟨pn, c4, c5⟩, ⟨pt, c6, c7⟩, c8, c9, c10, c11, c12, c13, c14, c15⟩ := H
  refine ⟨rl_u_s, c2.eqv (fun q a b => rl_u_n (by omega)), ⟨gp, c3.eqv (fun q a b => rl_u_n (by omega))⟩, ⟨pn, (rl_u_n (by omega)).trans c4, c5⟩, ⟨pt, (rl_u_n (by omega)).trans c6, c7⟩, (rl_u_n (by omega)).trans c8, c9.eqv (fun q a b => rl_u_n (by omega)), hnc, c11, fun k hk => (rl_u_n (show c.1 k ≠ x by have := c14 k hk; omega)).trans (c12 k hk), fun k hk => ?_, c14, c15⟩
  obtain ⟨wd, hw⟩ := c13 k hk
  exact ⟨wd, hw.eqv (fun q a b => rl_u_n (by have := c14 k hk; have a : c.1 k + 1 ≤ q := a; omega))⟩

set_option maxHeartbeats 4000000 in
set_option maxRecDepth 100000 in
theorem cg_X7_clear (l : Launch) (D : va_G) (ids : Nat → ClassId) (H0 : Heap) (h : rl_H) (n : Nat) (x : Nat) (s : cl_S) (c : cl_N) (hc : cl_at ids h x s c) : rl_Met l (rl_e D ids H0) rl_BW rl_Ns yX7_clear cX7_clear 1 none ({ frames := 1, cells := 0, slots := 0, locals := 21 }) [.ref x] h n (fun v h' n' => v = none ∧ n' = n ∧ cl_at ids h' x (s.1, s.2.1, s.2.2.1, 0, 0) (c.1, c.2.1, 0, cl_un c.2.2.2.1 c.2.2.1, -1, 0) ∧ ∀ k, (k < x ∨ x + 41 ≤ k) → (∀ i, i < c.2.2.1 → k ≠ c.1 i) → h' k = h k) := by
  obtain ⟨c1, c2, c3, ⟨pn, c4, c5⟩, ⟨pt, c6, c7⟩, c8, c9, c10, c11, c12, c13, c14, c15⟩ := id hc
  obtain ⟨s1, s2, s3, s4, s5, s6, s7⟩ := id c2
  refine rl_Met.of (by decide +kernel) (Nat.le_of_ble_eq_true rfl) ?_
  intro X hC hB
  show rl_G X (rl_e D ids H0) 0 [some (.ref x)] [] h n 0 0
  refine o_aload_n hC dX7_clear_0 (by rfl) ?_
  refine o_getf hC (fX7_10 hC rfl) dX7_clear_1 (by repeat (first | with_reducible assumption | (rw [rl_u_s]; done) | (rw [rl_u_s]; rfl) | rw [rl_u_n (by first | with_reducible assumption | omega)])) (by first | rfl | with_reducible assumption) ?_
  refine o_callV0 hC rl_BW_good rl_Ns_nw (by exact hB.2.2.2.2.2) YX3_forgetAll IX3_forgetAll VX3_forgetAll (mX7_226 hC) (by rw [hB.1]; exact ct_X3_forgetAll l D ids H0 _ _ (x + 1) _ _ _ _ _ c2) (by exact c2.1) rfl rfl (Nat.le_of_ble_eq_true rfl) (by rw [hB.2.1]; first | exact Nat.le_of_ble_eq_true rfl | (dsimp only; omega)) (by rw [hB.2.1]; first | exact Nat.le_of_ble_eq_true rfl | (dsimp only; omega)) (by rw [hB.2.1]; first | exact Nat.le_of_ble_eq_true rfl | (dsimp only; omega)) (by rw [hB.2.1]; first | exact Nat.le_of_ble_eq_true rfl | (dsimp only; omega)) dX7_clear_4 (fun v h_4 n_4 p_4 => ?_)
  obtain ⟨rfl, rfl, p1, p2⟩ := p_4
  have k1 : cl_at ids h_4 x (s.1, s.2.1, s.2.2.1, 0, 0) c := hc.so (s' := (s.1, s.2.1, s.2.2.1, 0, 0)) p1 (p2.wd (by omega) (by omega))
  have k0 := k1.1
  try dsimp only [Option.toList, List.cons_append, List.nil_append]
  refine o_aload_n hC dX7_clear_7 (by rfl) ?_
  refine o_callV0 hC rl_BW_good rl_Ns_nw (by exact hB.2.2.2.2.2) YX7_forgetWhatNodesGave IX7_forgetWhatNodesGave VX7_forgetWhatNodesGave (mX7_75 hC) (by rw [hB.1]; exact cg_X7_forgetWhatNodesGave l D ids H0 _ _ x _ _ k1) (by exact k0) rfl rfl (Nat.le_of_ble_eq_true rfl) (by rw [hB.2.1]; first | exact Nat.le_of_ble_eq_true rfl | (dsimp only; omega)) (by rw [hB.2.1]; first | exact Nat.le_of_ble_eq_true rfl | (dsimp only; omega)) (by rw [hB.2.1]; first | exact Nat.le_of_ble_eq_true rfl | (dsimp only; omega)) (by rw [hB.2.1]; first | exact Nat.le_of_ble_eq_true rfl | (dsimp only; omega)) dX7_clear_8 (fun v h_8 n_8 p_8 => ?_)
  obtain ⟨rfl, rfl, k3, k4⟩ := p_8
  have k5 := k3.1
  try dsimp only [Option.toList, List.cons_append, List.nil_append]
  refine o_aload_n hC dX7_clear_11 (by rfl) ?_
  refine o_iconst (v := nI 0) hC dX7_clear_12 (by decide +kernel) ?_
  refine o_putf hC (fX7_78 hC rfl) (fwX7 rfl rfl rfl (Or.inl rfl)) dX7_clear_13 (by repeat (first | with_reducible assumption | (rw [rl_u_s]; done) | (rw [rl_u_s]; rfl) | rw [rl_u_n (by first | with_reducible assumption | omega)])) (Nat.le_of_ble_eq_true rfl) ?_
  try simp only [List.set_cons_zero, List.set_cons_succ]
  refine o_aload_n hC dX7_clear_16 (by rfl) ?_
  refine o_lconst (v := 0) hC dX7_clear_17 (by decide +kernel) ?_
  refine o_putf hC (fX7_71 hC rfl) (fwX7 rfl rfl rfl (Or.inl rfl)) dX7_clear_18 (by repeat (first | with_reducible assumption | (rw [rl_u_s]; done) | (rw [rl_u_s]; rfl) | rw [rl_u_n (by first | with_reducible assumption | omega)])) (Nat.le_of_ble_eq_true rfl) ?_
  try simp only [List.set_cons_zero, List.set_cons_succ]
  refine o_vret hC hB dX7_clear_21 (Nat.le_of_ble_eq_true rfl) (Nat.le_of_ble_eq_true rfl) ?_
  refine ⟨rfl, rfl, ?_, fun k z1 z2 => by rw [rl_u_n (by omega), rl_u_n (by omega), k4 k z2 (by omega)]; exact p2 k (by omega)⟩
  exact (k3.nc 0 (Nat.zero_le _) (-1) c.2.2.2.2.2).nc 0 (Nat.zero_le _) (-1) 0
