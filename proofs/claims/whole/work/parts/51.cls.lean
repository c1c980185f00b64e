/-! RowLineage in every state: at x; made Nodes at na k, each with its Table behind it -/
abbrev cl_S : Type := (Nat → Int32) × (Nat → Int32) × (Nat → Nat → Int32) × Nat × Nat
/-- na, made ones, nodeCount, the Nodes' numbers, result, present -/
abbrev cl_N : Type := (Nat → Nat) × Nat × Nat × (Nat → Nat → Int32) × Int32 × Int64
def cl_nd (N : Nat → Nat → Int32) (k : Nat) : va_E := .inr (1, [.int (N k 0), .int (N k 1), .int (N k 2), .int (N k 3), .int (N k 4), .int (N k 5), .int (N k 6), .int (N k 7), .int (N k 8)])
/-- the shape alone -/
def cl_at (ids : Nat → ClassId) (h : rl_H) (x : Nat) (s : cl_S) (c : cl_N) : Prop :=
  h x = some (.inr (7, [.ref (x + 1), .ref (x + 41), .ref (x + 63), .ref (x + 64), .ref (x + 65), .ref (x + 67), .int (nI c.2.2.1), .int c.2.2.2.2.1, .long c.2.2.2.2.2])) ∧ so_at ids h (x + 1) s.1 s.2.1 s.2.2.1 s.2.2.2.1 s.2.2.2.2 ∧ (∃ gp : Nat → Option Nat, op_sh ids h (x + 41) (x + 1) gp) ∧
  (∃ p : Nat → Option Nat, h (x + 63) = some (.inl (ids 5, 16, .inr (.inr (.inr (.inr p))))) ∧ ∀ k, k < 16 → p k = if k < c.2.1 then some (c.1 k) else none) ∧
  (∃ p : Nat → Option Nat, h (x + 64) = some (.inl (ids 6, 16, .inr (.inr (.inr (.inr p))))) ∧ ∀ k, k < 16 → p k = if k < c.2.1 then some (c.1 k + 1) else none) ∧
  h (x + 65) = some (.inr (4, [.ref (x + 66), .int (nI 0), .int (nI 0)])) ∧ ws_ok ids h (x + 67) ∧ c.2.2.1 ≤ c.2.1 ∧ c.2.1 ≤ 16 ∧
  (∀ k, k < c.2.1 → h (c.1 k) = some (cl_nd c.2.2.2.1 k)) ∧ (∀ k, k < c.2.1 → ∃ wd, tb_ok ids h (c.1 k + 1) wd) ∧ (∀ k, k < c.2.1 → x + 70 ≤ c.1 k) ∧ (∀ i j, i < j → j < c.2.1 → c.1 i + 403 ≤ c.1 j)
theorem nI_inj2 {a b : Nat} (ha : a < 2147483648) (hb : b < 2147483648) (h : nI a = nI b) : a = b := by
  rcases Nat.lt_trichotomy a b with q | q | q
  · exact absurd (by rw [h]; exact Int32.le_refl _) (nI_ge q hb)
  · exact q
  · exact absurd (by rw [h]; exact Int32.le_refl _) (nI_ge q ha)
theorem nI_of_lt {q : Int32} {k : Nat} (hk : k < 2147483648) (h1 : ¬ q < 0) (h2 : ¬ nI k ≤ q) : ∃ j : Nat, j < k ∧ q = nI j := by
  obtain ⟨j, hj, rfl⟩ := nI_of2 (M := nI k) (nI_toInt hk) h1 (Int32.le_of_lt (Int32.not_le.mp h2))
  refine ⟨j, ?_, rfl⟩
  rcases Nat.lt_or_ge j k with z | z
  · exact z
  · exact absurd (nI_le z (by omega)) h2

set_option maxHeartbeats 4000000 in
set_option maxRecDepth 100000 in
theorem cg_X7_isNode (l : Launch) (D : va_G) (ids : Nat → ClassId) (H0 : Heap) (h : rl_H) (n : Nat) (x : Nat) (s : cl_S) (c : cl_N) (q : Int32) (hc : cl_at ids h x s c) : rl_Met l (rl_e D ids H0) rl_BW rl_Ns yX7_isNode cX7_isNode 2 (some .boolean) ({ frames := 0, cells := 0, slots := 0, locals := 0 }) [.ref x, .int q] h n (fun v h' n' => ∃ z : Int32, v = some (.int z) ∧ h' = h ∧ n' = n ∧ ((z = nI 0 ∧ ¬ (∃ j : Nat, j < c.2.2.1 ∧ q = nI j)) ∨ (z = nI 1 ∧ (∃ j : Nat, j < c.2.2.1 ∧ q = nI j)))) := by
  obtain ⟨c1, c2, c3, ⟨pn, c4, c5⟩, ⟨pt, c6, c7⟩, c8, c9, c10, c11, c12, c13, c14, c15⟩ := id hc
  refine rl_Met.of (by decide +kernel) (Nat.le_of_ble_eq_true rfl) ?_
  intro X hC hB
  show rl_G X (rl_e D ids H0) 0 [some (.ref x), some (.int q)] [] h n 0 0
  refine o_iload_n hC dX7_isNode_0 (by rfl) ?_
  refine o_if_lt (tgt := 16) hC dX7_isNode_1 (by decide) (fun c_1 => ?_) (fun c_1 => ?_)
  · refine o_iconst (v := nI 0) hC dX7_isNode_16 (by decide +kernel) ?_
    refine o_zret hC hB dX7_isNode_17 (by first | rfl | decide +kernel) (Nat.le_of_ble_eq_true rfl) (Nat.le_of_ble_eq_true rfl) ?_
    first
    | exact ⟨_, rfl, rfl, rfl, Or.inr ⟨rfl, nI_of_lt (by omega) c_1 c_9⟩⟩
    | exact ⟨_, rfl, rfl, rfl, Or.inl ⟨rfl, fun ⟨j, hj, e⟩ => absurd c_1 (by rw [e]; exact nI_pos (by omega))⟩⟩
    | exact ⟨_, rfl, rfl, rfl, Or.inl ⟨rfl, fun ⟨j, hj, e⟩ => absurd c_9 (by rw [e]; exact nI_ge hj (by omega))⟩⟩
  · refine o_iload_n hC dX7_isNode_4 (by rfl) ?_
    refine o_aload_n hC dX7_isNode_5 (by rfl) ?_
    refine o_getf hC (fX7_78 hC rfl) dX7_isNode_6 (by repeat (first | with_reducible assumption | (rw [rl_u_s]; done) | (rw [rl_u_s]; rfl) | rw [rl_u_n (by first | with_reducible assumption | omega)])) (by first | rfl | with_reducible assumption) ?_
    refine o_icmp_ge (tgt := 16) hC dX7_isNode_9 (by decide) (fun c_9 => ?_) (fun c_9 => ?_)
    · refine o_iconst (v := nI 0) hC dX7_isNode_16 (by decide +kernel) ?_
      refine o_zret hC hB dX7_isNode_17 (by first | rfl | decide +kernel) (Nat.le_of_ble_eq_true rfl) (Nat.le_of_ble_eq_true rfl) ?_
      first
      | exact ⟨_, rfl, rfl, rfl, Or.inr ⟨rfl, nI_of_lt (by omega) c_1 c_9⟩⟩
      | exact ⟨_, rfl, rfl, rfl, Or.inl ⟨rfl, fun ⟨j, hj, e⟩ => absurd c_1 (by rw [e]; exact nI_pos (by omega))⟩⟩
      | exact ⟨_, rfl, rfl, rfl, Or.inl ⟨rfl, fun ⟨j, hj, e⟩ => absurd c_9 (by rw [e]; exact nI_ge hj (by omega))⟩⟩
    · refine o_iconst (v := nI 1) hC dX7_isNode_12 (by decide +kernel) ?_
      refine o_goto (tgt := 17) hC dX7_isNode_13 (by decide) ?_
      refine o_zret hC hB dX7_isNode_17 (by first | rfl | decide +kernel) (Nat.le_of_ble_eq_true rfl) (Nat.le_of_ble_eq_true rfl) ?_
      first
      | exact ⟨_, rfl, rfl, rfl, Or.inr ⟨rfl, nI_of_lt (by omega) c_1 c_9⟩⟩
      | exact ⟨_, rfl, rfl, rfl, Or.inl ⟨rfl, fun ⟨j, hj, e⟩ => absurd c_1 (by rw [e]; exact nI_pos (by omega))⟩⟩
      | exact ⟨_, rfl, rfl, rfl, Or.inl ⟨rfl, fun ⟨j, hj, e⟩ => absurd c_9 (by rw [e]; exact nI_ge hj (by omega))⟩⟩

set_option maxHeartbeats 4000000 in
set_option maxRecDepth 100000 in
theorem cg_X7_tableOf (l : Launch) (D : va_G) (ids : Nat → ClassId) (H0 : Heap) (h : rl_H) (n : Nat) (x : Nat) (s : cl_S) (c : cl_N) (q : Int32) (hc : cl_at ids h x s c) : rl_Met l (rl_e D ids H0) rl_BW rl_Ns yX7_tableOf cX7_tableOf 2 (some (.object "RowLineage$Table")) ({ frames := 1, cells := 0, slots := 0, locals := 21 }) [.ref x, .int q] h n (fun v h' n' => ∃ z : Nat, v = some (.ref z) ∧ h' = h ∧ n' = n ∧ ((z = x + 65 ∧ ¬ (∃ j : Nat, j < c.2.2.1 ∧ q = nI j)) ∨ ∃ j : Nat, j < c.2.2.1 ∧ q = nI j ∧ z = c.1 j + 1)) := by
  obtain ⟨c1, c2, c3, ⟨pn, c4, c5⟩, ⟨pt, c6, c7⟩, c8, c9, c10, c11, c12, c13, c14, c15⟩ := id hc
  refine rl_Met.of (by decide +kernel) (Nat.le_of_ble_eq_true rfl) ?_
  intro X hC hB
  show rl_G X (rl_e D ids H0) 0 [some (.ref x), some (.int q)] [] h n 0 0
  refine o_aload_n hC dX7_tableOf_0 (by rfl) ?_
  refine o_iload_n hC dX7_tableOf_1 (by rfl) ?_
  refine o_callV1 hC rl_BW_good rl_Ns_nw (by exact hB.2.2.2.2.2) YX7_isNode IX7_isNode VX7_isNode (mX7_100 hC) (by rw [hB.1]; exact cg_X7_isNode l D ids H0 _ _ x s c _ hc) (by exact c1) rfl rfl (Nat.le_of_ble_eq_true rfl) (by rw [hB.2.1]; first | exact Nat.le_of_ble_eq_true rfl | (dsimp only; omega)) (by rw [hB.2.1]; first | exact Nat.le_of_ble_eq_true rfl | (dsimp only; omega)) (by rw [hB.2.1]; first | exact Nat.le_of_ble_eq_true rfl | (dsimp only; omega)) (by rw [hB.2.1]; first | exact Nat.le_of_ble_eq_true rfl | (dsimp only; omega)) dX7_tableOf_2 (fun v h_2 n_2 p_2 => ?_)
  obtain ⟨z, rfl, rfl, rfl, hz⟩ := p_2
  try dsimp only [Option.toList, List.cons_append, List.nil_append]
  refine o_if_eq (tgt := 17) hC dX7_tableOf_5 (by decide) (fun c_5 => ?_) (fun c_5 => ?_)
  · refine o_aload_n hC dX7_tableOf_17 (by rfl) ?_
    refine o_getf hC (fX7_38 hC rfl) dX7_tableOf_18 (by repeat (first | with_reducible assumption | (rw [rl_u_s]; done) | (rw [rl_u_s]; rfl) | rw [rl_u_n (by first | with_reducible assumption | omega)])) (by first | rfl | with_reducible assumption) ?_
    refine o_aret hC hB (by first | exact Or.inl ⟨_, rfl⟩ | exact Or.inr ⟨_, rfl⟩) (by first | exact Or.inl rfl | exact Or.inr ⟨_, rfl⟩) dX7_tableOf_21 (Nat.le_of_ble_eq_true rfl) (Nat.le_of_ble_eq_true rfl) ?_
    first
    | exact ⟨_, rfl, rfl, rfl, Or.inr ⟨j, hj, rfl, rfl⟩⟩
    | exact ⟨_, rfl, rfl, rfl, Or.inl ⟨rfl, hz.elim (fun q => q.2) (fun q => absurd (c_5.symm.trans q.1) (by decide +kernel))⟩⟩
  · obtain ⟨j, hj, rfl⟩ : (∃ j : Nat, j < c.2.2.1 ∧ q = nI j) := hz.elim (fun q => absurd q.1 c_5) (fun q => q.2)
    refine o_aload_n hC dX7_tableOf_8 (by rfl) ?_
    refine o_getf hC (fX7_31 hC rfl) dX7_tableOf_9 (by repeat (first | with_reducible assumption | (rw [rl_u_s]; done) | (rw [rl_u_s]; rfl) | rw [rl_u_n (by first | with_reducible assumption | omega)])) (by first | rfl | with_reducible assumption) ?_
    refine o_iload_n hC dX7_tableOf_12 (by rfl) ?_
    refine o_aaldN (t0 := 6) (k := j) hC rfl dX7_tableOf_13 c6 (by omega) (by decide) ?_
    rw [c7 j (by omega), if_pos (by omega)]
    show rl_G X _ _ _ (.ref _ :: _) _ _ _ _
    refine o_goto (tgt := 21) hC dX7_tableOf_14 (by decide) ?_
    refine o_aret hC hB (by first | exact Or.inl ⟨_, rfl⟩ | exact Or.inr ⟨_, rfl⟩) (by first | exact Or.inl rfl | exact Or.inr ⟨_, rfl⟩) dX7_tableOf_21 (Nat.le_of_ble_eq_true rfl) (Nat.le_of_ble_eq_true rfl) ?_
    first
    | exact ⟨_, rfl, rfl, rfl, Or.inr ⟨j, hj, rfl, rfl⟩⟩
    | exact ⟨_, rfl, rfl, rfl, Or.inl ⟨rfl, hz.elim (fun q => q.2) (fun q => absurd (c_5.symm.trans q.1) (by decide +kernel))⟩⟩

set_option maxHeartbeats 4000000 in
set_option maxRecDepth 100000 in
theorem cg_X7_bitOfNode (l : Launch) (D : va_G) (ids : Nat → ClassId) (H0 : Heap) (h : rl_H) (n : Nat) (x : Nat) (s : cl_S) (c : cl_N) (q : Int32) (hc : cl_at ids h x s c) : rl_Met l (rl_e D ids H0) rl_BW rl_Ns yX7_bitOfNode cX7_bitOfNode 2 (some .long) ({ frames := 1, cells := 0, slots := 0, locals := 21 }) [.ref x, .int q] h n (fun v h' n' => ∃ z : Int64, v = some (.long z) ∧ h' = h ∧ n' = n) := by
  obtain ⟨c1, c2, c3, ⟨pn, c4, c5⟩, ⟨pt, c6, c7⟩, c8, c9, c10, c11, c12, c13, c14, c15⟩ := id hc
  refine rl_Met.of (by decide +kernel) (Nat.le_of_ble_eq_true rfl) ?_
  intro X hC hB
  show rl_G X (rl_e D ids H0) 0 [some (.ref x), some (.int q)] [] h n 0 0
  refine o_aload_n hC dX7_bitOfNode_0 (by rfl) ?_
  refine o_iload_n hC dX7_bitOfNode_1 (by rfl) ?_
  refine o_callV1 hC rl_BW_good rl_Ns_nw (by exact hB.2.2.2.2.2) YX7_isNode IX7_isNode VX7_isNode (mX7_100 hC) (by rw [hB.1]; exact cg_X7_isNode l D ids H0 _ _ x s c _ hc) (by exact c1) rfl rfl (Nat.le_of_ble_eq_true rfl) (by rw [hB.2.1]; first | exact Nat.le_of_ble_eq_true rfl | (dsimp only; omega)) (by rw [hB.2.1]; first | exact Nat.le_of_ble_eq_true rfl | (dsimp only; omega)) (by rw [hB.2.1]; first | exact Nat.le_of_ble_eq_true rfl | (dsimp only; omega)) (by rw [hB.2.1]; first | exact Nat.le_of_ble_eq_true rfl | (dsimp only; omega)) dX7_bitOfNode_2 (fun v h_2 n_2 p_2 => ?_)
  obtain ⟨z, rfl, rfl, rfl, hz⟩ := p_2
  try dsimp only [Option.toList, List.cons_append, List.nil_append]
  refine o_if_eq (tgt := 14) hC dX7_bitOfNode_5 (by decide) (fun c_5 => ?_) (fun c_5 => ?_)
  · refine o_lconst (v := 0) hC dX7_bitOfNode_14 (by decide +kernel) ?_
    refine o_lret hC hB dX7_bitOfNode_15 (Nat.le_of_ble_eq_true rfl) (Nat.le_of_ble_eq_true rfl) ?_
    exact ⟨_, rfl, rfl, rfl⟩
  · refine o_lconst (v := 1) hC dX7_bitOfNode_8 (by decide +kernel) ?_
    refine o_iload_n hC dX7_bitOfNode_9 (by rfl) ?_
    refine o_lshl hC dX7_bitOfNode_10 ?_
    refine o_goto (tgt := 15) hC dX7_bitOfNode_11 (by decide) ?_
    refine o_lret hC hB dX7_bitOfNode_15 (Nat.le_of_ble_eq_true rfl) (Nat.le_of_ble_eq_true rfl) ?_
    exact ⟨_, rfl, rfl, rfl⟩

set_option maxHeartbeats 4000000 in
set_option maxRecDepth 100000 in
theorem cg_X7_hasColumn (l : Launch) (D : va_G) (ids : Nat → ClassId) (H0 : Heap) (h : rl_H) (n : Nat) (x : Nat) (s : cl_S) (c : cl_N) (q k : Int32) (hc : cl_at ids h x s c) : rl_Met l (rl_e D ids H0) rl_BW rl_Ns yX7_hasColumn cX7_hasColumn 3 (some .boolean) ({ frames := 1, cells := 0, slots := 0, locals := 21 }) [.ref x, .int q, .int k] h n (fun v h' n' => ∃ z : Int32, v = some (.int z) ∧ h' = h ∧ n' = n ∧ ((z = nI 0 ∧ ¬ (∃ j : Nat, j < c.2.2.1 ∧ q = nI j ∧ ¬ k < 0 ∧ ¬ c.2.2.2.1 j 1 ≤ k)) ∨ (z = nI 1 ∧ (∃ j : Nat, j < c.2.2.1 ∧ q = nI j ∧ ¬ k < 0 ∧ ¬ c.2.2.2.1 j 1 ≤ k)))) := by
  obtain ⟨c1, c2, c3, ⟨pn, c4, c5⟩, ⟨pt, c6, c7⟩, c8, c9, c10, c11, c12, c13, c14, c15⟩ := id hc
  refine rl_Met.of (by decide +kernel) (Nat.le_of_ble_eq_true rfl) ?_
  intro X hC hB
  show rl_G X (rl_e D ids H0) 0 [some (.ref x), some (.int q), some (.int k)] [] h n 0 0
  refine o_aload_n hC dX7_hasColumn_0 (by rfl) ?_
  refine o_iload_n hC dX7_hasColumn_1 (by rfl) ?_
  refine o_callV1 hC rl_BW_good rl_Ns_nw (by exact hB.2.2.2.2.2) YX7_isNode IX7_isNode VX7_isNode (mX7_100 hC) (by rw [hB.1]; exact cg_X7_isNode l D ids H0 _ _ x s c _ hc) (by exact c1) rfl rfl (Nat.le_of_ble_eq_true rfl) (by rw [hB.2.1]; first | exact Nat.le_of_ble_eq_true rfl | (dsimp only; omega)) (by rw [hB.2.1]; first | exact Nat.le_of_ble_eq_true rfl | (dsimp only; omega)) (by rw [hB.2.1]; first | exact Nat.le_of_ble_eq_true rfl | (dsimp only; omega)) (by rw [hB.2.1]; first | exact Nat.le_of_ble_eq_true rfl | (dsimp only; omega)) dX7_hasColumn_2 (fun v h_2 n_2 p_2 => ?_)
  obtain ⟨z, rfl, rfl, rfl, hz⟩ := p_2
  try dsimp only [Option.toList, List.cons_append, List.nil_append]
  refine o_if_eq (tgt := 29) hC dX7_hasColumn_5 (by decide) (fun c_5 => ?_) (fun c_5 => ?_)
  · refine o_iconst (v := nI 0) hC dX7_hasColumn_29 (by decide +kernel) ?_
    refine o_zret hC hB dX7_hasColumn_30 (by first | rfl | decide +kernel) (Nat.le_of_ble_eq_true rfl) (Nat.le_of_ble_eq_true rfl) ?_
    first
    | exact ⟨_, rfl, rfl, rfl, Or.inr ⟨rfl, j, hj, rfl, c_9, c_22⟩⟩
    | exact ⟨_, rfl, rfl, rfl, Or.inl ⟨rfl, fun ⟨j2, hj2, e, e2, e3⟩ => absurd c_9 e2⟩⟩
    | exact ⟨_, rfl, rfl, rfl, Or.inl ⟨rfl, fun ⟨j2, hj2, e, e2, e3⟩ => absurd c_22 (by rw [nI_inj2 (by omega) (by omega) e]; exact e3)⟩⟩
    | exact ⟨_, rfl, rfl, rfl, Or.inl ⟨rfl, fun ⟨j2, hj2, e, e2, e3⟩ => hz.elim (fun q => q.2 ⟨j2, hj2, e⟩) (fun q => absurd (c_5.symm.trans q.1) (by decide +kernel))⟩⟩
  · obtain ⟨j, hj, rfl⟩ : (∃ j : Nat, j < c.2.2.1 ∧ q = nI j) := hz.elim (fun q => absurd q.1 c_5) (fun q => q.2)
    have m1 := c12 j (by omega)
    unfold cl_nd at m1
    refine o_iload_n hC dX7_hasColumn_8 (by rfl) ?_
    refine o_if_lt (tgt := 29) hC dX7_hasColumn_9 (by decide) (fun c_9 => ?_) (fun c_9 => ?_)
    · refine o_iconst (v := nI 0) hC dX7_hasColumn_29 (by decide +kernel) ?_
      refine o_zret hC hB dX7_hasColumn_30 (by first | rfl | decide +kernel) (Nat.le_of_ble_eq_true rfl) (Nat.le_of_ble_eq_true rfl) ?_
      first
      | exact ⟨_, rfl, rfl, rfl, Or.inr ⟨rfl, j, hj, rfl, c_9, c_22⟩⟩
      | exact ⟨_, rfl, rfl, rfl, Or.inl ⟨rfl, fun ⟨j2, hj2, e, e2, e3⟩ => absurd c_9 e2⟩⟩
      | exact ⟨_, rfl, rfl, rfl, Or.inl ⟨rfl, fun ⟨j2, hj2, e, e2, e3⟩ => absurd c_22 (by rw [nI_inj2 (by omega) (by omega) e]; exact e3)⟩⟩
      | exact ⟨_, rfl, rfl, rfl, Or.inl ⟨rfl, fun ⟨j2, hj2, e, e2, e3⟩ => hz.elim (fun q => q.2 ⟨j2, hj2, e⟩) (fun q => absurd (c_5.symm.trans q.1) (by decide +kernel))⟩⟩
    · refine o_iload_n hC dX7_hasColumn_12 (by rfl) ?_
      refine o_aload_n hC dX7_hasColumn_13 (by rfl) ?_
      refine o_getf hC (fX7_25 hC rfl) dX7_hasColumn_14 (by repeat (first | with_reducible assumption | (rw [rl_u_s]; done) | (rw [rl_u_s]; rfl) | rw [rl_u_n (by first | with_reducible assumption | omega)])) (by first | rfl | with_reducible assumption) ?_
      refine o_iload_n hC dX7_hasColumn_17 (by rfl) ?_
      refine o_aaldN (t0 := 5) (k := j) hC rfl dX7_hasColumn_18 c4 (by omega) (by decide) ?_
      rw [c5 j (by omega), if_pos (by omega)]
      show rl_G X _ _ _ (.ref _ :: _) _ _ _ _
      refine o_getf hC (fX7_97 hC rfl) dX7_hasColumn_19 (by repeat (first | with_reducible assumption | (rw [rl_u_s]; done) | (rw [rl_u_s]; rfl) | rw [rl_u_n (by first | with_reducible assumption | omega)])) (by first | rfl | with_reducible assumption) ?_
      refine o_icmp_ge (tgt := 29) hC dX7_hasColumn_22 (by decide) (fun c_22 => ?_) (fun c_22 => ?_)
      · refine o_iconst (v := nI 0) hC dX7_hasColumn_29 (by decide +kernel) ?_
        refine o_zret hC hB dX7_hasColumn_30 (by first | rfl | decide +kernel) (Nat.le_of_ble_eq_true rfl) (Nat.le_of_ble_eq_true rfl) ?_
        first
        | exact ⟨_, rfl, rfl, rfl, Or.inr ⟨rfl, j, hj, rfl, c_9, c_22⟩⟩
        | exact ⟨_, rfl, rfl, rfl, Or.inl ⟨rfl, fun ⟨j2, hj2, e, e2, e3⟩ => absurd c_9 e2⟩⟩
        | exact ⟨_, rfl, rfl, rfl, Or.inl ⟨rfl, fun ⟨j2, hj2, e, e2, e3⟩ => absurd c_22 (by rw [nI_inj2 (by omega) (by omega) e]; exact e3)⟩⟩
        | exact ⟨_, rfl, rfl, rfl, Or.inl ⟨rfl, fun ⟨j2, hj2, e, e2, e3⟩ => hz.elim (fun q => q.2 ⟨j2, hj2, e⟩) (fun q => absurd (c_5.symm.trans q.1) (by decide +kernel))⟩⟩
      · refine o_iconst (v := nI 1) hC dX7_hasColumn_25 (by decide +kernel) ?_
        refine o_goto (tgt := 30) hC dX7_hasColumn_26 (by decide) ?_
        refine o_zret hC hB dX7_hasColumn_30 (by first | rfl | decide +kernel) (Nat.le_of_ble_eq_true rfl) (Nat.le_of_ble_eq_true rfl) ?_
        first
        | exact ⟨_, rfl, rfl, rfl, Or.inr ⟨rfl, j, hj, rfl, c_9, c_22⟩⟩
        | exact ⟨_, rfl, rfl, rfl, Or.inl ⟨rfl, fun ⟨j2, hj2, e, e2, e3⟩ => absurd c_9 e2⟩⟩
        | exact ⟨_, rfl, rfl, rfl, Or.inl ⟨rfl, fun ⟨j2, hj2, e, e2, e3⟩ => absurd c_22 (by rw [nI_inj2 (by omega) (by omega) e]; exact e3)⟩⟩
        | exact ⟨_, rfl, rfl, rfl, Or.inl ⟨rfl, fun ⟨j2, hj2, e, e2, e3⟩ => hz.elim (fun q => q.2 ⟨j2, hj2, e⟩) (fun q => absurd (c_5.symm.trans q.1) (by decide +kernel))⟩⟩
