/-! cells that are the same in another heap -/
theorem ws_at.eqv {ids : Nat → ClassId} {h h' : rl_H} {w : Nat} {f g : Nat → Int64} {k : Nat} (H : ws_at ids h w f g k) (he : ∀ q, w ≤ q → q < w + 3 → h' q = h q) : ws_at ids h' w f g k :=
  ⟨by rw [he w (by omega) (by omega)]; exact H.1, by rw [he (w + 1) (by omega) (by omega)]; exact H.2.1, by rw [he (w + 2) (by omega) (by omega)]; exact H.2.2.1, H.2.2.2⟩
theorem dr_at.eqv {ids : Nat → ClassId} {h h' : rl_H} {d : Nat} {s : dr_S} (H : dr_at ids h d s) (he : ∀ q, d ≤ q → q < d + 3 → h' q = h q) : dr_at ids h' d s :=
  ⟨by rw [he d (by omega) (by omega)]; exact H.1, by rw [he (d + 1) (by omega) (by omega)]; exact H.2.1, by rw [he (d + 2) (by omega) (by omega)]; exact H.2.2.1, H.2.2.2⟩
theorem tp_at.eqv {ids : Nat → ClassId} {h h' : rl_H} {t : Nat} {c : Nat → Int32} {f g : Nat → Int64} {k : Nat} (H : tp_at ids h t c f g k) (he : ∀ q, t ≤ q → q < t + 5 → h' q = h q) : tp_at ids h' t c f g k :=
  ⟨by rw [he t (by omega) (by omega)]; exact H.1, by rw [he (t + 1) (by omega) (by omega)]; exact H.2.1, H.2.2.eqv (fun q h1 h2 => he q (by omega) (by omega))⟩
theorem so_at.eqv {ids : Nat → ClassId} {h h' : rl_H} {s : Nat} {wf sf : Nat → Int32} {cf : Nat → Nat → Int32} {sc rc : Nat} (H : so_at ids h s wf sf cf sc rc) (he : ∀ q, s ≤ q → q < s + 40 → h' q = h q) : so_at ids h' s wf sf cf sc rc :=
  ⟨by rw [he s (by omega) (by omega)]; exact H.1, by rw [he (s + 1) (by omega) (by omega)]; exact H.2.1, by rw [he (s + 2) (by omega) (by omega)]; exact H.2.2.1, by rw [he (s + 3) (by omega) (by omega)]; exact H.2.2.2.1, fun r hr => by rw [he (s + 4 + r) (by omega) (by omega)]; exact H.2.2.2.2.1 r hr, H.2.2.2.2.2⟩
theorem op_at.eqv {ids : Nat → ClassId} {h h' : rl_H} {o so : Nat} {dr : dr_S} {f g : Nat → Int64} {k : Nat} {gp : Nat → Option Nat} {kc : Nat → Int32} {F G : Nat → Nat → Int64} {K : Nat → Nat} (H : op_at ids h o so dr f g k gp kc F G K) (he : ∀ q, o ≤ q → q < o + 22 → h' q = h q) : op_at ids h' o so dr f g k gp kc F G K := by
  obtain ⟨h1, h2, h3, ⟨tp, h4, h5⟩, h6, h7, h8⟩ := H
  exact ⟨by rw [he o (by omega) (by omega)]; exact h1, h2.eqv (fun q a b => he q (by omega) (by omega)), h3.eqv (fun q a b => he q (by omega) (by omega)), ⟨tp, by rw [he (o + 7) (by omega) (by omega)]; exact h4, h5⟩, by rw [he (o + 8) (by omega) (by omega)]; exact h6, by rw [he (o + 9) (by omega) (by omega)]; exact h7, fun m hm => (h8 m hm).eqv (fun q a b => he q (by omega) (by omega))⟩
/-- a new RowLineage at x -/
def rw_new (ids : Nat → ClassId) (h : rl_H) (x : Nat) : Prop :=
  h x = some (.inr (7, [.ref (x + 1), .ref (x + 41), .ref (x + 63), .ref (x + 64), .ref (x + 65), .ref (x + 67), .int (nI 0), .int (-1), .long 0])) ∧ so_at ids h (x + 1) (fun _ => 0) (fun _ => 0) (fun _ _ => 0) 0 0 ∧
  op_at ids h (x + 41) (x + 1) (fun _ => 0, fun _ => 0, 0) (fun _ => 0) (fun _ => 0) 0 (fun _ => none) (fun _ => 0) (fun _ _ => 0) (fun _ _ => 0) (fun _ => 0) ∧
  h (x + 63) = some (.inl (ids 5, 16, .inr (.inr (.inr (.inr (fun _ => none)))))) ∧ h (x + 64) = some (.inl (ids 6, 16, .inr (.inr (.inr (.inr (fun _ => none)))))) ∧
  h (x + 65) = some (.inr (4, [.ref (x + 66), .int (nI 0), .int (nI 0)])) ∧ ws_at ids h (x + 67) (fun _ => 0) (fun _ => 0) 0

set_option maxHeartbeats 4000000 in
set_option maxRecDepth 100000 in
theorem ct_X7_init (l : Launch) (D : va_G) (ids : Nat → ClassId) (H0 : Heap) (h : rl_H) (n : Nat) (x : Nat) (h1 : h x = some (.inr (7, [.null, .null, .null, .null, .null, .null, .int (nI 0), .int (nI 0), .long 0]))) (hn : n = x + 1) : rl_Met l (rl_e D ids H0) rl_BW rl_Ns yX7_init cX7_init 1 none ({ frames := 4, cells := 69, slots := 1460, locals := 78 }) [.ref x] h n (fun v h' n' => v = none ∧ n' = x + 70 ∧ rw_new ids h' x ∧ rl_fr h h' x (x + 70)) := by
  subst hn
  refine rl_Met.of (by decide +kernel) (Nat.le_of_ble_eq_true rfl) ?_
  intro X hC hB
  show rl_G X (rl_e D ids H0) 0 [some (.ref x)] [] h (x + 1) 0 0
  refine o_aload_n hC dX7_init_0 (by rfl) ?_
  refine o_objInit hC (by exact hB.2.2.2.2.2) mX7_1 w_objI w_objC dX7_init_1 (by rw [hB.2.1]; first | exact Nat.le_of_ble_eq_true rfl | (dsimp only; omega)) (by rw [hB.2.1]; first | exact Nat.le_of_ble_eq_true rfl | (dsimp only; omega)) ?_
  refine o_aload_n hC dX7_init_4 (by rfl) ?_
  refine o_new (ci := 3) (fs := [.null, .null, .null, .int (nI 0), .int (nI 0)]) hC rfl uX3 tyX3 tyX3_ok kX7_7 iX3 zX3 (by decide +kernel) (by rw [hB.2.1]; first | exact Nat.le_of_ble_eq_true rfl | (dsimp only; omega)) (by rw [hB.2.1]; first | exact Nat.le_of_ble_eq_true rfl | (dsimp only; omega)) dX7_init_5 ?_
  refine o_dup hC dX7_init_8 rfl ?_
  refine o_callI0 hC rl_BW_good rl_Ns_nw (by exact hB.2.2.2.2.2) YX3_init rfl IX3_init (mX7_9 hC) (by rw [hB.1]; exact ct_X3_init l D ids H0 _ _ (x + 1) (by repeat (first | with_reducible assumption | (rw [rl_u_s]; done) | (rw [rl_u_s]; rfl) | rw [rl_u_n (by first | with_reducible assumption | omega)])) rfl) (Nat.le_of_ble_eq_true rfl) (by rw [hB.2.1]; first | exact Nat.le_of_ble_eq_true rfl | (dsimp only; omega)) (by rw [hB.2.1]; first | exact Nat.le_of_ble_eq_true rfl | (dsimp only; omega)) (by rw [hB.2.1]; first | exact Nat.le_of_ble_eq_true rfl | (dsimp only; omega)) (by rw [hB.2.1]; first | exact Nat.le_of_ble_eq_true rfl | (dsimp only; omega)) dX7_init_9 (fun v h_9 n_9 p_9 => ?_)
  obtain ⟨rfl, rfl, s1, fr9⟩ := p_9
  try dsimp only [Option.toList, List.cons_append, List.nil_append]
  refine o_putf hC (fX7_10 hC rfl) (fwX7 rfl rfl rfl (Or.inr ⟨rfl, hB.2.2.2.2.1, rfl⟩)) dX7_init_12 (by repeat (first | with_reducible assumption | (rw [rl_u_s]; done) | (rw [rl_u_s]; rfl) | rw [rl_u_n (by first | with_reducible assumption | omega)] | rw [fr65 _ (by omega)] | rw [fr54 _ (by omega)] | rw [fr24 _ (by omega)] | rw [fr9 _ (by omega)])) (Nat.le_of_ble_eq_true rfl) ?_
  try simp only [List.set_cons_zero, List.set_cons_succ]
  refine o_aload_n hC dX7_init_15 (by rfl) ?_
  refine o_new (ci := 2) (fs := [.null, .null, .null, .null, .null]) hC rfl uX2 tyX2 tyX2_ok kX7_16 iX2 zX2 (by decide +kernel) (by rw [hB.2.1]; first | exact Nat.le_of_ble_eq_true rfl | (dsimp only; omega)) (by rw [hB.2.1]; first | exact Nat.le_of_ble_eq_true rfl | (dsimp only; omega)) dX7_init_16 ?_
  refine o_dup hC dX7_init_19 rfl ?_
  refine o_callI0 hC rl_BW_good rl_Ns_nw (by exact hB.2.2.2.2.2) YX2_init rfl IX2_init (mX7_18 hC) (by rw [hB.1]; exact ct_X2_init l D ids H0 _ _ (x + 41) (x + 1) (by repeat (first | with_reducible assumption | (rw [rl_u_s]; done) | (rw [rl_u_s]; rfl) | rw [rl_u_n (by first | with_reducible assumption | omega)] | rw [fr9 _ (by omega)])) rfl) (Nat.le_of_ble_eq_true rfl) (by rw [hB.2.1]; first | exact Nat.le_of_ble_eq_true rfl | (dsimp only; omega)) (by rw [hB.2.1]; first | exact Nat.le_of_ble_eq_true rfl | (dsimp only; omega)) (by rw [hB.2.1]; first | exact Nat.le_of_ble_eq_true rfl | (dsimp only; omega)) (by rw [hB.2.1]; first | exact Nat.le_of_ble_eq_true rfl | (dsimp only; omega)) dX7_init_20 (fun v h_20 n_20 p_20 => ?_)
  obtain ⟨rfl, rfl, o1, fr24⟩ := p_20
  try dsimp only [Option.toList, List.cons_append, List.nil_append]
  refine o_putf hC (fX7_19 hC rfl) (fwX7 rfl rfl rfl (Or.inr ⟨rfl, hB.2.2.2.2.1, rfl⟩)) dX7_init_23 (by repeat (first | with_reducible assumption | (rw [rl_u_s]; done) | (rw [rl_u_s]; rfl) | rw [rl_u_n (by first | with_reducible assumption | omega)] | rw [fr65 _ (by omega)] | rw [fr54 _ (by omega)] | rw [fr24 _ (by omega)] | rw [fr9 _ (by omega)])) (Nat.le_of_ble_eq_true rfl) ?_
  try simp only [List.set_cons_zero, List.set_cons_succ]
  refine o_aload_n hC dX7_init_26 (by rfl) ?_
  refine o_bipush (v := nI 16) hC dX7_init_27 (by decide +kernel) ?_
  refine o_anew (t0 := 5) (N' := 16) hC kX7_23 (va_AO.use (hC.2.2.2.2.1 _ aoX1)) rfl (nI_pos (by decide)) (nI_clamp (by decide)) (by decide) (by rw [hB.2.1]; first | exact Nat.le_of_ble_eq_true rfl | (dsimp only; omega)) (by rw [hB.2.1]; first | exact Nat.le_of_ble_eq_true rfl | (dsimp only; omega)) dX7_init_29 ?_
  refine o_putf hC (fX7_25 hC rfl) (fwX7 rfl rfl rfl (Or.inr ⟨rfl, hB.2.2.2.2.1, rfl⟩)) dX7_init_32 (by repeat (first | with_reducible assumption | (rw [rl_u_s]; done) | (rw [rl_u_s]; rfl) | rw [rl_u_n (by first | with_reducible assumption | omega)] | rw [fr65 _ (by omega)] | rw [fr54 _ (by omega)] | rw [fr24 _ (by omega)] | rw [fr9 _ (by omega)])) (Nat.le_of_ble_eq_true rfl) ?_
  try simp only [List.set_cons_zero, List.set_cons_succ]
  refine o_aload_n hC dX7_init_35 (by rfl) ?_
  refine o_bipush (v := nI 16) hC dX7_init_36 (by decide +kernel) ?_
  refine o_anew (t0 := 6) (N' := 16) hC kX7_29 (va_AO.use (hC.2.2.2.2.1 _ aoX4)) rfl (nI_pos (by decide)) (nI_clamp (by decide)) (by decide) (by rw [hB.2.1]; first | exact Nat.le_of_ble_eq_true rfl | (dsimp only; omega)) (by rw [hB.2.1]; first | exact Nat.le_of_ble_eq_true rfl | (dsimp only; omega)) dX7_init_38 ?_
  refine o_putf hC (fX7_31 hC rfl) (fwX7 rfl rfl rfl (Or.inr ⟨rfl, hB.2.2.2.2.1, rfl⟩)) dX7_init_41 (by repeat (first | with_reducible assumption | (rw [rl_u_s]; done) | (rw [rl_u_s]; rfl) | rw [rl_u_n (by first | with_reducible assumption | omega)] | rw [fr65 _ (by omega)] | rw [fr54 _ (by omega)] | rw [fr24 _ (by omega)] | rw [fr9 _ (by omega)])) (Nat.le_of_ble_eq_true rfl) ?_
  try simp only [List.set_cons_zero, List.set_cons_succ]
  refine o_aload_n hC dX7_init_44 (by rfl) ?_
  refine o_new (ci := 4) (fs := [.null, .int (nI 0), .int (nI 0)]) hC rfl uX4 tyX4 tyX4_ok kX7_29 iX4 zX4 (by decide +kernel) (by rw [hB.2.1]; first | exact Nat.le_of_ble_eq_true rfl | (dsimp only; omega)) (by rw [hB.2.1]; first | exact Nat.le_of_ble_eq_true rfl | (dsimp only; omega)) dX7_init_45 ?_
  refine o_dup hC dX7_init_48 rfl ?_
  refine o_iconst (v := nI 0) hC dX7_init_49 (by decide +kernel) ?_
  refine o_callI1 hC rl_BW_good rl_Ns_nw (by exact hB.2.2.2.2.2) YX4_init rfl IX4_init (mX7_35 hC) (by rw [hB.1]; exact ct_X4_init l D ids H0 _ _ (x + 65) 0 (by repeat (first | with_reducible assumption | (rw [rl_u_s]; done) | (rw [rl_u_s]; rfl) | rw [rl_u_n (by first | with_reducible assumption | omega)] | rw [fr24 _ (by omega)] | rw [fr9 _ (by omega)])) rfl (by omega)) (Nat.le_of_ble_eq_true rfl) (by rw [hB.2.1]; first | exact Nat.le_of_ble_eq_true rfl | (dsimp only; omega)) (by rw [hB.2.1]; first | exact Nat.le_of_ble_eq_true rfl | (dsimp only; omega)) (by rw [hB.2.1]; first | exact Nat.le_of_ble_eq_true rfl | (dsimp only; omega)) (by rw [hB.2.1]; first | exact Nat.le_of_ble_eq_true rfl | (dsimp only; omega)) dX7_init_50 (fun v h_50 n_50 p_50 => ?_)
  obtain ⟨rfl, rfl, p, t1, t2, t3, t4, fr54⟩ := p_50
  try dsimp only [Option.toList, List.cons_append, List.nil_append]
  refine o_putf hC (fX7_38 hC rfl) (fwX7 rfl rfl rfl (Or.inr ⟨rfl, hB.2.2.2.2.1, rfl⟩)) dX7_init_53 (by repeat (first | with_reducible assumption | (rw [rl_u_s]; done) | (rw [rl_u_s]; rfl) | rw [rl_u_n (by first | with_reducible assumption | omega)] | rw [fr65 _ (by omega)] | rw [fr54 _ (by omega)] | rw [fr24 _ (by omega)] | rw [fr9 _ (by omega)])) (Nat.le_of_ble_eq_true rfl) ?_
  try simp only [List.set_cons_zero, List.set_cons_succ]
  refine o_aload_n hC dX7_init_56 (by rfl) ?_
  refine o_new (ci := 6) (fs := [.null, .null, .int (nI 0)]) hC rfl uX6 tyX6 tyX6_ok kX7_42 iX6 zX6 (by decide +kernel) (by rw [hB.2.1]; first | exact Nat.le_of_ble_eq_true rfl | (dsimp only; omega)) (by rw [hB.2.1]; first | exact Nat.le_of_ble_eq_true rfl | (dsimp only; omega)) dX7_init_57 ?_
  refine o_dup hC dX7_init_60 rfl ?_
  refine o_callI0 hC rl_BW_good rl_Ns_nw (by exact hB.2.2.2.2.2) YX6_init rfl IX6_init (mX7_44 hC) (by rw [hB.1]; exact ct_X6_init l D ids H0 _ _ (x + 67) (by repeat (first | with_reducible assumption | (rw [rl_u_s]; done) | (rw [rl_u_s]; rfl) | rw [rl_u_n (by first | with_reducible assumption | omega)] | rw [fr54 _ (by omega)] | rw [fr24 _ (by omega)] | rw [fr9 _ (by omega)])) rfl) (Nat.le_of_ble_eq_true rfl) (by rw [hB.2.1]; first | exact Nat.le_of_ble_eq_true rfl | (dsimp only; omega)) (by rw [hB.2.1]; first | exact Nat.le_of_ble_eq_true rfl | (dsimp only; omega)) (by rw [hB.2.1]; first | exact Nat.le_of_ble_eq_true rfl | (dsimp only; omega)) (by rw [hB.2.1]; first | exact Nat.le_of_ble_eq_true rfl | (dsimp only; omega)) dX7_init_61 (fun v h_61 n_61 p_61 => ?_)
  obtain ⟨rfl, rfl, w1, fr65⟩ := p_61
  try dsimp only [Option.toList, List.cons_append, List.nil_append]
  refine o_putf hC (fX7_45 hC rfl) (fwX7 rfl rfl rfl (Or.inr ⟨rfl, hB.2.2.2.2.1, rfl⟩)) dX7_init_64 (by repeat (first | with_reducible assumption | (rw [rl_u_s]; done) | (rw [rl_u_s]; rfl) | rw [rl_u_n (by first | with_reducible assumption | omega)] | rw [fr65 _ (by omega)] | rw [fr54 _ (by omega)] | rw [fr24 _ (by omega)] | rw [fr9 _ (by omega)])) (Nat.le_of_ble_eq_true rfl) ?_
  try simp only [List.set_cons_zero, List.set_cons_succ]
  refine o_aload_n hC dX7_init_67 (by rfl) ?_
  refine o_iconst (v := (-1 : Int32)) hC dX7_init_68 (by decide +kernel) ?_
  refine o_putf hC (fX7_49 hC rfl) (fwX7 rfl rfl rfl (Or.inl rfl)) dX7_init_69 (by repeat (first | with_reducible assumption | (rw [rl_u_s]; done) | (rw [rl_u_s]; rfl) | rw [rl_u_n (by first | with_reducible assumption | omega)] | rw [fr65 _ (by omega)] | rw [fr54 _ (by omega)] | rw [fr24 _ (by omega)] | rw [fr9 _ (by omega)])) (Nat.le_of_ble_eq_true rfl) ?_
  try simp only [List.set_cons_zero, List.set_cons_succ]
  refine o_vret hC hB dX7_init_72 (Nat.le_of_ble_eq_true rfl) (Nat.le_of_ble_eq_true rfl) ?_
  refine ⟨rfl, rfl, ⟨by repeat (first | with_reducible assumption | (rw [rl_u_s]; done) | (rw [rl_u_s]; rfl) | rw [rl_u_n (by first | with_reducible assumption | omega)] | rw [fr65 _ (by omega)] | rw [fr54 _ (by omega)] | rw [fr24 _ (by omega)] | rw [fr9 _ (by omega)]), s1.eqv (fun q h1 h2 => by repeat (first | rfl | rw [rl_u_n (by omega)] | rw [fr65 _ (by omega)] | rw [fr54 _ (by omega)] | rw [fr24 _ (by omega)] | rw [fr9 _ (by omega)])), o1.eqv (fun q h1 h2 => by repeat (first | rfl | rw [rl_u_n (by omega)] | rw [fr65 _ (by omega)] | rw [fr54 _ (by omega)] | rw [fr24 _ (by omega)] | rw [fr9 _ (by omega)])), by repeat (first | with_reducible assumption | (rw [rl_u_s]; done) | (rw [rl_u_s]; rfl) | rw [rl_u_n (by first | with_reducible assumption | omega)] | rw [fr65 _ (by omega)] | rw [fr54 _ (by omega)] | rw [fr24 _ (by omega)] | rw [fr9 _ (by omega)]), by repeat (first | with_reducible assumption | (rw [rl_u_s]; done) | (rw [rl_u_s]; rfl) | rw [rl_u_n (by first | with_reducible assumption | omega)] | rw [fr65 _ (by omega)] | rw [fr54 _ (by omega)] | rw [fr24 _ (by omega)] | rw [fr9 _ (by omega)]), by repeat (first | with_reducible assumption | (rw [rl_u_s]; done) | (rw [rl_u_s]; rfl) | rw [rl_u_n (by first | with_reducible assumption | omega)] | rw [fr65 _ (by omega)] | rw [fr54 _ (by omega)] | rw [fr24 _ (by omega)] | rw [fr9 _ (by omega)]), w1.eqv (fun q h1 h2 => by repeat (first | rfl | rw [rl_u_n (by omega)] | rw [fr65 _ (by omega)] | rw [fr54 _ (by omega)] | rw [fr24 _ (by omega)] | rw [fr9 _ (by omega)]))⟩, ?_⟩
  intro q hq
  repeat (first | rfl | rw [rl_u_n (by omega)] | rw [fr65 _ (by omega)] | rw [fr54 _ (by omega)] | rw [fr24 _ (by omega)] | rw [fr9 _ (by omega)])

/-- the model at m: its fields, and its arrays from m + 1 on -/
def md_at (ids : Nat → ClassId) (h : rl_H) (m : Nat) (code sources rows nodes resultColumns isFull heap inMany : Int32) (present : Int64) (a_sourceColumns a_rowSource a_rowCells a_nOp a_nFirst a_nSecond a_nA a_nB a_nC a_nV a_nColumns a_cells a_tuples a_isMade a_terms a_tuple a_group a_inTerms : Nat → Int32) (a_needs a_lacks a_heapNeeds a_heapLacks : Nat → Int64) : Prop :=
  h m = some (.inr (8, [.int code, .int sources, .ref (m + 1), .int rows, .ref (m + 2), .ref (m + 3), .long present, .int nodes, .ref (m + 4), .ref (m + 5), .ref (m + 6), .ref (m + 7), .ref (m + 8), .ref (m + 9), .ref (m + 10), .ref (m + 11), .ref (m + 12), .ref (m + 13), .ref (m + 14), .int resultColumns, .ref (m + 15), .ref (m + 16), .ref (m + 17), .int isFull, .ref (m + 18), .ref (m + 19), .int heap, .ref (m + 20), .ref (m + 21), .ref (m + 22), .int inMany])) ∧ h (m + 1) = some (.inl (ids 0, 4, .inl a_sourceColumns)) ∧ h (m + 2) = some (.inl (ids 0, 36, .inl a_rowSource)) ∧ h (m + 3) = some (.inl (ids 0, 144, .inl a_rowCells)) ∧ h (m + 4) = some (.inl (ids 0, 16, .inl a_nOp)) ∧ h (m + 5) = some (.inl (ids 0, 16, .inl a_nFirst)) ∧ h (m + 6) = some (.inl (ids 0, 16, .inl a_nSecond)) ∧ h (m + 7) = some (.inl (ids 0, 16, .inl a_nA)) ∧ h (m + 8) = some (.inl (ids 0, 16, .inl a_nB)) ∧ h (m + 9) = some (.inl (ids 0, 16, .inl a_nC)) ∧ h (m + 10) = some (.inl (ids 0, 16, .inl a_nV)) ∧ h (m + 11) = some (.inl (ids 0, 16, .inl a_nColumns)) ∧ h (m + 12) = some (.inl (ids 0, 8160, .inl a_cells)) ∧ h (m + 13) = some (.inl (ids 0, 17, .inl a_tuples)) ∧ h (m + 14) = some (.inl (ids 2, 16, .inl a_isMade)) ∧ h (m + 15) = some (.inl (ids 0, 1368, .inl a_terms)) ∧ h (m + 16) = some (.inl (ids 1, 16416, .inr (.inl a_needs))) ∧ h (m + 17) = some (.inl (ids 1, 16416, .inr (.inl a_lacks))) ∧ h (m + 18) = some (.inl (ids 1, 160, .inr (.inl a_heapNeeds))) ∧ h (m + 19) = some (.inl (ids 1, 160, .inr (.inl a_heapLacks))) ∧ h (m + 20) = some (.inl (ids 0, 6, .inl a_tuple)) ∧ h (m + 21) = some (.inl (ids 0, 4, .inl a_group)) ∧ h (m + 22) = some (.inl (ids 0, 36, .inl a_inTerms))
set_option maxHeartbeats 4000000 in
set_option maxRecDepth 100000 in
theorem ct_X8_init (l : Launch) (D : va_G) (ids : Nat → ClassId) (H0 : Heap) (h : rl_H) (n : Nat) (m : Nat) (h1 : h m = some (.inr (8, [.int (nI 0), .int (nI 0), .null, .int (nI 0), .null, .null, .long 0, .int (nI 0), .null, .null, .null, .null, .null, .null, .null, .null, .null, .null, .null, .int (nI 0), .null, .null, .null, .int (nI 0), .null, .null, .int (nI 0), .null, .null, .null, .int (nI 0)]))) (hn : n = m + 1) : rl_Met l (rl_e D ids H0) rl_BW rl_Ns yX8_init cX8_init 1 none ({ frames := 1, cells := 22, slots := 43071, locals := 16 }) [.ref m] h n (fun v h' n' => v = none ∧ n' = m + 23 ∧ md_at ids h' m (nI 0) (nI 0) (nI 0) (nI 0) (nI 0) (nI 0) (nI 0) (nI 0) 0 (fun _ => 0) (fun _ => 0) (fun _ => 0) (fun _ => 0) (fun _ => 0) (fun _ => 0) (fun _ => 0) (fun _ => 0) (fun _ => 0) (fun _ => 0) (fun _ => 0) (fun _ => 0) (fun _ => 0) (fun _ => 0) (fun _ => 0) (fun _ => 0) (fun _ => 0) (fun _ => 0) (fun _ => 0) (fun _ => 0) (fun _ => 0) (fun _ => 0) ∧ rl_fr h h' m (m + 23)) := by
  subst hn
  refine rl_Met.of (by decide +kernel) (Nat.le_of_ble_eq_true rfl) ?_
  intro X hC hB
  show rl_G X (rl_e D ids H0) 0 [some (.ref m)] [] h (m + 1) 0 0
  refine o_aload_n hC dX8_init_0 (by rfl) ?_
  refine o_objInit hC (by exact hB.2.2.2.2.2) mX8_1 w_objI w_objC dX8_init_1 (by rw [hB.2.1]; first | exact Nat.le_of_ble_eq_true rfl | (dsimp only; omega)) (by rw [hB.2.1]; first | exact Nat.le_of_ble_eq_true rfl | (dsimp only; omega)) ?_
  refine o_aload_n hC dX8_init_4 (by rfl) ?_
  refine o_iconst (v := nI 4) hC dX8_init_5 (by decide +kernel) ?_
  refine o_newa (atype := .int) (ty := .int) (t0 := 0) (N' := 4) (x := .inl (fun _ => 0)) hC rfl (fun C q => by cases q) aw_int rfl rfl (nI_pos (by decide)) (nI_clamp (by decide)) (by decide) (by rw [hB.2.1]; first | exact Nat.le_of_ble_eq_true rfl | (dsimp only; omega)) (by rw [hB.2.1]; first | exact Nat.le_of_ble_eq_true rfl | (dsimp only; omega)) dX8_init_6 ?_
  refine o_putf hC (fX8_7 hC rfl) (fwX8 rfl rfl rfl (Or.inr ⟨rfl, hB.2.2.2.2.1, rfl⟩)) dX8_init_8 (by repeat (first | with_reducible assumption | (rw [rl_u_s]; done) | (rw [rl_u_s]; rfl) | rw [rl_u_n (by first | with_reducible assumption | omega)])) (Nat.le_of_ble_eq_true rfl) ?_
  try simp only [List.set_cons_zero, List.set_cons_succ]
  refine o_aload_n hC dX8_init_11 (by rfl) ?_
  refine o_bipush (v := nI 36) hC dX8_init_12 (by decide +kernel) ?_
  refine o_newa (atype := .int) (ty := .int) (t0 := 0) (N' := 36) (x := .inl (fun _ => 0)) hC rfl (fun C q => by cases q) aw_int rfl rfl (nI_pos (by decide)) (nI_clamp (by decide)) (by decide) (by rw [hB.2.1]; first | exact Nat.le_of_ble_eq_true rfl | (dsimp only; omega)) (by rw [hB.2.1]; first | exact Nat.le_of_ble_eq_true rfl | (dsimp only; omega)) dX8_init_14 ?_
  refine o_putf hC (fX8_13 hC rfl) (fwX8 rfl rfl rfl (Or.inr ⟨rfl, hB.2.2.2.2.1, rfl⟩)) dX8_init_16 (by repeat (first | with_reducible assumption | (rw [rl_u_s]; done) | (rw [rl_u_s]; rfl) | rw [rl_u_n (by first | with_reducible assumption | omega)])) (Nat.le_of_ble_eq_true rfl) ?_
  try simp only [List.set_cons_zero, List.set_cons_succ]
  refine o_aload_n hC dX8_init_19 (by rfl) ?_
  refine o_sipush (v := nI 144) hC dX8_init_20 (by decide +kernel) ?_
  refine o_newa (atype := .int) (ty := .int) (t0 := 0) (N' := 144) (x := .inl (fun _ => 0)) hC rfl (fun C q => by cases q) aw_int rfl rfl (nI_pos (by decide)) (nI_clamp (by decide)) (by decide) (by rw [hB.2.1]; first | exact Nat.le_of_ble_eq_true rfl | (dsimp only; omega)) (by rw [hB.2.1]; first | exact Nat.le_of_ble_eq_true rfl | (dsimp only; omega)) dX8_init_23 ?_
  refine o_putf hC (fX8_16 hC rfl) (fwX8 rfl rfl rfl (Or.inr ⟨rfl, hB.2.2.2.2.1, rfl⟩)) dX8_init_25 (by repeat (first | with_reducible assumption | (rw [rl_u_s]; done) | (rw [rl_u_s]; rfl) | rw [rl_u_n (by first | with_reducible assumption | omega)])) (Nat.le_of_ble_eq_true rfl) ?_
  try simp only [List.set_cons_zero, List.set_cons_succ]
  refine o_aload_n hC dX8_init_28 (by rfl) ?_
  refine o_bipush (v := nI 16) hC dX8_init_29 (by decide +kernel) ?_
  refine o_newa (atype := .int) (ty := .int) (t0 := 0) (N' := 16) (x := .inl (fun _ => 0)) hC rfl (fun C q => by cases q) aw_int rfl rfl (nI_pos (by decide)) (nI_clamp (by decide)) (by decide) (by rw [hB.2.1]; first | exact Nat.le_of_ble_eq_true rfl | (dsimp only; omega)) (by rw [hB.2.1]; first | exact Nat.le_of_ble_eq_true rfl | (dsimp only; omega)) dX8_init_31 ?_
  refine o_putf hC (fX8_19 hC rfl) (fwX8 rfl rfl rfl (Or.inr ⟨rfl, hB.2.2.2.2.1, rfl⟩)) dX8_init_33 (by repeat (first | with_reducible assumption | (rw [rl_u_s]; done) | (rw [rl_u_s]; rfl) | rw [rl_u_n (by first | with_reducible assumption | omega)])) (Nat.le_of_ble_eq_true rfl) ?_
  try simp only [List.set_cons_zero, List.set_cons_succ]
  refine o_aload_n hC dX8_init_36 (by rfl) ?_
  refine o_bipush (v := nI 16) hC dX8_init_37 (by decide +kernel) ?_
  refine o_newa (atype := .int) (ty := .int) (t0 := 0) (N' := 16) (x := .inl (fun _ => 0)) hC rfl (fun C q => by cases q) aw_int rfl rfl (nI_pos (by decide)) (nI_clamp (by decide)) (by decide) (by rw [hB.2.1]; first | exact Nat.le_of_ble_eq_true rfl | (dsimp only; omega)) (by rw [hB.2.1]; first | exact Nat.le_of_ble_eq_true rfl | (dsimp only; omega)) dX8_init_39 ?_
  refine o_putf hC (fX8_22 hC rfl) (fwX8 rfl rfl rfl (Or.inr ⟨rfl, hB.2.2.2.2.1, rfl⟩)) dX8_init_41 (by repeat (first | with_reducible assumption | (rw [rl_u_s]; done) | (rw [rl_u_s]; rfl) | rw [rl_u_n (by first | with_reducible assumption | omega)])) (Nat.le_of_ble_eq_true rfl) ?_
  try simp only [List.set_cons_zero, List.set_cons_succ]
  refine o_aload_n hC dX8_init_44 (by rfl) ?_
  refine o_bipush (v := nI 16) hC dX8_init_45 (by decide +kernel) ?_
  refine o_newa (atype := .int) (ty := .int) (t0 := 0) (N' := 16) (x := .inl (fun _ => 0)) hC rfl (fun C q => by cases q) aw_int rfl rfl (nI_pos (by decide)) (nI_clamp (by decide)) (by decide) (by rw [hB.2.1]; first | exact Nat.le_of_ble_eq_true rfl | (dsimp only; omega)) (by rw [hB.2.1]; first | exact Nat.le_of_ble_eq_true rfl | (dsimp only; omega)) dX8_init_47 ?_
  refine o_putf hC (fX8_25 hC rfl) (fwX8 rfl rfl rfl (Or.inr ⟨rfl, hB.2.2.2.2.1, rfl⟩)) dX8_init_49 (by repeat (first | with_reducible assumption | (rw [rl_u_s]; done) | (rw [rl_u_s]; rfl) | rw [rl_u_n (by first | with_reducible assumption | omega)])) (Nat.le_of_ble_eq_true rfl) ?_
  try simp only [List.set_cons_zero, List.set_cons_succ]
  refine o_aload_n hC dX8_init_52 (by rfl) ?_
  refine o_bipush (v := nI 16) hC dX8_init_53 (by decide +kernel) ?_
  refine o_newa (atype := .int) (ty := .int) (t0 := 0) (N' := 16) (x := .inl (fun _ => 0)) hC rfl (fun C q => by cases q) aw_int rfl rfl (nI_pos (by decide)) (nI_clamp (by decide)) (by decide) (by rw [hB.2.1]; first | exact Nat.le_of_ble_eq_true rfl | (dsimp only; omega)) (by rw [hB.2.1]; first | exact Nat.le_of_ble_eq_true rfl | (dsimp only; omega)) dX8_init_55 ?_
  refine o_putf hC (fX8_28 hC rfl) (fwX8 rfl rfl rfl (Or.inr ⟨rfl, hB.2.2.2.2.1, rfl⟩)) dX8_init_57 (by repeat (first | with_reducible assumption | (rw [rl_u_s]; done) | (rw [rl_u_s]; rfl) | rw [rl_u_n (by first | with_reducible assumption | omega)])) (Nat.le_of_ble_eq_true rfl) ?_
  try simp only [List.set_cons_zero, List.set_cons_succ]
  refine o_aload_n hC dX8_init_60 (by rfl) ?_
  refine o_bipush (v := nI 16) hC dX8_init_61 (by decide +kernel) ?_
  refine o_newa (atype := .int) (ty := .int) (t0 := 0) (N' := 16) (x := .inl (fun _ => 0)) hC rfl (fun C q => by cases q) aw_int rfl rfl (nI_pos (by decide)) (nI_clamp (by decide)) (by decide) (by rw [hB.2.1]; first | exact Nat.le_of_ble_eq_true rfl | (dsimp only; omega)) (by rw [hB.2.1]; first | exact Nat.le_of_ble_eq_true rfl | (dsimp only; omega)) dX8_init_63 ?_
  refine o_putf hC (fX8_31 hC rfl) (fwX8 rfl rfl rfl (Or.inr ⟨rfl, hB.2.2.2.2.1, rfl⟩)) dX8_init_65 (by repeat (first | with_reducible assumption | (rw [rl_u_s]; done) | (rw [rl_u_s]; rfl) | rw [rl_u_n (by first | with_reducible assumption | omega)])) (Nat.le_of_ble_eq_true rfl) ?_
  try simp only [List.set_cons_zero, List.set_cons_succ]
  refine o_aload_n hC dX8_init_68 (by rfl) ?_
  refine o_bipush (v := nI 16) hC dX8_init_69 (by decide +kernel) ?_
  refine o_newa (atype := .int) (ty := .int) (t0 := 0) (N' := 16) (x := .inl (fun _ => 0)) hC rfl (fun C q => by cases q) aw_int rfl rfl (nI_pos (by decide)) (nI_clamp (by decide)) (by decide) (by rw [hB.2.1]; first | exact Nat.le_of_ble_eq_true rfl | (dsimp only; omega)) (by rw [hB.2.1]; first | exact Nat.le_of_ble_eq_true rfl | (dsimp only; omega)) dX8_init_71 ?_
  refine o_putf hC (fX8_34 hC rfl) (fwX8 rfl rfl rfl (Or.inr ⟨rfl, hB.2.2.2.2.1, rfl⟩)) dX8_init_73 (by repeat (first | with_reducible assumption | (rw [rl_u_s]; done) | (rw [rl_u_s]; rfl) | rw [rl_u_n (by first | with_reducible assumption | omega)])) (Nat.le_of_ble_eq_true rfl) ?_
  try simp only [List.set_cons_zero, List.set_cons_succ]
  refine o_aload_n hC dX8_init_76 (by rfl) ?_
  refine o_bipush (v := nI 16) hC dX8_init_77 (by decide +kernel) ?_
  refine o_newa (atype := .int) (ty := .int) (t0 := 0) (N' := 16) (x := .inl (fun _ => 0)) hC rfl (fun C q => by cases q) aw_int rfl rfl (nI_pos (by decide)) (nI_clamp (by decide)) (by decide) (by rw [hB.2.1]; first | exact Nat.le_of_ble_eq_true rfl | (dsimp only; omega)) (by rw [hB.2.1]; first | exact Nat.le_of_ble_eq_true rfl | (dsimp only; omega)) dX8_init_79 ?_
  refine o_putf hC (fX8_37 hC rfl) (fwX8 rfl rfl rfl (Or.inr ⟨rfl, hB.2.2.2.2.1, rfl⟩)) dX8_init_81 (by repeat (first | with_reducible assumption | (rw [rl_u_s]; done) | (rw [rl_u_s]; rfl) | rw [rl_u_n (by first | with_reducible assumption | omega)])) (Nat.le_of_ble_eq_true rfl) ?_
  try simp only [List.set_cons_zero, List.set_cons_succ]
  refine o_aload_n hC dX8_init_84 (by rfl) ?_
  refine o_bipush (v := nI 16) hC dX8_init_85 (by decide +kernel) ?_
  refine o_newa (atype := .int) (ty := .int) (t0 := 0) (N' := 16) (x := .inl (fun _ => 0)) hC rfl (fun C q => by cases q) aw_int rfl rfl (nI_pos (by decide)) (nI_clamp (by decide)) (by decide) (by rw [hB.2.1]; first | exact Nat.le_of_ble_eq_true rfl | (dsimp only; omega)) (by rw [hB.2.1]; first | exact Nat.le_of_ble_eq_true rfl | (dsimp only; omega)) dX8_init_87 ?_
  refine o_putf hC (fX8_40 hC rfl) (fwX8 rfl rfl rfl (Or.inr ⟨rfl, hB.2.2.2.2.1, rfl⟩)) dX8_init_89 (by repeat (first | with_reducible assumption | (rw [rl_u_s]; done) | (rw [rl_u_s]; rfl) | rw [rl_u_n (by first | with_reducible assumption | omega)])) (Nat.le_of_ble_eq_true rfl) ?_
  try simp only [List.set_cons_zero, List.set_cons_succ]
  refine o_aload_n hC dX8_init_92 (by rfl) ?_
  refine o_sipush (v := nI 8160) hC dX8_init_93 (by decide +kernel) ?_
  refine o_newa (atype := .int) (ty := .int) (t0 := 0) (N' := 8160) (x := .inl (fun _ => 0)) hC rfl (fun C q => by cases q) aw_int rfl rfl (nI_pos (by decide)) (nI_clamp (by decide)) (by decide) (by rw [hB.2.1]; first | exact Nat.le_of_ble_eq_true rfl | (dsimp only; omega)) (by rw [hB.2.1]; first | exact Nat.le_of_ble_eq_true rfl | (dsimp only; omega)) dX8_init_96 ?_
  refine o_putf hC (fX8_43 hC rfl) (fwX8 rfl rfl rfl (Or.inr ⟨rfl, hB.2.2.2.2.1, rfl⟩)) dX8_init_98 (by repeat (first | with_reducible assumption | (rw [rl_u_s]; done) | (rw [rl_u_s]; rfl) | rw [rl_u_n (by first | with_reducible assumption | omega)])) (Nat.le_of_ble_eq_true rfl) ?_
  try simp only [List.set_cons_zero, List.set_cons_succ]
  refine o_aload_n hC dX8_init_101 (by rfl) ?_
  refine o_bipush (v := nI 17) hC dX8_init_102 (by decide +kernel) ?_
  refine o_newa (atype := .int) (ty := .int) (t0 := 0) (N' := 17) (x := .inl (fun _ => 0)) hC rfl (fun C q => by cases q) aw_int rfl rfl (nI_pos (by decide)) (nI_clamp (by decide)) (by decide) (by rw [hB.2.1]; first | exact Nat.le_of_ble_eq_true rfl | (dsimp only; omega)) (by rw [hB.2.1]; first | exact Nat.le_of_ble_eq_true rfl | (dsimp only; omega)) dX8_init_104 ?_
  refine o_putf hC (fX8_46 hC rfl) (fwX8 rfl rfl rfl (Or.inr ⟨rfl, hB.2.2.2.2.1, rfl⟩)) dX8_init_106 (by repeat (first | with_reducible assumption | (rw [rl_u_s]; done) | (rw [rl_u_s]; rfl) | rw [rl_u_n (by first | with_reducible assumption | omega)])) (Nat.le_of_ble_eq_true rfl) ?_
  try simp only [List.set_cons_zero, List.set_cons_succ]
  refine o_aload_n hC dX8_init_109 (by rfl) ?_
  refine o_bipush (v := nI 16) hC dX8_init_110 (by decide +kernel) ?_
  refine o_newa (atype := .boolean) (ty := .boolean) (t0 := 2) (N' := 16) (x := .inl (fun _ => 0)) hC rfl (fun C q => by cases q) aw_boolean rfl rfl (nI_pos (by decide)) (nI_clamp (by decide)) (by decide) (by rw [hB.2.1]; first | exact Nat.le_of_ble_eq_true rfl | (dsimp only; omega)) (by rw [hB.2.1]; first | exact Nat.le_of_ble_eq_true rfl | (dsimp only; omega)) dX8_init_112 ?_
  refine o_putf hC (fX8_49 hC rfl) (fwX8 rfl rfl rfl (Or.inr ⟨rfl, hB.2.2.2.2.1, rfl⟩)) dX8_init_114 (by repeat (first | with_reducible assumption | (rw [rl_u_s]; done) | (rw [rl_u_s]; rfl) | rw [rl_u_n (by first | with_reducible assumption | omega)])) (Nat.le_of_ble_eq_true rfl) ?_
  try simp only [List.set_cons_zero, List.set_cons_succ]
  refine o_aload_n hC dX8_init_117 (by rfl) ?_
  refine o_sipush (v := nI 1368) hC dX8_init_118 (by decide +kernel) ?_
  refine o_newa (atype := .int) (ty := .int) (t0 := 0) (N' := 1368) (x := .inl (fun _ => 0)) hC rfl (fun C q => by cases q) aw_int rfl rfl (nI_pos (by decide)) (nI_clamp (by decide)) (by decide) (by rw [hB.2.1]; first | exact Nat.le_of_ble_eq_true rfl | (dsimp only; omega)) (by rw [hB.2.1]; first | exact Nat.le_of_ble_eq_true rfl | (dsimp only; omega)) dX8_init_121 ?_
  refine o_putf hC (fX8_53 hC rfl) (fwX8 rfl rfl rfl (Or.inr ⟨rfl, hB.2.2.2.2.1, rfl⟩)) dX8_init_123 (by repeat (first | with_reducible assumption | (rw [rl_u_s]; done) | (rw [rl_u_s]; rfl) | rw [rl_u_n (by first | with_reducible assumption | omega)])) (Nat.le_of_ble_eq_true rfl) ?_
  try simp only [List.set_cons_zero, List.set_cons_succ]
  refine o_aload_n hC dX8_init_126 (by rfl) ?_
  refine o_sipush (v := nI 16416) hC dX8_init_127 (by decide +kernel) ?_
  refine o_newa (atype := .long) (ty := .long) (t0 := 1) (N' := 16416) (x := .inr (.inl (fun _ => 0))) hC rfl (fun C q => by cases q) aw_long rfl rfl (nI_pos (by decide)) (nI_clamp (by decide)) (by decide) (by rw [hB.2.1]; first | exact Nat.le_of_ble_eq_true rfl | (dsimp only; omega)) (by rw [hB.2.1]; first | exact Nat.le_of_ble_eq_true rfl | (dsimp only; omega)) dX8_init_130 ?_
  refine o_putf hC (fX8_56 hC rfl) (fwX8 rfl rfl rfl (Or.inr ⟨rfl, hB.2.2.2.2.1, rfl⟩)) dX8_init_132 (by repeat (first | with_reducible assumption | (rw [rl_u_s]; done) | (rw [rl_u_s]; rfl) | rw [rl_u_n (by first | with_reducible assumption | omega)])) (Nat.le_of_ble_eq_true rfl) ?_
  try simp only [List.set_cons_zero, List.set_cons_succ]
  refine o_aload_n hC dX8_init_135 (by rfl) ?_
  refine o_sipush (v := nI 16416) hC dX8_init_136 (by decide +kernel) ?_
  refine o_newa (atype := .long) (ty := .long) (t0 := 1) (N' := 16416) (x := .inr (.inl (fun _ => 0))) hC rfl (fun C q => by cases q) aw_long rfl rfl (nI_pos (by decide)) (nI_clamp (by decide)) (by decide) (by rw [hB.2.1]; first | exact Nat.le_of_ble_eq_true rfl | (dsimp only; omega)) (by rw [hB.2.1]; first | exact Nat.le_of_ble_eq_true rfl | (dsimp only; omega)) dX8_init_139 ?_
  refine o_putf hC (fX8_60 hC rfl) (fwX8 rfl rfl rfl (Or.inr ⟨rfl, hB.2.2.2.2.1, rfl⟩)) dX8_init_141 (by repeat (first | with_reducible assumption | (rw [rl_u_s]; done) | (rw [rl_u_s]; rfl) | rw [rl_u_n (by first | with_reducible assumption | omega)])) (Nat.le_of_ble_eq_true rfl) ?_
  try simp only [List.set_cons_zero, List.set_cons_succ]
  refine o_aload_n hC dX8_init_144 (by rfl) ?_
  refine o_sipush (v := nI 160) hC dX8_init_145 (by decide +kernel) ?_
  refine o_newa (atype := .long) (ty := .long) (t0 := 1) (N' := 160) (x := .inr (.inl (fun _ => 0))) hC rfl (fun C q => by cases q) aw_long rfl rfl (nI_pos (by decide)) (nI_clamp (by decide)) (by decide) (by rw [hB.2.1]; first | exact Nat.le_of_ble_eq_true rfl | (dsimp only; omega)) (by rw [hB.2.1]; first | exact Nat.le_of_ble_eq_true rfl | (dsimp only; omega)) dX8_init_148 ?_
  refine o_putf hC (fX8_63 hC rfl) (fwX8 rfl rfl rfl (Or.inr ⟨rfl, hB.2.2.2.2.1, rfl⟩)) dX8_init_150 (by repeat (first | with_reducible assumption | (rw [rl_u_s]; done) | (rw [rl_u_s]; rfl) | rw [rl_u_n (by first | with_reducible assumption | omega)])) (Nat.le_of_ble_eq_true rfl) ?_
  try simp only [List.set_cons_zero, List.set_cons_succ]
  refine o_aload_n hC dX8_init_153 (by rfl) ?_
  refine o_sipush (v := nI 160) hC dX8_init_154 (by decide +kernel) ?_
  refine o_newa (atype := .long) (ty := .long) (t0 := 1) (N' := 160) (x := .inr (.inl (fun _ => 0))) hC rfl (fun C q => by cases q) aw_long rfl rfl (nI_pos (by decide)) (nI_clamp (by decide)) (by decide) (by rw [hB.2.1]; first | exact Nat.le_of_ble_eq_true rfl | (dsimp only; omega)) (by rw [hB.2.1]; first | exact Nat.le_of_ble_eq_true rfl | (dsimp only; omega)) dX8_init_157 ?_
  refine o_putf hC (fX8_66 hC rfl) (fwX8 rfl rfl rfl (Or.inr ⟨rfl, hB.2.2.2.2.1, rfl⟩)) dX8_init_159 (by repeat (first | with_reducible assumption | (rw [rl_u_s]; done) | (rw [rl_u_s]; rfl) | rw [rl_u_n (by first | with_reducible assumption | omega)])) (Nat.le_of_ble_eq_true rfl) ?_
  try simp only [List.set_cons_zero, List.set_cons_succ]
  refine o_aload_n hC dX8_init_162 (by rfl) ?_
  refine o_bipush (v := nI 6) hC dX8_init_163 (by decide +kernel) ?_
  refine o_newa (atype := .int) (ty := .int) (t0 := 0) (N' := 6) (x := .inl (fun _ => 0)) hC rfl (fun C q => by cases q) aw_int rfl rfl (nI_pos (by decide)) (nI_clamp (by decide)) (by decide) (by rw [hB.2.1]; first | exact Nat.le_of_ble_eq_true rfl | (dsimp only; omega)) (by rw [hB.2.1]; first | exact Nat.le_of_ble_eq_true rfl | (dsimp only; omega)) dX8_init_165 ?_
  refine o_putf hC (fX8_69 hC rfl) (fwX8 rfl rfl rfl (Or.inr ⟨rfl, hB.2.2.2.2.1, rfl⟩)) dX8_init_167 (by repeat (first | with_reducible assumption | (rw [rl_u_s]; done) | (rw [rl_u_s]; rfl) | rw [rl_u_n (by first | with_reducible assumption | omega)])) (Nat.le_of_ble_eq_true rfl) ?_
  try simp only [List.set_cons_zero, List.set_cons_succ]
  refine o_aload_n hC dX8_init_170 (by rfl) ?_
  refine o_iconst (v := nI 4) hC dX8_init_171 (by decide +kernel) ?_
  refine o_newa (atype := .int) (ty := .int) (t0 := 0) (N' := 4) (x := .inl (fun _ => 0)) hC rfl (fun C q => by cases q) aw_int rfl rfl (nI_pos (by decide)) (nI_clamp (by decide)) (by decide) (by rw [hB.2.1]; first | exact Nat.le_of_ble_eq_true rfl | (dsimp only; omega)) (by rw [hB.2.1]; first | exact Nat.le_of_ble_eq_true rfl | (dsimp only; omega)) dX8_init_172 ?_
  refine o_putf hC (fX8_72 hC rfl) (fwX8 rfl rfl rfl (Or.inr ⟨rfl, hB.2.2.2.2.1, rfl⟩)) dX8_init_174 (by repeat (first | with_reducible assumption | (rw [rl_u_s]; done) | (rw [rl_u_s]; rfl) | rw [rl_u_n (by first | with_reducible assumption | omega)])) (Nat.le_of_ble_eq_true rfl) ?_
  try simp only [List.set_cons_zero, List.set_cons_succ]
  refine o_aload_n hC dX8_init_177 (by rfl) ?_
  refine o_bipush (v := nI 36) hC dX8_init_178 (by decide +kernel) ?_
  refine o_newa (atype := .int) (ty := .int) (t0 := 0) (N' := 36) (x := .inl (fun _ => 0)) hC rfl (fun C q => by cases q) aw_int rfl rfl (nI_pos (by decide)) (nI_clamp (by decide)) (by decide) (by rw [hB.2.1]; first | exact Nat.le_of_ble_eq_true rfl | (dsimp only; omega)) (by rw [hB.2.1]; first | exact Nat.le_of_ble_eq_true rfl | (dsimp only; omega)) dX8_init_180 ?_
  refine o_putf hC (fX8_75 hC rfl) (fwX8 rfl rfl rfl (Or.inr ⟨rfl, hB.2.2.2.2.1, rfl⟩)) dX8_init_182 (by repeat (first | with_reducible assumption | (rw [rl_u_s]; done) | (rw [rl_u_s]; rfl) | rw [rl_u_n (by first | with_reducible assumption | omega)])) (Nat.le_of_ble_eq_true rfl) ?_
  try simp only [List.set_cons_zero, List.set_cons_succ]
  refine o_vret hC hB dX8_init_185 (Nat.le_of_ble_eq_true rfl) (Nat.le_of_ble_eq_true rfl) ?_
  refine ⟨rfl, rfl, ⟨by repeat (first | with_reducible assumption | (rw [rl_u_s]; done) | (rw [rl_u_s]; rfl) | rw [rl_u_n (by first | with_reducible assumption | omega)]), by repeat (first | with_reducible assumption | (rw [rl_u_s]; done) | (rw [rl_u_s]; rfl) | rw [rl_u_n (by first | with_reducible assumption | omega)]), by repeat (first | with_reducible assumption | (rw [rl_u_s]; done) | (rw [rl_u_s]; rfl) | rw [rl_u_n (by first | with_reducible assumption | omega)]), by repeat (first | with_reducible assumption | (rw [rl_u_s]; done) | (rw [rl_u_s]; rfl) | rw [rl_u_n (by first | with_reducible assumption | omega)]), by repeat (first | with_reducible assumption | (rw [rl_u_s]; done) | (rw [rl_u_s]; rfl) | rw [rl_u_n (by first | with_reducible assumption | omega)]), by repeat (first | with_reducible assumption | (rw [rl_u_s]; done) | (rw [rl_u_s]; rfl) | rw [rl_u_n (by first | with_reducible assumption | omega)]), by repeat (first | with_reducible assumption | (rw [rl_u_s]; done) | (rw [rl_u_s]; rfl) | rw [rl_u_n (by first | with_reducible assumption | omega)]), by repeat (first | with_reducible assumption | (rw [rl_u_s]; done) | (rw [rl_u_s]; rfl) | rw [rl_u_n (by first | with_reducible assumption | omega)]), by repeat (first | with_reducible assumption | (rw [rl_u_s]; done) | (rw [rl_u_s]; rfl) | rw [rl_u_n (by first | with_reducible assumption | omega)]), by repeat (first | with_reducible assumption | (rw [rl_u_s]; done) | (rw [rl_u_s]; rfl) | rw [rl_u_n (by first | with_reducible assumption | omega)]), by repeat (first | with_reducible assumption | (rw [rl_u_s]; done) | (rw [rl_u_s]; rfl) | rw [rl_u_n (by first | with_reducible assumption | omega)]), by repeat (first | with_reducible assumption | (rw [rl_u_s]; done) | (rw [rl_u_s]; rfl) | rw [rl_u_n (by first | with_reducible assumption | omega)]), by repeat (first | with_reducible assumption | (rw [rl_u_s]; done) | (rw [rl_u_s]; rfl) | rw [rl_u_n (by first | with_reducible assumption | omega)]), by repeat (first | with_reducible assumption | (rw [rl_u_s]; done) | (rw [rl_u_s]; rfl) | rw [rl_u_n (by first | with_reducible assumption | omega)]), by repeat (first | with_reducible assumption | (rw [rl_u_s]; done) | (rw [rl_u_s]; rfl) | rw [rl_u_n (by first | with_reducible assumption | omega)]), by repeat (first | with_reducible assumption | (rw [rl_u_s]; done) | (rw [rl_u_s]; rfl) | rw [rl_u_n (by first | with_reducible assumption | omega)]), by repeat (first | with_reducible assumption | (rw [rl_u_s]; done) | (rw [rl_u_s]; rfl) | rw [rl_u_n (by first | with_reducible assumption | omega)]), by repeat (first | with_reducible assumption | (rw [rl_u_s]; done) | (rw [rl_u_s]; rfl) | rw [rl_u_n (by first | with_reducible assumption | omega)]), by repeat (first | with_reducible assumption | (rw [rl_u_s]; done) | (rw [rl_u_s]; rfl) | rw [rl_u_n (by first | with_reducible assumption | omega)]), by repeat (first | with_reducible assumption | (rw [rl_u_s]; done) | (rw [rl_u_s]; rfl) | rw [rl_u_n (by first | with_reducible assumption | omega)]), by repeat (first | with_reducible assumption | (rw [rl_u_s]; done) | (rw [rl_u_s]; rfl) | rw [rl_u_n (by first | with_reducible assumption | omega)]), by repeat (first | with_reducible assumption | (rw [rl_u_s]; done) | (rw [rl_u_s]; rfl) | rw [rl_u_n (by first | with_reducible assumption | omega)]), by repeat (first | with_reducible assumption | (rw [rl_u_s]; done) | (rw [rl_u_s]; rfl) | rw [rl_u_n (by first | with_reducible assumption | omega)])⟩, ?_⟩
  intro q hq
  repeat (first | rfl | rw [rl_u_n (by omega)])
