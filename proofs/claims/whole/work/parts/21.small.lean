/-! Long.bitCount, Integer.bitCount, Math.min, Math.max -/
def jd_sr (x : Int64) (k : Int32) : Int64 := (x.toUInt64 >>> (k.toInt64.toUInt64 &&& Int64.toUInt64 63)).toInt64
def jd_1 (x : Int64) : Int64 := x - (jd_sr x (nI 1) &&& 6148914691236517205)
def jd_2 (x : Int64) : Int64 := (x &&& 3689348814741910323) + (jd_sr x (nI 2) &&& 3689348814741910323)
def jd_3 (x : Int64) : Int64 := (x + jd_sr x (nI 4)) &&& 1085102592571150095
def jd_4 (x : Int64) : Int64 := x + jd_sr x (nI 8)
def jd_5 (x : Int64) : Int64 := x + jd_sr x (nI 16)
def jd_6 (x : Int64) : Int64 := x + jd_sr x (nI 32)
def jd_bcL (x : Int64) : Int32 := (jd_6 (jd_5 (jd_4 (jd_3 (jd_2 (jd_1 x)))))).toInt32 &&& nI 127
def jd_sh (x : Int32) (k : Int32) : Int32 := (x.toUInt32 >>> (k.toUInt32 &&& Int32.toUInt32 31)).toInt32
def jd_i1 (x : Int32) : Int32 := x - (jd_sh x (nI 1) &&& 1431655765)
def jd_i2 (x : Int32) : Int32 := (x &&& 858993459) + (jd_sh x (nI 2) &&& 858993459)
def jd_i3 (x : Int32) : Int32 := (x + jd_sh x (nI 4)) &&& 252645135
def jd_i4 (x : Int32) : Int32 := x + jd_sh x (nI 8)
def jd_i5 (x : Int32) : Int32 := x + jd_sh x (nI 16)
def jd_bcI (x : Int32) : Int32 := jd_i5 (jd_i4 (jd_i3 (jd_i2 (jd_i1 x)))) &&& nI 63

set_option maxHeartbeats 4000000 in
set_option maxRecDepth 100000 in
theorem ct_J13_bitCount_95d88 (l : Launch) (D : va_G) (ids : Nat → ClassId) (H0 : Heap) (h : rl_H) (n : Nat) (x : Int64)  : rl_Met l (rl_e D ids H0) rl_BW rl_Ns yJ13_bitCount_95d88 cJ13_bitCount_95d88 2 (some .int) ({ frames := 0, cells := 0, slots := 0, locals := 0 }) [.long x] h n (fun v h' n' => v = some (.int (jd_bcL x)) ∧ h' = h ∧ n' = n) := by
  refine rl_Met.of (by decide +kernel) (Nat.le_of_ble_eq_true rfl) ?_
  intro X hC hB
  show rl_G X (rl_e D ids H0) 0 [some (.long x), none] [] h n 0 0
  refine o_lload_n hC dJ13_bitCount_95d88_0 (by rfl) ?_
  refine o_lload_n hC dJ13_bitCount_95d88_1 (by rfl) ?_
  refine o_iconst (v := nI 1) hC dJ13_bitCount_95d88_2 (by decide +kernel) ?_
  refine o_lushr hC dJ13_bitCount_95d88_3 ?_
  refine o_ldc2 hC nJ13_314 dJ13_bitCount_95d88_4 ?_
  refine o_land hC dJ13_bitCount_95d88_7 ?_
  refine o_lsub hC dJ13_bitCount_95d88_8 ?_
  refine o_lstore_n hC dJ13_bitCount_95d88_9 (Nat.le_of_ble_eq_true rfl) ?_
  refine o_lload_n hC dJ13_bitCount_95d88_10 (by rfl) ?_
  refine o_ldc2 hC nJ13_316 dJ13_bitCount_95d88_11 ?_
  refine o_land hC dJ13_bitCount_95d88_14 ?_
  refine o_lload_n hC dJ13_bitCount_95d88_15 (by rfl) ?_
  refine o_iconst (v := nI 2) hC dJ13_bitCount_95d88_16 (by decide +kernel) ?_
  refine o_lushr hC dJ13_bitCount_95d88_17 ?_
  refine o_ldc2 hC nJ13_316 dJ13_bitCount_95d88_18 ?_
  refine o_land hC dJ13_bitCount_95d88_21 ?_
  refine o_ladd hC dJ13_bitCount_95d88_22 ?_
  refine o_lstore_n hC dJ13_bitCount_95d88_23 (Nat.le_of_ble_eq_true rfl) ?_
  refine o_lload_n hC dJ13_bitCount_95d88_24 (by rfl) ?_
  refine o_lload_n hC dJ13_bitCount_95d88_25 (by rfl) ?_
  refine o_iconst (v := nI 4) hC dJ13_bitCount_95d88_26 (by decide +kernel) ?_
  refine o_lushr hC dJ13_bitCount_95d88_27 ?_
  refine o_ladd hC dJ13_bitCount_95d88_28 ?_
  refine o_ldc2 hC nJ13_318 dJ13_bitCount_95d88_29 ?_
  refine o_land hC dJ13_bitCount_95d88_32 ?_
  refine o_lstore_n hC dJ13_bitCount_95d88_33 (Nat.le_of_ble_eq_true rfl) ?_
  refine o_lload_n hC dJ13_bitCount_95d88_34 (by rfl) ?_
  refine o_lload_n hC dJ13_bitCount_95d88_35 (by rfl) ?_
  refine o_bipush (v := nI 8) hC dJ13_bitCount_95d88_36 (by decide +kernel) ?_
  refine o_lushr hC dJ13_bitCount_95d88_38 ?_
  refine o_ladd hC dJ13_bitCount_95d88_39 ?_
  refine o_lstore_n hC dJ13_bitCount_95d88_40 (Nat.le_of_ble_eq_true rfl) ?_
  refine o_lload_n hC dJ13_bitCount_95d88_41 (by rfl) ?_
  refine o_lload_n hC dJ13_bitCount_95d88_42 (by rfl) ?_
  refine o_bipush (v := nI 16) hC dJ13_bitCount_95d88_43 (by decide +kernel) ?_
  refine o_lushr hC dJ13_bitCount_95d88_45 ?_
  refine o_ladd hC dJ13_bitCount_95d88_46 ?_
  refine o_lstore_n hC dJ13_bitCount_95d88_47 (Nat.le_of_ble_eq_true rfl) ?_
  refine o_lload_n hC dJ13_bitCount_95d88_48 (by rfl) ?_
  refine o_lload_n hC dJ13_bitCount_95d88_49 (by rfl) ?_
  refine o_bipush (v := nI 32) hC dJ13_bitCount_95d88_50 (by decide +kernel) ?_
  refine o_lushr hC dJ13_bitCount_95d88_52 ?_
  refine o_ladd hC dJ13_bitCount_95d88_53 ?_
  refine o_lstore_n hC dJ13_bitCount_95d88_54 (Nat.le_of_ble_eq_true rfl) ?_
  refine o_lload_n hC dJ13_bitCount_95d88_55 (by rfl) ?_
  refine o_l2i hC dJ13_bitCount_95d88_56 ?_
  refine o_bipush (v := nI 127) hC dJ13_bitCount_95d88_57 (by decide +kernel) ?_
  refine o_iand hC dJ13_bitCount_95d88_59 ?_
  refine o_iret hC hB dJ13_bitCount_95d88_60 (Nat.le_of_ble_eq_true rfl) (Nat.le_of_ble_eq_true rfl) ?_
  exact ⟨rfl, rfl, rfl⟩

/-! RowLineage$Node, RowLineage$Sources -/
abbrev nd_v (op wd fi se co ot ki nu sta : Int32) : va_E := .inr (1, [.int op, .int wd, .int fi, .int se, .int co, .int ot, .int ki, .int nu, .int sta])

set_option maxHeartbeats 4000000 in
set_option maxRecDepth 100000 in
theorem ct_X1_init (l : Launch) (D : va_G) (ids : Nat → ClassId) (H0 : Heap) (h : rl_H) (n : Nat) (a : Nat)  : rl_Met l (rl_e D ids H0) rl_BW rl_Ns yX1_init cX1_init 1 none ({ frames := 1, cells := 0, slots := 0, locals := 16 }) [.ref a] h n (fun v h' n' => v = none ∧ h' = h ∧ n' = n) := by
  refine rl_Met.of (by decide +kernel) (Nat.le_of_ble_eq_true rfl) ?_
  intro X hC hB
  show rl_G X (rl_e D ids H0) 0 [some (.ref a)] [] h n 0 0
  refine o_aload_n hC dX1_init_0 (by rfl) ?_
  refine o_objInit hC (by exact hB.2.2.2.2.2) mX1_3 w_objI w_objC dX1_init_1 (by rw [hB.2.1]; first | exact Nat.le_of_ble_eq_true rfl | (dsimp only; omega)) (by rw [hB.2.1]; first | exact Nat.le_of_ble_eq_true rfl | (dsimp only; omega)) ?_
  refine o_vret hC hB dX1_init_4 (Nat.le_of_ble_eq_true rfl) (Nat.le_of_ble_eq_true rfl) ?_
  exact ⟨rfl, rfl, rfl⟩

set_option maxHeartbeats 4000000 in
set_option maxRecDepth 100000 in
theorem ct_X1_describe (l : Launch) (D : va_G) (ids : Nat → ClassId) (H0 : Heap) (h : rl_H) (n : Nat) (a : Nat) (op wd fi se co ot ki nu sta : Int32) (o2 w2 f2 s2 : Int32) (h1 : h a = some (nd_v op wd fi se co ot ki nu sta)) : rl_Met l (rl_e D ids H0) rl_BW rl_Ns yX1_describe cX1_describe 5 none ({ frames := 0, cells := 0, slots := 0, locals := 0 }) [.ref a, .int o2, .int w2, .int f2, .int s2] h n (fun v h' n' => v = none ∧ n' = n ∧ h' a = some (nd_v o2 w2 f2 s2 co ot ki nu (nI 0)) ∧ ∀ q : Nat, q ≠ a → h' q = h q) := by
  refine rl_Met.of (by decide +kernel) (Nat.le_of_ble_eq_true rfl) ?_
  intro X hC hB
  show rl_G X (rl_e D ids H0) 0 [some (.ref a), some (.int o2), some (.int w2), some (.int f2), some (.int s2)] [] h n 0 0
  refine o_aload_n hC dX1_describe_0 (by rfl) ?_
  refine o_iload_n hC dX1_describe_1 (by rfl) ?_
  refine o_putf hC (fX1_9 hC rfl) (fwX1 rfl rfl rfl (Or.inl rfl)) dX1_describe_2 (by repeat (first | with_reducible assumption | (rw [rl_u_s]; done) | (rw [rl_u_s]; rfl) | rw [rl_u_n (by first | with_reducible assumption | omega)])) (Nat.le_of_ble_eq_true rfl) ?_
  try simp only [List.set_cons_zero, List.set_cons_succ]
  refine o_aload_n hC dX1_describe_5 (by rfl) ?_
  refine o_iload_n hC dX1_describe_6 (by rfl) ?_
  refine o_putf hC (fX1_15 hC rfl) (fwX1 rfl rfl rfl (Or.inl rfl)) dX1_describe_7 (by repeat (first | with_reducible assumption | (rw [rl_u_s]; done) | (rw [rl_u_s]; rfl) | rw [rl_u_n (by first | with_reducible assumption | omega)])) (Nat.le_of_ble_eq_true rfl) ?_
  try simp only [List.set_cons_zero, List.set_cons_succ]
  refine o_aload_n hC dX1_describe_10 (by rfl) ?_
  refine o_iload_n hC dX1_describe_11 (by rfl) ?_
  refine o_putf hC (fX1_18 hC rfl) (fwX1 rfl rfl rfl (Or.inl rfl)) dX1_describe_12 (by repeat (first | with_reducible assumption | (rw [rl_u_s]; done) | (rw [rl_u_s]; rfl) | rw [rl_u_n (by first | with_reducible assumption | omega)])) (Nat.le_of_ble_eq_true rfl) ?_
  try simp only [List.set_cons_zero, List.set_cons_succ]
  refine o_aload_n hC dX1_describe_15 (by rfl) ?_
  refine o_iload hC dX1_describe_16 (by rfl) ?_
  refine o_putf hC (fX1_21 hC rfl) (fwX1 rfl rfl rfl (Or.inl rfl)) dX1_describe_18 (by repeat (first | with_reducible assumption | (rw [rl_u_s]; done) | (rw [rl_u_s]; rfl) | rw [rl_u_n (by first | with_reducible assumption | omega)])) (Nat.le_of_ble_eq_true rfl) ?_
  try simp only [List.set_cons_zero, List.set_cons_succ]
  refine o_aload_n hC dX1_describe_21 (by rfl) ?_
  refine o_iconst (v := nI 0) hC dX1_describe_22 (by decide +kernel) ?_
  refine o_putf hC (fX1_24 hC rfl) (fwX1 rfl rfl rfl (Or.inl rfl)) dX1_describe_23 (by repeat (first | with_reducible assumption | (rw [rl_u_s]; done) | (rw [rl_u_s]; rfl) | rw [rl_u_n (by first | with_reducible assumption | omega)])) (Nat.le_of_ble_eq_true rfl) ?_
  try simp only [List.set_cons_zero, List.set_cons_succ]
  refine o_vret hC hB dX1_describe_26 (Nat.le_of_ble_eq_true rfl) (Nat.le_of_ble_eq_true rfl) ?_
  refine ⟨rfl, rfl, by repeat (first | with_reducible assumption | (rw [rl_u_s]; done) | (rw [rl_u_s]; rfl) | rw [rl_u_n (by first | with_reducible assumption | omega)]), ?_⟩
  intro q hq
  repeat (first | rfl | rw [rl_u_n hq])

set_option maxHeartbeats 4000000 in
set_option maxRecDepth 100000 in
theorem ct_X1_detail (l : Launch) (D : va_G) (ids : Nat → ClassId) (H0 : Heap) (h : rl_H) (n : Nat) (a : Nat) (op wd fi se co ot ki nu sta : Int32) (c2 t2 k2 u2 : Int32) (h1 : h a = some (nd_v op wd fi se co ot ki nu sta)) : rl_Met l (rl_e D ids H0) rl_BW rl_Ns yX1_detail cX1_detail 5 none ({ frames := 0, cells := 0, slots := 0, locals := 0 }) [.ref a, .int c2, .int t2, .int k2, .int u2] h n (fun v h' n' => v = none ∧ n' = n ∧ h' a = some (nd_v op wd fi se c2 t2 k2 u2 sta) ∧ ∀ q : Nat, q ≠ a → h' q = h q) := by
  refine rl_Met.of (by decide +kernel) (Nat.le_of_ble_eq_true rfl) ?_
  intro X hC hB
  show rl_G X (rl_e D ids H0) 0 [some (.ref a), some (.int c2), some (.int t2), some (.int k2), some (.int u2)] [] h n 0 0
  refine o_aload_n hC dX1_detail_0 (by rfl) ?_
  refine o_iload_n hC dX1_detail_1 (by rfl) ?_
  refine o_putf hC (fX1_27 hC rfl) (fwX1 rfl rfl rfl (Or.inl rfl)) dX1_detail_2 (by repeat (first | with_reducible assumption | (rw [rl_u_s]; done) | (rw [rl_u_s]; rfl) | rw [rl_u_n (by first | with_reducible assumption | omega)])) (Nat.le_of_ble_eq_true rfl) ?_
  try simp only [List.set_cons_zero, List.set_cons_succ]
  refine o_aload_n hC dX1_detail_5 (by rfl) ?_
  refine o_iload_n hC dX1_detail_6 (by rfl) ?_
  refine o_putf hC (fX1_30 hC rfl) (fwX1 rfl rfl rfl (Or.inl rfl)) dX1_detail_7 (by repeat (first | with_reducible assumption | (rw [rl_u_s]; done) | (rw [rl_u_s]; rfl) | rw [rl_u_n (by first | with_reducible assumption | omega)])) (Nat.le_of_ble_eq_true rfl) ?_
  try simp only [List.set_cons_zero, List.set_cons_succ]
  refine o_aload_n hC dX1_detail_10 (by rfl) ?_
  refine o_iload_n hC dX1_detail_11 (by rfl) ?_
  refine o_putf hC (fX1_33 hC rfl) (fwX1 rfl rfl rfl (Or.inl rfl)) dX1_detail_12 (by repeat (first | with_reducible assumption | (rw [rl_u_s]; done) | (rw [rl_u_s]; rfl) | rw [rl_u_n (by first | with_reducible assumption | omega)])) (Nat.le_of_ble_eq_true rfl) ?_
  try simp only [List.set_cons_zero, List.set_cons_succ]
  refine o_aload_n hC dX1_detail_15 (by rfl) ?_
  refine o_iload hC dX1_detail_16 (by rfl) ?_
  refine o_putf hC (fX1_36 hC rfl) (fwX1 rfl rfl rfl (Or.inl rfl)) dX1_detail_18 (by repeat (first | with_reducible assumption | (rw [rl_u_s]; done) | (rw [rl_u_s]; rfl) | rw [rl_u_n (by first | with_reducible assumption | omega)])) (Nat.le_of_ble_eq_true rfl) ?_
  try simp only [List.set_cons_zero, List.set_cons_succ]
  refine o_vret hC hB dX1_detail_21 (Nat.le_of_ble_eq_true rfl) (Nat.le_of_ble_eq_true rfl) ?_
  refine ⟨rfl, rfl, by repeat (first | with_reducible assumption | (rw [rl_u_s]; done) | (rw [rl_u_s]; rfl) | rw [rl_u_n (by first | with_reducible assumption | omega)]), ?_⟩
  intro q hq
  repeat (first | rfl | rw [rl_u_n hq])

/-- at s: widths s + 1, sourceOf s + 2, numbers s + 3, its rows from s + 4 on -/
def so_at (ids : Nat → ClassId) (h : rl_H) (s : Nat) (wf sf : Nat → Int32) (cf : Nat → Nat → Int32) (sc rc : Nat) : Prop :=
  h s = some (.inr (3, [.ref (s + 1), .ref (s + 2), .ref (s + 3), .int (nI sc), .int (nI rc)])) ∧ h (s + 1) = some (.inl (ids 0, 4, .inl wf)) ∧ h (s + 2) = some (.inl (ids 0, 36, .inl sf)) ∧ h (s + 3) = some (.inl (ids 7, 36, .inr (.inr (.inr (.inr (fun j => if j < 36 then some (s + 4 + j) else none)))))) ∧ (∀ r, r < 36 → h (s + 4 + r) = some (.inl (ids 0, 6, .inl (cf r)))) ∧ sc ≤ 4 ∧ rc ≤ 36
theorem so_at.kept {ids : Nat → ClassId} {h h' : rl_H} {s a b : Nat} {wf sf : Nat → Int32} {cf : Nat → Nat → Int32} {sc rc : Nat} (H : so_at ids h s wf sf cf sc rc) (hf : rl_fr h h' a b) (hd : s + 40 ≤ a ∨ b ≤ s) : so_at ids h' s wf sf cf sc rc :=
  ⟨by rw [hf s (by omega)]; exact H.1, by rw [hf (s + 1) (by omega)]; exact H.2.1, by rw [hf (s + 2) (by omega)]; exact H.2.2.1, by rw [hf (s + 3) (by omega)]; exact H.2.2.2.1, fun r hr => by rw [hf (s + 4 + r) (by omega)]; exact H.2.2.2.2.1 r hr, H.2.2.2.2.2⟩

set_option maxHeartbeats 4000000 in
set_option maxRecDepth 100000 in
theorem ct_X3_init (l : Launch) (D : va_G) (ids : Nat → ClassId) (H0 : Heap) (h : rl_H) (n : Nat) (s : Nat) (h1 : h s = some (.inr (3, [.null, .null, .null, .int (nI 0), .int (nI 0)]))) (hn : n = s + 1) : rl_Met l (rl_e D ids H0) rl_BW rl_Ns yX3_init cX3_init 1 none ({ frames := 1, cells := 39, slots := 292, locals := 16 }) [.ref s] h n (fun v h' n' => v = none ∧ n' = s + 40 ∧ so_at ids h' s (fun _ => 0) (fun _ => 0) (fun _ _ => 0) 0 0 ∧ rl_fr h h' s (s + 40)) := by
  subst hn
  refine rl_Met.of (by decide +kernel) (Nat.le_of_ble_eq_true rfl) ?_
  intro X hC hB
  show rl_G X (rl_e D ids H0) 0 [some (.ref s)] [] h (s + 1) 0 0
  refine o_aload_n hC dX3_init_0 (by rfl) ?_
  refine o_objInit hC (by exact hB.2.2.2.2.2) mX3_3 w_objI w_objC dX3_init_1 (by rw [hB.2.1]; first | exact Nat.le_of_ble_eq_true rfl | (dsimp only; omega)) (by rw [hB.2.1]; first | exact Nat.le_of_ble_eq_true rfl | (dsimp only; omega)) ?_
  refine o_aload_n hC dX3_init_4 (by rfl) ?_
  refine o_iconst (v := nI 4) hC dX3_init_5 (by decide +kernel) ?_
  refine o_newa (atype := .int) (ty := .int) (t0 := 0) (N' := 4) (x := .inl (fun _ => 0)) hC rfl (fun C q => by cases q) aw_int rfl rfl (nI_pos (by decide)) (nI_clamp (by decide)) (by decide) (by rw [hB.2.1]; first | exact Nat.le_of_ble_eq_true rfl | (dsimp only; omega)) (by rw [hB.2.1]; first | exact Nat.le_of_ble_eq_true rfl | (dsimp only; omega)) dX3_init_6 ?_
  refine o_putf hC (fX3_9 hC rfl) (fwX3 rfl rfl rfl (Or.inr ⟨rfl, hB.2.2.2.2.1, rfl⟩)) dX3_init_8 (by repeat (first | with_reducible assumption | (rw [rl_u_s]; done) | (rw [rl_u_s]; rfl) | rw [rl_u_n (by first | with_reducible assumption | omega)] | rw [rl_us_n (by omega)])) (Nat.le_of_ble_eq_true rfl) ?_
  try simp only [List.set_cons_zero, List.set_cons_succ]
  refine o_aload_n hC dX3_init_11 (by rfl) ?_
  refine o_bipush (v := nI 36) hC dX3_init_12 (by decide +kernel) ?_
  refine o_newa (atype := .int) (ty := .int) (t0 := 0) (N' := 36) (x := .inl (fun _ => 0)) hC rfl (fun C q => by cases q) aw_int rfl rfl (nI_pos (by decide)) (nI_clamp (by decide)) (by decide) (by rw [hB.2.1]; first | exact Nat.le_of_ble_eq_true rfl | (dsimp only; omega)) (by rw [hB.2.1]; first | exact Nat.le_of_ble_eq_true rfl | (dsimp only; omega)) dX3_init_14 ?_
  refine o_putf hC (fX3_15 hC rfl) (fwX3 rfl rfl rfl (Or.inr ⟨rfl, hB.2.2.2.2.1, rfl⟩)) dX3_init_16 (by repeat (first | with_reducible assumption | (rw [rl_u_s]; done) | (rw [rl_u_s]; rfl) | rw [rl_u_n (by first | with_reducible assumption | omega)] | rw [rl_us_n (by omega)])) (Nat.le_of_ble_eq_true rfl) ?_
  try simp only [List.set_cons_zero, List.set_cons_succ]
  refine o_aload_n hC dX3_init_19 (by rfl) ?_
  refine o_bipush (v := nI 36) hC dX3_init_20 (by decide +kernel) ?_
  refine o_bipush (v := nI 6) hC dX3_init_22 (by decide +kernel) ?_
  refine o_mna (t0 := 7) (t1 := 0) (ty := .int) (N' := 36) (K' := 6) (z := (6, .inl (fun _ => 0))) hC kX3_18 aoArrI aw_int rfl rfl (fun C q => by cases q) (nI_pos (by decide)) (nI_pos (by decide)) (nI_clamp (by decide)) (nI_clamp (by decide)) (by decide) (by decide) (by decide) rfl rfl (by rw [hB.2.1]; first | exact Nat.le_of_ble_eq_true rfl | (dsimp only; omega)) (by rw [hB.2.1]; first | exact Nat.le_of_ble_eq_true rfl | (dsimp only; omega)) (fun c => ?_) dX3_init_24 ?_
  · rw [vp_cell_i]
    exact arrV_new c 6 (.int 0)
  refine o_putf hC (fX3_20 hC rfl) (fwX3 rfl rfl rfl (Or.inr ⟨rfl, hB.2.2.2.2.1, rfl⟩)) dX3_init_28 (by repeat (first | with_reducible assumption | (rw [rl_u_s]; done) | (rw [rl_u_s]; rfl) | rw [rl_u_n (by first | with_reducible assumption | omega)] | rw [rl_us_n (by omega)])) (Nat.le_of_ble_eq_true rfl) ?_
  try simp only [List.set_cons_zero, List.set_cons_succ]
  refine o_vret hC hB dX3_init_31 (Nat.le_of_ble_eq_true rfl) (Nat.le_of_ble_eq_true rfl) ?_
  refine ⟨rfl, rfl, ⟨by repeat (first | with_reducible assumption | (rw [rl_u_s]; done) | (rw [rl_u_s]; rfl) | rw [rl_u_n (by first | with_reducible assumption | omega)] | rw [rl_us_n (by omega)]), by repeat (first | with_reducible assumption | (rw [rl_u_s]; done) | (rw [rl_u_s]; rfl) | rw [rl_u_n (by first | with_reducible assumption | omega)] | rw [rl_us_n (by omega)]), by repeat (first | with_reducible assumption | (rw [rl_u_s]; done) | (rw [rl_u_s]; rfl) | rw [rl_u_n (by first | with_reducible assumption | omega)] | rw [rl_us_n (by omega)]), by repeat (first | with_reducible assumption | (rw [rl_u_s]; done) | (rw [rl_u_s]; rfl) | rw [rl_u_n (by first | with_reducible assumption | omega)] | rw [rl_us_n (by omega)]), fun r hr => ?_, by omega, by omega⟩, ?_⟩
  · rw [rl_u_n (by omega), rl_us_s (by omega)]
  · intro q hq
    repeat (first | rfl | rw [rl_u_n (by omega)] | rw [rl_us_n (by omega)])

set_option maxHeartbeats 4000000 in
set_option maxRecDepth 100000 in
theorem ct_X3_isSource (l : Launch) (D : va_G) (ids : Nat → ClassId) (H0 : Heap) (h : rl_H) (n : Nat) (s : Nat) (wf sf : Nat → Int32) (cf : Nat → Nat → Int32) (sc rc : Nat) (x : Int32) (hs : so_at ids h s wf sf cf sc rc) : rl_Met l (rl_e D ids H0) rl_BW rl_Ns yX3_isSource cX3_isSource 2 (some .boolean) ({ frames := 0, cells := 0, slots := 0, locals := 0 }) [.ref s, .int x] h n (fun v h' n' => v = some (.int (if x < 0 ∨ nI sc ≤ x then nI 0 else nI 1)) ∧ h' = h ∧ n' = n) := by
  obtain ⟨h1, h2, h3, h4, h5, hsc, hrc⟩ := hs
  refine rl_Met.of (by decide +kernel) (Nat.le_of_ble_eq_true rfl) ?_
  intro X hC hB
  show rl_G X (rl_e D ids H0) 0 [some (.ref s), some (.int x)] [] h n 0 0
  refine o_iload_n hC dX3_isSource_0 (by rfl) ?_
  refine o_if_lt (tgt := 16) hC dX3_isSource_1 (by decide) (fun c_1 => ?_) (fun c_1 => ?_)
  · refine o_iconst (v := nI 0) hC dX3_isSource_16 (by decide +kernel) ?_
    refine o_zret hC hB dX3_isSource_17 (by first | rfl | decide +kernel) (Nat.le_of_ble_eq_true rfl) (Nat.le_of_ble_eq_true rfl) ?_
    refine ⟨?_, rfl, rfl⟩
    first | rw [if_pos (Or.inl c_1)] | rw [if_pos (Or.inr c_9)] | rw [if_neg (fun q => q.elim c_1 c_9)]
  · refine o_iload_n hC dX3_isSource_4 (by rfl) ?_
    refine o_aload_n hC dX3_isSource_5 (by rfl) ?_
    refine o_getf hC (fX3_23 hC rfl) dX3_isSource_6 (by repeat (first | with_reducible assumption | (rw [rl_u_s]; done) | (rw [rl_u_s]; rfl) | rw [rl_u_n (by first | with_reducible assumption | omega)])) (by first | rfl | with_reducible assumption) ?_
    refine o_icmp_ge (tgt := 16) hC dX3_isSource_9 (by decide) (fun c_9 => ?_) (fun c_9 => ?_)
    · refine o_iconst (v := nI 0) hC dX3_isSource_16 (by decide +kernel) ?_
      refine o_zret hC hB dX3_isSource_17 (by first | rfl | decide +kernel) (Nat.le_of_ble_eq_true rfl) (Nat.le_of_ble_eq_true rfl) ?_
      refine ⟨?_, rfl, rfl⟩
      first | rw [if_pos (Or.inl c_1)] | rw [if_pos (Or.inr c_9)] | rw [if_neg (fun q => q.elim c_1 c_9)]
    · refine o_iconst (v := nI 1) hC dX3_isSource_12 (by decide +kernel) ?_
      refine o_goto (tgt := 17) hC dX3_isSource_13 (by decide) ?_
      refine o_zret hC hB dX3_isSource_17 (by first | rfl | decide +kernel) (Nat.le_of_ble_eq_true rfl) (Nat.le_of_ble_eq_true rfl) ?_
      refine ⟨?_, rfl, rfl⟩
      first | rw [if_pos (Or.inl c_1)] | rw [if_pos (Or.inr c_9)] | rw [if_neg (fun q => q.elim c_1 c_9)]

set_option maxHeartbeats 4000000 in
set_option maxRecDepth 100000 in
theorem ct_X3_isRow (l : Launch) (D : va_G) (ids : Nat → ClassId) (H0 : Heap) (h : rl_H) (n : Nat) (s : Nat) (wf sf : Nat → Int32) (cf : Nat → Nat → Int32) (sc rc : Nat) (x : Int32) (hs : so_at ids h s wf sf cf sc rc) : rl_Met l (rl_e D ids H0) rl_BW rl_Ns yX3_isRow cX3_isRow 2 (some .boolean) ({ frames := 0, cells := 0, slots := 0, locals := 0 }) [.ref s, .int x] h n (fun v h' n' => v = some (.int (if x < 0 ∨ nI rc ≤ x then nI 0 else nI 1)) ∧ h' = h ∧ n' = n) := by
  obtain ⟨h1, h2, h3, h4, h5, hsc, hrc⟩ := hs
  refine rl_Met.of (by decide +kernel) (Nat.le_of_ble_eq_true rfl) ?_
  intro X hC hB
  show rl_G X (rl_e D ids H0) 0 [some (.ref s), some (.int x)] [] h n 0 0
  refine o_iload_n hC dX3_isRow_0 (by rfl) ?_
  refine o_if_lt (tgt := 16) hC dX3_isRow_1 (by decide) (fun c_1 => ?_) (fun c_1 => ?_)
  · refine o_iconst (v := nI 0) hC dX3_isRow_16 (by decide +kernel) ?_
    refine o_zret hC hB dX3_isRow_17 (by first | rfl | decide +kernel) (Nat.le_of_ble_eq_true rfl) (Nat.le_of_ble_eq_true rfl) ?_
    refine ⟨?_, rfl, rfl⟩
    first | rw [if_pos (Or.inl c_1)] | rw [if_pos (Or.inr c_9)] | rw [if_neg (fun q => q.elim c_1 c_9)]
  · refine o_iload_n hC dX3_isRow_4 (by rfl) ?_
    refine o_aload_n hC dX3_isRow_5 (by rfl) ?_
    refine o_getf hC (fX3_27 hC rfl) dX3_isRow_6 (by repeat (first | with_reducible assumption | (rw [rl_u_s]; done) | (rw [rl_u_s]; rfl) | rw [rl_u_n (by first | with_reducible assumption | omega)])) (by first | rfl | with_reducible assumption) ?_
    refine o_icmp_ge (tgt := 16) hC dX3_isRow_9 (by decide) (fun c_9 => ?_) (fun c_9 => ?_)
    · refine o_iconst (v := nI 0) hC dX3_isRow_16 (by decide +kernel) ?_
      refine o_zret hC hB dX3_isRow_17 (by first | rfl | decide +kernel) (Nat.le_of_ble_eq_true rfl) (Nat.le_of_ble_eq_true rfl) ?_
      refine ⟨?_, rfl, rfl⟩
      first | rw [if_pos (Or.inl c_1)] | rw [if_pos (Or.inr c_9)] | rw [if_neg (fun q => q.elim c_1 c_9)]
    · refine o_iconst (v := nI 1) hC dX3_isRow_12 (by decide +kernel) ?_
      refine o_goto (tgt := 17) hC dX3_isRow_13 (by decide) ?_
      refine o_zret hC hB dX3_isRow_17 (by first | rfl | decide +kernel) (Nat.le_of_ble_eq_true rfl) (Nat.le_of_ble_eq_true rfl) ?_
      refine ⟨?_, rfl, rfl⟩
      first | rw [if_pos (Or.inl c_1)] | rw [if_pos (Or.inr c_9)] | rw [if_neg (fun q => q.elim c_1 c_9)]

set_option maxHeartbeats 4000000 in
set_option maxRecDepth 100000 in
theorem ct_X3_addSource (l : Launch) (D : va_G) (ids : Nat → ClassId) (H0 : Heap) (h : rl_H) (n : Nat) (s : Nat) (wf sf : Nat → Int32) (cf : Nat → Nat → Int32) (sc rc : Nat) (x : Int32) (hs : so_at ids h s wf sf cf sc rc) (hlt : sc < 4) : rl_Met l (rl_e D ids H0) rl_BW rl_Ns yX3_addSource cX3_addSource 2 (some .int) ({ frames := 0, cells := 0, slots := 0, locals := 0 }) [.ref s, .int x] h n (fun v h' n' => v = some (.int (nI sc)) ∧ n' = n ∧ so_at ids h' s (upd wf sc x) sf cf (sc + 1) rc ∧ rl_fr h h' s (s + 2)) := by
  obtain ⟨h1, h2, h3, h4, h5, hsc, hrc⟩ := hs
  refine rl_Met.of (by decide +kernel) (Nat.le_of_ble_eq_true rfl) ?_
  intro X hC hB
  show rl_G X (rl_e D ids H0) 0 [some (.ref s), some (.int x)] [] h n 0 0
  refine o_aload_n hC dX3_addSource_0 (by rfl) ?_
  refine o_getf hC (fX3_9 hC rfl) dX3_addSource_1 (by repeat (first | with_reducible assumption | (rw [rl_u_s]; done) | (rw [rl_u_s]; rfl) | rw [rl_u_n (by first | with_reducible assumption | omega)])) (by first | rfl | with_reducible assumption) ?_
  refine o_aload_n hC dX3_addSource_4 (by rfl) ?_
  refine o_getf hC (fX3_23 hC rfl) dX3_addSource_5 (by repeat (first | with_reducible assumption | (rw [rl_u_s]; done) | (rw [rl_u_s]; rfl) | rw [rl_u_n (by first | with_reducible assumption | omega)])) (by first | rfl | with_reducible assumption) ?_
  refine o_iload_n hC dX3_addSource_8 (by rfl) ?_
  refine o_iastN (t0 := 0) hC rfl dX3_addSource_9 (by repeat (first | with_reducible assumption | (rw [rl_u_s]; done) | (rw [rl_u_s]; rfl) | rw [rl_u_n (by first | with_reducible assumption | omega)])) (by omega) (by decide) ?_
  refine o_aload_n hC dX3_addSource_10 (by rfl) ?_
  refine o_dup hC dX3_addSource_11 rfl ?_
  refine o_getf hC (fX3_23 hC rfl) dX3_addSource_12 (by repeat (first | with_reducible assumption | (rw [rl_u_s]; done) | (rw [rl_u_s]; rfl) | rw [rl_u_n (by first | with_reducible assumption | omega)])) (by first | rfl | with_reducible assumption) ?_
  refine o_dup_x1 hC dX3_addSource_15 rfl rfl ?_
  refine o_iconst (v := nI 1) hC dX3_addSource_16 (by decide +kernel) ?_
  refine o_iadd hC dX3_addSource_17 ?_
  rw [nI_add sc 1]
  refine o_putf hC (fX3_23 hC rfl) (fwX3 rfl rfl rfl (Or.inl rfl)) dX3_addSource_18 (by repeat (first | with_reducible assumption | (rw [rl_u_s]; done) | (rw [rl_u_s]; rfl) | rw [rl_u_n (by first | with_reducible assumption | omega)])) (Nat.le_of_ble_eq_true rfl) ?_
  try simp only [List.set_cons_zero, List.set_cons_succ]
  refine o_iret hC hB dX3_addSource_21 (Nat.le_of_ble_eq_true rfl) (Nat.le_of_ble_eq_true rfl) ?_
  refine ⟨rfl, rfl, ⟨by repeat (first | with_reducible assumption | (rw [rl_u_s]; done) | (rw [rl_u_s]; rfl) | rw [rl_u_n (by first | with_reducible assumption | omega)]), by repeat (first | with_reducible assumption | (rw [rl_u_s]; done) | (rw [rl_u_s]; rfl) | rw [rl_u_n (by first | with_reducible assumption | omega)]), by repeat (first | with_reducible assumption | (rw [rl_u_s]; done) | (rw [rl_u_s]; rfl) | rw [rl_u_n (by first | with_reducible assumption | omega)]), by repeat (first | with_reducible assumption | (rw [rl_u_s]; done) | (rw [rl_u_s]; rfl) | rw [rl_u_n (by first | with_reducible assumption | omega)]), fun r hr => ?_, by omega, hrc⟩, ?_⟩
  · rw [rl_u_n (by omega), rl_u_n (by omega)]
    exact h5 r hr
  · intro q hq
    repeat (first | rfl | rw [rl_u_n (by omega)])

set_option maxHeartbeats 4000000 in
set_option maxRecDepth 100000 in
theorem ct_X3_forgetAll (l : Launch) (D : va_G) (ids : Nat → ClassId) (H0 : Heap) (h : rl_H) (n : Nat) (s : Nat) (wf sf : Nat → Int32) (cf : Nat → Nat → Int32) (sc rc : Nat) (hs : so_at ids h s wf sf cf sc rc) : rl_Met l (rl_e D ids H0) rl_BW rl_Ns yX3_forgetAll cX3_forgetAll 1 none ({ frames := 0, cells := 0, slots := 0, locals := 0 }) [.ref s] h n (fun v h' n' => v = none ∧ n' = n ∧ so_at ids h' s wf sf cf 0 0 ∧ rl_fr h h' s (s + 1)) := by
  obtain ⟨h1, h2, h3, h4, h5, hsc, hrc⟩ := hs
  refine rl_Met.of (by decide +kernel) (Nat.le_of_ble_eq_true rfl) ?_
  intro X hC hB
  show rl_G X (rl_e D ids H0) 0 [some (.ref s)] [] h n 0 0
  refine o_aload_n hC dX3_forgetAll_0 (by rfl) ?_
  refine o_iconst (v := nI 0) hC dX3_forgetAll_1 (by decide +kernel) ?_
  refine o_putf hC (fX3_23 hC rfl) (fwX3 rfl rfl rfl (Or.inl rfl)) dX3_forgetAll_2 (by repeat (first | with_reducible assumption | (rw [rl_u_s]; done) | (rw [rl_u_s]; rfl) | rw [rl_u_n (by first | with_reducible assumption | omega)])) (Nat.le_of_ble_eq_true rfl) ?_
  try simp only [List.set_cons_zero, List.set_cons_succ]
  refine o_aload_n hC dX3_forgetAll_5 (by rfl) ?_
  refine o_iconst (v := nI 0) hC dX3_forgetAll_6 (by decide +kernel) ?_
  refine o_putf hC (fX3_27 hC rfl) (fwX3 rfl rfl rfl (Or.inl rfl)) dX3_forgetAll_7 (by repeat (first | with_reducible assumption | (rw [rl_u_s]; done) | (rw [rl_u_s]; rfl) | rw [rl_u_n (by first | with_reducible assumption | omega)])) (Nat.le_of_ble_eq_true rfl) ?_
  try simp only [List.set_cons_zero, List.set_cons_succ]
  refine o_vret hC hB dX3_forgetAll_10 (Nat.le_of_ble_eq_true rfl) (Nat.le_of_ble_eq_true rfl) ?_
  refine ⟨rfl, rfl, ⟨by repeat (first | with_reducible assumption | (rw [rl_u_s]; done) | (rw [rl_u_s]; rfl) | rw [rl_u_n (by first | with_reducible assumption | omega)]), by repeat (first | with_reducible assumption | (rw [rl_u_s]; done) | (rw [rl_u_s]; rfl) | rw [rl_u_n (by first | with_reducible assumption | omega)]), by repeat (first | with_reducible assumption | (rw [rl_u_s]; done) | (rw [rl_u_s]; rfl) | rw [rl_u_n (by first | with_reducible assumption | omega)]), by repeat (first | with_reducible assumption | (rw [rl_u_s]; done) | (rw [rl_u_s]; rfl) | rw [rl_u_n (by first | with_reducible assumption | omega)]), fun r hr => ?_, by omega, by omega⟩, ?_⟩
  · rw [rl_u_n (by omega), rl_u_n (by omega)]
    exact h5 r hr
  · intro q hq
    repeat (first | rfl | rw [rl_u_n (by omega)])

set_option maxHeartbeats 4000000 in
set_option maxRecDepth 100000 in
theorem ct_X3_addRow (l : Launch) (D : va_G) (ids : Nat → ClassId) (H0 : Heap) (h : rl_H) (n : Nat) (s : Nat) (wf sf : Nat → Int32) (cf : Nat → Nat → Int32) (sc rc : Nat) (x a b c d : Int32) (hs : so_at ids h s wf sf cf sc rc) (hlt : rc < 36) : rl_Met l (rl_e D ids H0) rl_BW rl_Ns yX3_addRow cX3_addRow 7 (some .int) ({ frames := 0, cells := 0, slots := 0, locals := 0 }) [.ref s, .int x, .int a, .int b, .int c, .int d] h n (fun v h' n' => v = some (.int (nI rc)) ∧ n' = n ∧ so_at ids h' s wf (upd sf rc x) (fun r => if r = rc then upd (upd (upd (upd (cf rc) 0 a) 1 b) 2 c) 3 d else cf r) sc (rc + 1) ∧ rl_fr h h' s (s + 40)) := by
  obtain ⟨h1, h2, h3, h4, h5, hsc, hrc⟩ := hs
  refine rl_Met.of (by decide +kernel) (Nat.le_of_ble_eq_true rfl) ?_
  intro X hC hB
  show rl_G X (rl_e D ids H0) 0 [some (.ref s), some (.int x), some (.int a), some (.int b), some (.int c), some (.int d), none] [] h n 0 0
  refine o_aload_n hC dX3_addRow_0 (by rfl) ?_
  refine o_getf hC (fX3_20 hC rfl) dX3_addRow_1 (by repeat (first | with_reducible assumption | (rw [rl_u_s]; done) | (rw [rl_u_s]; rfl) | rw [rl_u_n (by first | with_reducible assumption | omega)])) (by first | rfl | with_reducible assumption) ?_
  refine o_aload_n hC dX3_addRow_4 (by rfl) ?_
  refine o_getf hC (fX3_27 hC rfl) dX3_addRow_5 (by repeat (first | with_reducible assumption | (rw [rl_u_s]; done) | (rw [rl_u_s]; rfl) | rw [rl_u_n (by first | with_reducible assumption | omega)])) (by first | rfl | with_reducible assumption) ?_
  refine o_aaldA (t0 := 7) hC rfl dX3_addRow_8 (by repeat (first | with_reducible assumption | (rw [rl_u_s]; done) | (rw [rl_u_s]; rfl) | rw [rl_u_n (by first | with_reducible assumption | omega)])) (by omega) (by decide) ?_
  rw [if_pos (by omega)]
  dsimp only [va_rf]
  have h6 := h5 rc (by omega)
  refine o_astore hC dX3_addRow_9 (Nat.le_of_ble_eq_true rfl) ?_
  refine o_aload hC dX3_addRow_11 (by rfl) ?_
  refine o_iconst (v := nI 0) hC dX3_addRow_13 (by decide +kernel) ?_
  refine o_iload_n hC dX3_addRow_14 (by rfl) ?_
  refine o_iastN (t0 := 0) hC rfl dX3_addRow_15 (by repeat (first | with_reducible assumption | (rw [rl_u_s]; done) | (rw [rl_u_s]; rfl) | rw [rl_u_n (by first | with_reducible assumption | omega)])) (by omega) (by decide) ?_
  refine o_aload hC dX3_addRow_16 (by rfl) ?_
  refine o_iconst (v := nI 1) hC dX3_addRow_18 (by decide +kernel) ?_
  refine o_iload_n hC dX3_addRow_19 (by rfl) ?_
  refine o_iastN (t0 := 0) hC rfl dX3_addRow_20 (by repeat (first | with_reducible assumption | (rw [rl_u_s]; done) | (rw [rl_u_s]; rfl) | rw [rl_u_n (by first | with_reducible assumption | omega)])) (by omega) (by decide) ?_
  refine o_aload hC dX3_addRow_21 (by rfl) ?_
  refine o_iconst (v := nI 2) hC dX3_addRow_23 (by decide +kernel) ?_
  refine o_iload hC dX3_addRow_24 (by rfl) ?_
  refine o_iastN (t0 := 0) hC rfl dX3_addRow_26 (by repeat (first | with_reducible assumption | (rw [rl_u_s]; done) | (rw [rl_u_s]; rfl) | rw [rl_u_n (by first | with_reducible assumption | omega)])) (by omega) (by decide) ?_
  refine o_aload hC dX3_addRow_27 (by rfl) ?_
  refine o_iconst (v := nI 3) hC dX3_addRow_29 (by decide +kernel) ?_
  refine o_iload hC dX3_addRow_30 (by rfl) ?_
  refine o_iastN (t0 := 0) hC rfl dX3_addRow_32 (by repeat (first | with_reducible assumption | (rw [rl_u_s]; done) | (rw [rl_u_s]; rfl) | rw [rl_u_n (by first | with_reducible assumption | omega)])) (by omega) (by decide) ?_
  refine o_aload_n hC dX3_addRow_33 (by rfl) ?_
  refine o_getf hC (fX3_15 hC rfl) dX3_addRow_34 (by repeat (first | with_reducible assumption | (rw [rl_u_s]; done) | (rw [rl_u_s]; rfl) | rw [rl_u_n (by first | with_reducible assumption | omega)])) (by first | rfl | with_reducible assumption) ?_
  refine o_aload_n hC dX3_addRow_37 (by rfl) ?_
  refine o_getf hC (fX3_27 hC rfl) dX3_addRow_38 (by repeat (first | with_reducible assumption | (rw [rl_u_s]; done) | (rw [rl_u_s]; rfl) | rw [rl_u_n (by first | with_reducible assumption | omega)])) (by first | rfl | with_reducible assumption) ?_
  refine o_iload_n hC dX3_addRow_41 (by rfl) ?_
  refine o_iastN (t0 := 0) hC rfl dX3_addRow_42 (by repeat (first | with_reducible assumption | (rw [rl_u_s]; done) | (rw [rl_u_s]; rfl) | rw [rl_u_n (by first | with_reducible assumption | omega)])) (by omega) (by decide) ?_
  refine o_aload_n hC dX3_addRow_43 (by rfl) ?_
  refine o_dup hC dX3_addRow_44 rfl ?_
  refine o_getf hC (fX3_27 hC rfl) dX3_addRow_45 (by repeat (first | with_reducible assumption | (rw [rl_u_s]; done) | (rw [rl_u_s]; rfl) | rw [rl_u_n (by first | with_reducible assumption | omega)])) (by first | rfl | with_reducible assumption) ?_
  refine o_dup_x1 hC dX3_addRow_48 rfl rfl ?_
  refine o_iconst (v := nI 1) hC dX3_addRow_49 (by decide +kernel) ?_
  refine o_iadd hC dX3_addRow_50 ?_
  rw [nI_add rc 1]
  refine o_putf hC (fX3_27 hC rfl) (fwX3 rfl rfl rfl (Or.inl rfl)) dX3_addRow_51 (by repeat (first | with_reducible assumption | (rw [rl_u_s]; done) | (rw [rl_u_s]; rfl) | rw [rl_u_n (by first | with_reducible assumption | omega)])) (Nat.le_of_ble_eq_true rfl) ?_
  try simp only [List.set_cons_zero, List.set_cons_succ]
  refine o_iret hC hB dX3_addRow_54 (Nat.le_of_ble_eq_true rfl) (Nat.le_of_ble_eq_true rfl) ?_
  refine ⟨rfl, rfl, ⟨by repeat (first | with_reducible assumption | (rw [rl_u_s]; done) | (rw [rl_u_s]; rfl) | rw [rl_u_n (by first | with_reducible assumption | omega)]), by repeat (first | with_reducible assumption | (rw [rl_u_s]; done) | (rw [rl_u_s]; rfl) | rw [rl_u_n (by first | with_reducible assumption | omega)]), by repeat (first | with_reducible assumption | (rw [rl_u_s]; done) | (rw [rl_u_s]; rfl) | rw [rl_u_n (by first | with_reducible assumption | omega)]), by repeat (first | with_reducible assumption | (rw [rl_u_s]; done) | (rw [rl_u_s]; rfl) | rw [rl_u_n (by first | with_reducible assumption | omega)]), fun r hr => ?_, hsc, by omega⟩, ?_⟩
  · dsimp only
    by_cases e : r = rc
    · subst e
      rw [if_pos rfl]
      repeat (first | with_reducible assumption | (rw [rl_u_s]; done) | (rw [rl_u_s]; rfl) | rw [rl_u_n (by first | with_reducible assumption | omega)])
    · rw [if_neg e]
      have h7 := h5 r hr
      repeat (first | with_reducible assumption | (rw [rl_u_s]; done) | (rw [rl_u_s]; rfl) | rw [rl_u_n (by first | with_reducible assumption | omega)])
  · intro q hq
    repeat (first | rfl | rw [rl_u_n (by omega)])
