/-! RowLineage$Tuple: at t, its cells at t + 1, its Ways at t + 2 -/
def tp_at (ids : Nat → ClassId) (h : rl_H) (t : Nat) (c : Nat → Int32) (f g : Nat → Int64) (k : Nat) : Prop :=
  h t = some (.inr (5, [.ref (t + 1), .ref (t + 2)])) ∧ h (t + 1) = some (.inl (ids 0, 6, .inl c)) ∧ ws_at ids h (t + 2) f g k
theorem tp_at.kept {ids : Nat → ClassId} {h h' : rl_H} {t a b : Nat} {c : Nat → Int32} {f g : Nat → Int64} {k : Nat} (H : tp_at ids h t c f g k) (hf : rl_fr h h' a b) (hd : t + 5 ≤ a ∨ b ≤ t) : tp_at ids h' t c f g k :=
  ⟨by rw [hf t (by omega)]; exact H.1, by rw [hf (t + 1) (by omega)]; exact H.2.1, H.2.2.kept hf (by omega)⟩

set_option maxHeartbeats 4000000 in
set_option maxRecDepth 100000 in
theorem ct_X5_init (l : Launch) (D : va_G) (ids : Nat → ClassId) (H0 : Heap) (h : rl_H) (n : Nat) (t : Nat) (h1 : h t = some (.inr (5, [.null, .null]))) (hn : n = t + 1) : rl_Met l (rl_e D ids H0) rl_BW rl_Ns yX5_init cX5_init 1 none ({ frames := 2, cells := 4, slots := 33, locals := 36 }) [.ref t] h n (fun v h' n' => v = none ∧ n' = t + 5 ∧ tp_at ids h' t (fun _ => 0) (fun _ => 0) (fun _ => 0) 0 ∧ rl_fr h h' t (t + 5)) := by
  subst hn
  refine rl_Met.of (by decide +kernel) (Nat.le_of_ble_eq_true rfl) ?_
  intro X hC hB
  show rl_G X (rl_e D ids H0) 0 [some (.ref t)] [] h (t + 1) 0 0
  refine o_aload_n hC dX5_init_0 (by rfl) ?_
  refine o_objInit hC (by exact hB.2.2.2.2.2) mX5_3 w_objI w_objC dX5_init_1 (by rw [hB.2.1]; first | exact Nat.le_of_ble_eq_true rfl | (dsimp only; omega)) (by rw [hB.2.1]; first | exact Nat.le_of_ble_eq_true rfl | (dsimp only; omega)) ?_
  refine o_aload_n hC dX5_init_4 (by rfl) ?_
  refine o_bipush (v := nI 6) hC dX5_init_5 (by decide +kernel) ?_
  refine o_newa (atype := .int) (ty := .int) (t0 := 0) (N' := 6) (x := .inl (fun _ => 0)) hC rfl (fun C q => by cases q) aw_int rfl rfl (nI_pos (by decide)) (nI_clamp (by decide)) (by decide) (by rw [hB.2.1]; first | exact Nat.le_of_ble_eq_true rfl | (dsimp only; omega)) (by rw [hB.2.1]; first | exact Nat.le_of_ble_eq_true rfl | (dsimp only; omega)) dX5_init_7 ?_
  refine o_putf hC (fX5_9 hC rfl) (fwX5 rfl rfl rfl (Or.inr ⟨rfl, hB.2.2.2.2.1, rfl⟩)) dX5_init_9 (by repeat (first | with_reducible assumption | (rw [rl_u_s]; done) | (rw [rl_u_s]; rfl) | rw [rl_u_n (by first | with_reducible assumption | omega)])) (Nat.le_of_ble_eq_true rfl) ?_
  try simp only [List.set_cons_zero, List.set_cons_succ]
  refine o_aload_n hC dX5_init_12 (by rfl) ?_
  refine o_new (ci := 6) (fs := [.null, .null, .int (nI 0)]) hC rfl uX6 tyX6 tyX6_ok kX5_15 iX6 zX6 (by decide +kernel) (by rw [hB.2.1]; first | exact Nat.le_of_ble_eq_true rfl | (dsimp only; omega)) (by rw [hB.2.1]; first | exact Nat.le_of_ble_eq_true rfl | (dsimp only; omega)) dX5_init_13 ?_
  refine o_dup hC dX5_init_16 rfl ?_
  refine o_callI0 hC rl_BW_good rl_Ns_nw (by exact hB.2.2.2.2.2) YX6_init rfl IX6_init (mX5_17 hC) (by rw [hB.1]; exact ct_X6_init l D ids H0 _ _ (t + 2) (by repeat (first | with_reducible assumption | (rw [rl_u_s]; done) | (rw [rl_u_s]; rfl) | rw [rl_u_n (by first | with_reducible assumption | omega)])) rfl) (Nat.le_of_ble_eq_true rfl) (by rw [hB.2.1]; first | exact Nat.le_of_ble_eq_true rfl | (dsimp only; omega)) (by rw [hB.2.1]; first | exact Nat.le_of_ble_eq_true rfl | (dsimp only; omega)) (by rw [hB.2.1]; first | exact Nat.le_of_ble_eq_true rfl | (dsimp only; omega)) (by rw [hB.2.1]; first | exact Nat.le_of_ble_eq_true rfl | (dsimp only; omega)) dX5_init_17 (fun v h_17 n_17 p_17 => ?_)
  obtain ⟨rfl, rfl, p1, p2⟩ := p_17
  have q0 : h_17 t = some (.inr (5, [.ref (t + 1), .null])) := by
    rw [p2 t (by omega)]
    repeat (first | with_reducible assumption | (rw [rl_u_s]; done) | (rw [rl_u_s]; rfl) | rw [rl_u_n (by first | with_reducible assumption | omega)])
  have q1 : h_17 (t + 1) = some (.inl (ids 0, 6, .inl (fun _ => 0))) := by
    rw [p2 (t + 1) (by omega)]
    repeat (first | with_reducible assumption | (rw [rl_u_s]; done) | (rw [rl_u_s]; rfl) | rw [rl_u_n (by first | with_reducible assumption | omega)])
  try dsimp only [Option.toList, List.cons_append, List.nil_append]
  refine o_putf hC (fX5_18 hC rfl) (fwX5 rfl rfl rfl (Or.inr ⟨rfl, hB.2.2.2.2.1, rfl⟩)) dX5_init_20 (by repeat (first | with_reducible assumption | (rw [rl_u_s]; done) | (rw [rl_u_s]; rfl) | rw [rl_u_n (by first | with_reducible assumption | omega)])) (Nat.le_of_ble_eq_true rfl) ?_
  try simp only [List.set_cons_zero, List.set_cons_succ]
  refine o_vret hC hB dX5_init_23 (Nat.le_of_ble_eq_true rfl) (Nat.le_of_ble_eq_true rfl) ?_
  refine ⟨rfl, rfl, ⟨by repeat (first | with_reducible assumption | (rw [rl_u_s]; done) | (rw [rl_u_s]; rfl) | rw [rl_u_n (by first | with_reducible assumption | omega)]), by repeat (first | with_reducible assumption | (rw [rl_u_s]; done) | (rw [rl_u_s]; rfl) | rw [rl_u_n (by first | with_reducible assumption | omega)]), p1.kept (a := t) (b := t + 1) (fun q hq => rl_u_n (by omega)) (by omega)⟩, ?_⟩
  intro q hq
  rw [rl_u_n (by omega), p2 q (by omega)]
  repeat (first | rfl | rw [rl_u_n (by omega)])

set_option maxHeartbeats 4000000 in
set_option maxRecDepth 100000 in
theorem ct_X5_become (l : Launch) (D : va_G) (ids : Nat → ClassId) (H0 : Heap) (h : rl_H) (n : Nat) (t ka k : Nat) (c kc : Nat → Int32) (f g : Nat → Int64) (ht : tp_at ids h t c f g k) (hk1 : h ka = some (.inl (ids 0, 6, .inl kc))) : rl_Met l (rl_e D ids H0) rl_BW rl_Ns yX5_become cX5_become 2 none ({ frames := 1, cells := 0, slots := 0, locals := 80 }) [.ref t, .ref ka] h n (fun v h' n' => v = none ∧ n' = n ∧ tp_at ids h' t (va_cpy kc c 0 0 6) f g 0 ∧ rl_fr h h' t (t + 5)) := by
  obtain ⟨h1, h2, hw⟩ := ht
  refine rl_Met.of (by decide +kernel) (Nat.le_of_ble_eq_true rfl) ?_
  intro X hC hB
  show rl_G X (rl_e D ids H0) 0 [some (.ref t), some (.ref ka)] [] h n 0 0
  refine o_aload_n hC dX5_become_0 (by rfl) ?_
  refine o_iconst (v := nI 0) hC dX5_become_1 (by decide +kernel) ?_
  refine o_aload_n hC dX5_become_2 (by rfl) ?_
  refine o_getf hC (fX5_9 hC rfl) dX5_become_3 (by repeat (first | with_reducible assumption | (rw [rl_u_s]; done) | (rw [rl_u_s]; rfl) | rw [rl_u_n (by first | with_reducible assumption | omega)])) (by first | rfl | with_reducible assumption) ?_
  refine o_iconst (v := nI 0) hC dX5_become_6 (by decide +kernel) ?_
  refine o_bipush (v := nI 6) hC dX5_become_7 (by decide +kernel) ?_
  refine o_copyi (t0 := 0) (sp := 0) (dp := 0) (k := 6) hC (by exact hB.2.2.2.2.2) acX5_22 w_acN w_acS w_acI rfl rfl dX5_become_9 hk1 h2 (by omega) (by omega) (by decide) (by decide) (by rw [hB.2.1]; first | exact Nat.le_of_ble_eq_true rfl | (dsimp only; omega)) (by rw [hB.2.1]; first | exact Nat.le_of_ble_eq_true rfl | (dsimp only; omega)) ?_
  have f1 : rl_fr h (rl_u h (t + 1) (.inl (ids 0, 6, .inl (va_cpy kc c 0 0 6)))) (t + 1) (t + 2) := fun q hq => rl_u_n (by omega)
  have w1 := hw.kept f1 (by omega)
  have r0 : (rl_u h (t + 1) (.inl (ids 0, 6, .inl (va_cpy kc c 0 0 6)))) t = some (.inr (5, [.ref (t + 1), .ref (t + 2)])) := by rw [rl_u_n (by omega)]; exact h1
  have r1 : (rl_u h (t + 1) (.inl (ids 0, 6, .inl (va_cpy kc c 0 0 6)))) (t + 1) = some (.inl (ids 0, 6, .inl (va_cpy kc c 0 0 6))) := rl_u_s
  generalize rl_u h (t + 1) (.inl (ids 0, 6, .inl (va_cpy kc c 0 0 6))) = hh at f1 w1 r0 r1 ⊢
  refine o_aload_n hC dX5_become_12 (by rfl) ?_
  refine o_getf hC (fX5_18 hC rfl) dX5_become_13 (by repeat (first | with_reducible assumption | (rw [rl_u_s]; done) | (rw [rl_u_s]; rfl) | rw [rl_u_n (by first | with_reducible assumption | omega)])) (by first | rfl | with_reducible assumption) ?_
  refine o_callV0 hC rl_BW_good rl_Ns_nw (by exact hB.2.2.2.2.2) YX6_becomeFalse IX6_becomeFalse VX6_becomeFalse (mX5_28 hC) (by rw [hB.1]; exact ct_X6_becomeFalse l D ids H0 hh n (t + 2) k f g w1) (by exact w1.1) rfl rfl (Nat.le_of_ble_eq_true rfl) (by rw [hB.2.1]; first | exact Nat.le_of_ble_eq_true rfl | (dsimp only; omega)) (by rw [hB.2.1]; first | exact Nat.le_of_ble_eq_true rfl | (dsimp only; omega)) (by rw [hB.2.1]; first | exact Nat.le_of_ble_eq_true rfl | (dsimp only; omega)) (by rw [hB.2.1]; first | exact Nat.le_of_ble_eq_true rfl | (dsimp only; omega)) dX5_become_16 (fun v h_16 n_16 p_16 => ?_)
  obtain ⟨rfl, rfl, p1, p2⟩ := p_16
  try dsimp only [Option.toList, List.cons_append, List.nil_append]
  refine o_vret hC hB dX5_become_19 (Nat.le_of_ble_eq_true rfl) (Nat.le_of_ble_eq_true rfl) ?_
  refine ⟨rfl, rfl, ⟨by rw [p2 t (by omega)]; exact r0, by rw [p2 (t + 1) (by omega)]; exact r1, p1⟩, (f1.wd (by omega) (by omega)).tr (p2.wd (by omega) (by omega))⟩

/-- the order of two TUPLES by their first w numbers, from j on -/
def tb_ord (a b : Nat → Int32) : Nat → Nat → Int32
  | 0, _ => nI 0
  | m + 1, j => if a j = b j then tb_ord a b m (j + 1) else if b j ≤ a j then nI 1 else -1

set_option maxHeartbeats 4000000 in
set_option maxRecDepth 100000 in
theorem ct_X4_order (l : Launch) (D : va_G) (ids : Nat → ClassId) (H0 : Heap) (h : rl_H) (n : Nat) (a x z wd : Nat) (tv : Value) (sv : Value) (p q : Nat → Int32) (h1 : h a = some (.inr (4, [tv, sv, .int (nI wd)]))) (h2 : h x = some (.inl (ids 0, 6, .inl p))) (h3 : h z = some (.inl (ids 0, 6, .inl q))) (hwd : wd ≤ 6) : rl_Met l (rl_e D ids H0) rl_BW rl_Ns yX4_order cX4_order 4 (some .int) ({ frames := 0, cells := 0, slots := 0, locals := 0 }) [.ref a, .ref x, .ref z] h n (fun v h' n' => v = some (.int (tb_ord p q wd 0)) ∧ h' = h ∧ n' = n) := by
  refine rl_Met.of (by decide +kernel) (Nat.le_of_ble_eq_true rfl) ?_
  intro X hC hB
  have loop : ∀ (m j : Nat), j + m = wd → tb_ord p q wd 0 = tb_ord p q m j → rl_G X (rl_e D ids H0) 2 [some (.ref a), some (.ref x), some (.ref z), some (.int (nI j))] [] h n 0 0 := by
    intro m
    induction m with
    | zero =>
      intro j hj hs
      refine o_iload_n hC dX4_order_2 (by rfl) ?_
      refine o_aload_n hC dX4_order_3 (by rfl) ?_
      refine o_getf hC (fX4_22 hC rfl) dX4_order_4 (by repeat (first | with_reducible assumption | (rw [rl_u_s]; done) | (rw [rl_u_s]; rfl) | rw [rl_u_n (by first | with_reducible assumption | omega)])) (by first | rfl | with_reducible assumption) ?_
      refine o_icmp_ge (tgt := 40) hC dX4_order_7 (by decide) (fun c_7 => ?_) (fun c_7 => ?_)
      · refine o_iconst (v := nI 0) hC dX4_order_40 (by decide +kernel) ?_
        refine o_iret hC hB dX4_order_41 (Nat.le_of_ble_eq_true rfl) (Nat.le_of_ble_eq_true rfl) ?_
        exact ⟨by rw [hs]; rfl, rfl, rfl⟩
      · exact absurd (nI_le (by omega) (by omega)) c_7
    | succ m ih =>
      intro j hj hs
      refine o_iload_n hC dX4_order_2 (by rfl) ?_
      refine o_aload_n hC dX4_order_3 (by rfl) ?_
      refine o_getf hC (fX4_22 hC rfl) dX4_order_4 (by repeat (first | with_reducible assumption | (rw [rl_u_s]; done) | (rw [rl_u_s]; rfl) | rw [rl_u_n (by first | with_reducible assumption | omega)])) (by first | rfl | with_reducible assumption) ?_
      refine o_icmp_ge (tgt := 40) hC dX4_order_7 (by decide) (fun c_7 => ?_) (fun c_7 => ?_)
      · exact absurd c_7 (nI_ge (by omega) (by omega))
      · refine o_aload_n hC dX4_order_10 (by rfl) ?_
        refine o_iload_n hC dX4_order_11 (by rfl) ?_
        refine o_ialdN (t0 := 0) hC rfl dX4_order_12 (by repeat (first | with_reducible assumption | (rw [rl_u_s]; done) | (rw [rl_u_s]; rfl) | rw [rl_u_n (by first | with_reducible assumption | omega)])) (by omega) (by decide) ?_
        refine o_aload_n hC dX4_order_13 (by rfl) ?_
        refine o_iload_n hC dX4_order_14 (by rfl) ?_
        refine o_ialdN (t0 := 0) hC rfl dX4_order_15 (by repeat (first | with_reducible assumption | (rw [rl_u_s]; done) | (rw [rl_u_s]; rfl) | rw [rl_u_n (by first | with_reducible assumption | omega)])) (by omega) (by decide) ?_
        refine o_icmp_eq (tgt := 34) hC dX4_order_16 (by decide) (fun c_16 => ?_) (fun c_16 => ?_)
        · refine o_iinc hC dX4_order_34 (by rfl) (rl_inc _) (Nat.le_of_ble_eq_true rfl) ?_
          refine o_goto (tgt := 2) hC dX4_order_37 (by decide) ?_
          exact ih (j + 1) (by omega) (by rw [hs, tb_ord, if_pos c_16])
        · refine o_aload_n hC dX4_order_19 (by rfl) ?_
          refine o_iload_n hC dX4_order_20 (by rfl) ?_
          refine o_ialdN (t0 := 0) hC rfl dX4_order_21 (by repeat (first | with_reducible assumption | (rw [rl_u_s]; done) | (rw [rl_u_s]; rfl) | rw [rl_u_n (by first | with_reducible assumption | omega)])) (by omega) (by decide) ?_
          refine o_aload_n hC dX4_order_22 (by rfl) ?_
          refine o_iload_n hC dX4_order_23 (by rfl) ?_
          refine o_ialdN (t0 := 0) hC rfl dX4_order_24 (by repeat (first | with_reducible assumption | (rw [rl_u_s]; done) | (rw [rl_u_s]; rfl) | rw [rl_u_n (by first | with_reducible assumption | omega)])) (by omega) (by decide) ?_
          refine o_icmp_ge (tgt := 32) hC dX4_order_25 (by decide) (fun c_25 => ?_) (fun c_25 => ?_)
          · refine o_iconst (v := nI 1) hC dX4_order_32 (by decide +kernel) ?_
            refine o_iret hC hB dX4_order_33 (Nat.le_of_ble_eq_true rfl) (Nat.le_of_ble_eq_true rfl) ?_
            refine ⟨?_, rfl, rfl⟩
            rw [hs, tb_ord, if_neg c_16]
            first | rw [if_pos c_25] | rw [if_neg c_25]
          · refine o_iconst (v := (-1 : Int32)) hC dX4_order_28 (by decide +kernel) ?_
            refine o_goto (tgt := 33) hC dX4_order_29 (by decide) ?_
            refine o_iret hC hB dX4_order_33 (Nat.le_of_ble_eq_true rfl) (Nat.le_of_ble_eq_true rfl) ?_
            refine ⟨?_, rfl, rfl⟩
            rw [hs, tb_ord, if_neg c_16]
            first | rw [if_pos c_25] | rw [if_neg c_25]
  show rl_G X (rl_e D ids H0) 0 [some (.ref a), some (.ref x), some (.ref z), none] [] h n 0 0
  refine o_iconst (v := nI 0) hC dX4_order_0 (by decide +kernel) ?_
  refine o_istore_n hC dX4_order_1 (Nat.le_of_ble_eq_true rfl) ?_
  exact loop wd 0 (by omega) rfl

set_option maxHeartbeats 4000000 in
set_option maxRecDepth 100000 in
theorem ct_X4_begin (l : Launch) (D : va_G) (ids : Nat → ClassId) (H0 : Heap) (h : rl_H) (n : Nat) (a : Nat) (tv sv wv : Value) (x : Int32) (h1 : h a = some (.inr (4, [tv, sv, wv]))) : rl_Met l (rl_e D ids H0) rl_BW rl_Ns yX4_begin cX4_begin 2 none ({ frames := 0, cells := 0, slots := 0, locals := 0 }) [.ref a, .int x] h n (fun v h' n' => v = none ∧ n' = n ∧ h' a = some (.inr (4, [tv, .int (nI 0), .int x])) ∧ ∀ q : Nat, q ≠ a → h' q = h q) := by
  refine rl_Met.of (by decide +kernel) (Nat.le_of_ble_eq_true rfl) ?_
  intro X hC hB
  show rl_G X (rl_e D ids H0) 0 [some (.ref a), some (.int x)] [] h n 0 0
  refine o_aload_n hC dX4_begin_0 (by rfl) ?_
  refine o_iconst (v := nI 0) hC dX4_begin_1 (by decide +kernel) ?_
  refine o_putf hC (fX4_18 hC rfl) (fwX4 rfl rfl rfl (Or.inl rfl)) dX4_begin_2 (by repeat (first | with_reducible assumption | (rw [rl_u_s]; done) | (rw [rl_u_s]; rfl) | rw [rl_u_n (by first | with_reducible assumption | omega)])) (Nat.le_of_ble_eq_true rfl) ?_
  try simp only [List.set_cons_zero, List.set_cons_succ]
  refine o_aload_n hC dX4_begin_5 (by rfl) ?_
  refine o_iload_n hC dX4_begin_6 (by rfl) ?_
  refine o_putf hC (fX4_22 hC rfl) (fwX4 rfl rfl rfl (Or.inl rfl)) dX4_begin_7 (by repeat (first | with_reducible assumption | (rw [rl_u_s]; done) | (rw [rl_u_s]; rfl) | rw [rl_u_n (by first | with_reducible assumption | omega)])) (Nat.le_of_ble_eq_true rfl) ?_
  try simp only [List.set_cons_zero, List.set_cons_succ]
  refine o_vret hC hB dX4_begin_10 (Nat.le_of_ble_eq_true rfl) (Nat.le_of_ble_eq_true rfl) ?_
  refine ⟨rfl, rfl, by repeat (first | with_reducible assumption | (rw [rl_u_s]; done) | (rw [rl_u_s]; rfl) | rw [rl_u_n (by first | with_reducible assumption | omega)]), ?_⟩
  intro q hq
  repeat (first | rfl | rw [rl_u_n hq])
