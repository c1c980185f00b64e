/-! RowLineage$Operators: at o; its Draft at o + 1, made at o + 4, turned at o + 7 (its Ways from o + 10 on), group at o + 8, key at o + 9 -/
def op_at (ids : Nat → ClassId) (h : rl_H) (o so : Nat) (dr : dr_S) (f g : Nat → Int64) (k : Nat) (gp : Nat → Option Nat) (kc : Nat → Int32) (F G : Nat → Nat → Int64) (K : Nat → Nat) : Prop :=
  h o = some (.inr (2, [.ref (o + 1), .ref (o + 4), .ref (o + 7), .ref (o + 8), .ref (o + 9)])) ∧ dr_at ids h (o + 1) dr ∧ ws_at ids h (o + 4) f g k ∧
  (∃ tp : Nat → Option Nat, h (o + 7) = some (.inl (ids 4, 4, .inr (.inr (.inr (.inr tp))))) ∧ ∀ m, m < 4 → tp m = some (o + 10 + 3 * m)) ∧ h (o + 8) = some (.inl (ids 3, 4, .inr (.inr (.inr (.inr gp))))) ∧ h (o + 9) = some (.inl (ids 0, 6, .inl kc)) ∧ ∀ m, m < 4 → ws_at ids h (o + 10 + 3 * m) (F m) (G m) (K m)
theorem op_at.kept {ids : Nat → ClassId} {h h' : rl_H} {o so a b : Nat} {dr : dr_S} {f g : Nat → Int64} {k : Nat} {gp : Nat → Option Nat} {kc : Nat → Int32} {F G : Nat → Nat → Int64} {K : Nat → Nat} (H : op_at ids h o so dr f g k gp kc F G K) (hf : rl_fr h h' a b) (hd : o + 22 ≤ a ∨ b ≤ o) : op_at ids h' o so dr f g k gp kc F G K := by
  obtain ⟨h1, h2, h3, ⟨tp, h4, h5⟩, h6, h7, h8⟩ := H
  exact ⟨by rw [hf o (by omega)]; exact h1, h2.kept hf (by omega), h3.kept hf (by omega), ⟨tp, by rw [hf (o + 7) (by omega)]; exact h4, h5⟩, by rw [hf (o + 8) (by omega)]; exact h6, by rw [hf (o + 9) (by omega)]; exact h7, fun m hm => (h8 m hm).kept hf (by omega)⟩

set_option maxHeartbeats 4000000 in
set_option maxRecDepth 100000 in
theorem ct_X2_init (l : Launch) (D : va_G) (ids : Nat → ClassId) (H0 : Heap) (h : rl_H) (n : Nat) (o so : Nat) (h1 : h o = some (.inr (2, [.null, .null, .null, .null, .null]))) (hn : n = o + 1) : rl_Met l (rl_e D ids H0) rl_BW rl_Ns yX2_init cX2_init 2 none ({ frames := 2, cells := 21, slots := 1016, locals := 36 }) [.ref o] h n (fun v h' n' => v = none ∧ n' = o + 22 ∧ op_at ids h' o so (fun _ => 0, fun _ => 0, 0) (fun _ => 0) (fun _ => 0) 0 (fun _ => none) (fun _ => 0) (fun _ _ => 0) (fun _ _ => 0) (fun _ => 0) ∧ rl_fr h h' o (o + 22)) := by
  subst hn
  refine rl_Met.of (by decide +kernel) (Nat.le_of_ble_eq_true rfl) ?_
  intro X hC hB
  have loop : ∀ (m j : Nat) (h' : rl_H) (p : Nat → Option Nat), j + m = 4 → h' o = some (.inr (2, [.ref (o + 1), .ref (o + 4), .ref (o + 7), .ref (o + 8), .ref (o + 9)])) ∧ dr_at ids h' (o + 1) (fun _ => 0, fun _ => 0, 0) ∧ ws_at ids h' (o + 4) (fun _ => 0) (fun _ => 0) 0 ∧ h' (o + 7) = some (.inl (ids 4, 4, .inr (.inr (.inr (.inr p))))) ∧ (∀ i, i < j → p i = some (o + 10 + 3 * i)) ∧ h' (o + 8) = some (.inl (ids 3, 4, .inr (.inr (.inr (.inr (fun _ => none)))))) ∧ h' (o + 9) = some (.inl (ids 0, 6, .inl (fun _ => 0))) ∧ (∀ i, i < j → ws_at ids h' (o + 10 + 3 * i) (fun _ => 0) (fun _ => 0) 0) ∧ rl_fr h h' o (o + 10 + 3 * j) → rl_G X (rl_e D ids H0) 52 [some (.ref o), some (.int (nI j))] [] h' (o + 10 + 3 * j) (9 + 3 * j) (908 + 27 * j) := by
    intro m
    induction m with
    | zero =>
      intro j h' p hj hI
      have e : j = 4 := by omega
      subst e
      refine o_iload_n hC dX2_init_52 (by rfl) ?_
      refine o_iconst (v := nI 4) hC dX2_init_53 (by decide +kernel) ?_
      refine o_icmp_ge (tgt := 76) hC dX2_init_54 (by decide) (fun c_54 => ?_) (fun c_54 => ?_)
      · refine o_vret hC hB dX2_init_76 (by first | omega | (dsimp only; omega)) (by first | omega | (dsimp only; omega)) ?_
        obtain ⟨g1, g2, g3, g4, g5, g6, g7, g8, g9⟩ := hI
        exact ⟨rfl, rfl, ⟨g1, g2, g3, ⟨p, g4, g5⟩, g6, g7, g8⟩, g9⟩
      · exact absurd (nI_le (Nat.le_refl _) (by omega)) c_54
    | succ m ih =>
      intro j h' p hj hI
      obtain ⟨g1, g2, g3, g4, g5, g6, g7, g8, g9⟩ := hI
      refine o_iload_n hC dX2_init_52 (by rfl) ?_
      refine o_iconst (v := nI 4) hC dX2_init_53 (by decide +kernel) ?_
      refine o_icmp_ge (tgt := 76) hC dX2_init_54 (by decide) (fun c_54 => ?_) (fun c_54 => ?_)
      · exact absurd c_54 (nI_ge (by omega) (by omega))
      · refine o_aload_n hC dX2_init_57 (by rfl) ?_
        refine o_getf hC (fX2_25 hC rfl) dX2_init_58 (by repeat (first | with_reducible assumption | (rw [rl_u_s]; done) | (rw [rl_u_s]; rfl) | rw [rl_u_n (by first | with_reducible assumption | omega)])) (by first | rfl | with_reducible assumption) ?_
        refine o_iload_n hC dX2_init_61 (by rfl) ?_
        refine o_new (ci := 6) (fs := [.null, .null, .int (nI 0)]) hC rfl uX6 tyX6 tyX6_ok kX2_18 iX6 zX6 (by decide +kernel) (by rw [hB.2.1]; first | exact Nat.le_of_ble_eq_true rfl | (dsimp only; omega)) (by rw [hB.2.1]; first | exact Nat.le_of_ble_eq_true rfl | (dsimp only; omega)) dX2_init_62 ?_
        refine o_dup hC dX2_init_65 rfl ?_
        refine o_callI0 hC rl_BW_good rl_Ns_nw (by exact hB.2.2.2.2.2) YX6_init rfl IX6_init (mX2_20 hC) (by rw [hB.1]; exact ct_X6_init l D ids H0 _ _ (o + 10 + 3 * j) (by repeat (first | with_reducible assumption | (rw [rl_u_s]; done) | (rw [rl_u_s]; rfl) | rw [rl_u_n (by first | with_reducible assumption | omega)])) rfl) (Nat.le_of_ble_eq_true rfl) (by rw [hB.2.1]; first | exact Nat.le_of_ble_eq_true rfl | (dsimp only; omega)) (by rw [hB.2.1]; first | exact Nat.le_of_ble_eq_true rfl | (dsimp only; omega)) (by rw [hB.2.1]; first | exact Nat.le_of_ble_eq_true rfl | (dsimp only; omega)) (by rw [hB.2.1]; first | exact Nat.le_of_ble_eq_true rfl | (dsimp only; omega)) dX2_init_66 (fun v h_66 n_66 p_66 => ?_)
        obtain ⟨rfl, rfl, p1, p2⟩ := p_66
        have fr0 : rl_fr h' (rl_u h' (o + 10 + 3 * j) (.inr (6, [.null, .null, .int (nI 0)]))) (o + 10 + 3 * j) (o + 10 + 3 * j + 1) := fun q hq => rl_u_n (by omega)
        have r2 : h_66 (o + 7) = some (.inl (ids 4, 4, .inr (.inr (.inr (.inr p))))) := by
          repeat (first | with_reducible assumption | (rw [rl_u_s]; done) | (rw [rl_u_s]; rfl) | rw [rl_u_n (by first | with_reducible assumption | omega)] | rw [p2 _ (by omega)])
        try dsimp only [Option.toList, List.cons_append, List.nil_append]
        refine o_aastN (t0 := 4) (vs := [.ref (o + 10 + 3 * j + 1), .ref (o + 10 + 3 * j + 2), .int (nI 0)]) hC rfl rfl dX2_init_69 r2 p1.1 (by omega) (by decide) ?_
        refine o_iinc hC dX2_init_70 (by rfl) (rl_inc _) (Nat.le_of_ble_eq_true rfl) ?_
        refine o_goto (tgt := 52) hC dX2_init_73 (by decide) ?_
        refine rl_G.widen (ce' := (9 + 3 * (j + 1))) (sl' := (908 + 27 * (j + 1))) (by first | omega | (dsimp only; omega)) (by first | omega | (dsimp only; omega)) ?_
        have fr : rl_fr h_66 (rl_u h_66 (o + 7) (.inl (ids 4, 4, .inr (.inr (.inr (.inr (va_up p j (some (o + 10 + 3 * j))))))))) (o + 7) (o + 8) := fun q hq => rl_u_n (by omega)
        rw [show o + 10 + 3 * j + 3 = o + 10 + 3 * (j + 1) by omega]
        refine ih (j + 1) _ (va_up p j (some (o + 10 + 3 * j))) (by omega) ⟨by repeat (first | with_reducible assumption | (rw [rl_u_s]; done) | (rw [rl_u_s]; rfl) | rw [rl_u_n (by first | with_reducible assumption | omega)] | rw [p2 _ (by omega)]), ((g2.kept fr0 (by omega)).kept p2 (by omega)).kept fr (by omega), ((g3.kept fr0 (by omega)).kept p2 (by omega)).kept fr (by omega), rl_u_s, fun i hi => ?_, by repeat (first | with_reducible assumption | (rw [rl_u_s]; done) | (rw [rl_u_s]; rfl) | rw [rl_u_n (by first | with_reducible assumption | omega)] | rw [p2 _ (by omega)]), by repeat (first | with_reducible assumption | (rw [rl_u_s]; done) | (rw [rl_u_s]; rfl) | rw [rl_u_n (by first | with_reducible assumption | omega)] | rw [p2 _ (by omega)]), fun i hi => ?_, fun q hq => ?_⟩
        · by_cases e : i = j
          · subst e
            rw [va_up_self]
          · rw [va_up_ne _ _ e]
            exact g5 i (by omega)
        · by_cases e : i = j
          · subst e
            exact p1.kept fr (by omega)
          · exact (((g8 i (by omega)).kept fr0 (by omega)).kept p2 (by omega)).kept fr (by omega)
        · rw [rl_u_n (by omega), p2 q (by omega), rl_u_n (by omega)]
          exact g9 q (by omega)
  show rl_G X (rl_e D ids H0) 0 [some (.ref o), none] [] h (o + 1) 0 0
  refine o_aload_n hC dX2_init_0 (by rfl) ?_
  refine o_objInit hC (by exact hB.2.2.2.2.2) mX2_3 w_objI w_objC dX2_init_1 (by rw [hB.2.1]; first | exact Nat.le_of_ble_eq_true rfl | (dsimp only; omega)) (by rw [hB.2.1]; first | exact Nat.le_of_ble_eq_true rfl | (dsimp only; omega)) ?_
  refine o_aload_n hC dX2_init_4 (by rfl) ?_
  refine o_new (ci := 0) (fs := [.null, .null, .int (nI 0)]) hC rfl uX0 tyX0 tyX0_ok kX2_9 iX0 zX0 (by decide +kernel) (by rw [hB.2.1]; first | exact Nat.le_of_ble_eq_true rfl | (dsimp only; omega)) (by rw [hB.2.1]; first | exact Nat.le_of_ble_eq_true rfl | (dsimp only; omega)) dX2_init_5 ?_
  refine o_dup hC dX2_init_8 rfl ?_
  refine o_callI0 hC rl_BW_good rl_Ns_nw (by exact hB.2.2.2.2.2) YX0_init rfl IX0_init (mX2_11 hC) (by rw [hB.1]; exact ct_X0_init l D ids H0 _ _ (o + 1) (by repeat (first | with_reducible assumption | (rw [rl_u_s]; done) | (rw [rl_u_s]; rfl) | rw [rl_u_n (by first | with_reducible assumption | omega)])) rfl) (Nat.le_of_ble_eq_true rfl) (by rw [hB.2.1]; first | exact Nat.le_of_ble_eq_true rfl | (dsimp only; omega)) (by rw [hB.2.1]; first | exact Nat.le_of_ble_eq_true rfl | (dsimp only; omega)) (by rw [hB.2.1]; first | exact Nat.le_of_ble_eq_true rfl | (dsimp only; omega)) (by rw [hB.2.1]; first | exact Nat.le_of_ble_eq_true rfl | (dsimp only; omega)) dX2_init_9 (fun v h_9 n_9 p_9 => ?_)
  obtain ⟨rfl, rfl, a1, fr9⟩ := p_9
  try dsimp only [Option.toList, List.cons_append, List.nil_append]
  refine o_putf hC (fX2_12 hC rfl) (fwX2 rfl rfl rfl (Or.inr ⟨rfl, hB.2.2.2.2.1, rfl⟩)) dX2_init_12 (by repeat (first | with_reducible assumption | (rw [rl_u_s]; done) | (rw [rl_u_s]; rfl) | rw [rl_u_n (by first | with_reducible assumption | omega)] | rw [fr20 _ (by omega)] | rw [fr9 _ (by omega)])) (Nat.le_of_ble_eq_true rfl) ?_
  try simp only [List.set_cons_zero, List.set_cons_succ]
  refine o_aload_n hC dX2_init_15 (by rfl) ?_
  refine o_new (ci := 6) (fs := [.null, .null, .int (nI 0)]) hC rfl uX6 tyX6 tyX6_ok kX2_18 iX6 zX6 (by decide +kernel) (by rw [hB.2.1]; first | exact Nat.le_of_ble_eq_true rfl | (dsimp only; omega)) (by rw [hB.2.1]; first | exact Nat.le_of_ble_eq_true rfl | (dsimp only; omega)) dX2_init_16 ?_
  refine o_dup hC dX2_init_19 rfl ?_
  refine o_callI0 hC rl_BW_good rl_Ns_nw (by exact hB.2.2.2.2.2) YX6_init rfl IX6_init (mX2_20 hC) (by rw [hB.1]; exact ct_X6_init l D ids H0 _ _ (o + 4) (by repeat (first | with_reducible assumption | (rw [rl_u_s]; done) | (rw [rl_u_s]; rfl) | rw [rl_u_n (by first | with_reducible assumption | omega)] | rw [fr9 _ (by omega)])) rfl) (Nat.le_of_ble_eq_true rfl) (by rw [hB.2.1]; first | exact Nat.le_of_ble_eq_true rfl | (dsimp only; omega)) (by rw [hB.2.1]; first | exact Nat.le_of_ble_eq_true rfl | (dsimp only; omega)) (by rw [hB.2.1]; first | exact Nat.le_of_ble_eq_true rfl | (dsimp only; omega)) (by rw [hB.2.1]; first | exact Nat.le_of_ble_eq_true rfl | (dsimp only; omega)) dX2_init_20 (fun v h_20 n_20 p_20 => ?_)
  obtain ⟨rfl, rfl, b1, fr20⟩ := p_20
  obtain ⟨a2, a3, a4, -⟩ := id a1
  obtain ⟨b2, b3, b4, -⟩ := id b1
  try dsimp only [Option.toList, List.cons_append, List.nil_append]
  refine o_putf hC (fX2_21 hC rfl) (fwX2 rfl rfl rfl (Or.inr ⟨rfl, hB.2.2.2.2.1, rfl⟩)) dX2_init_23 (by repeat (first | with_reducible assumption | (rw [rl_u_s]; done) | (rw [rl_u_s]; rfl) | rw [rl_u_n (by first | with_reducible assumption | omega)] | rw [fr20 _ (by omega)] | rw [fr9 _ (by omega)])) (Nat.le_of_ble_eq_true rfl) ?_
  try simp only [List.set_cons_zero, List.set_cons_succ]
  refine o_aload_n hC dX2_init_26 (by rfl) ?_
  refine o_iconst (v := nI 4) hC dX2_init_27 (by decide +kernel) ?_
  refine o_anew (t0 := 4) (N' := 4) hC kX2_18 (va_AO.use (hC.2.2.2.2.1 _ aoX6)) rfl (nI_pos (by decide)) (nI_clamp (by decide)) (by decide) (by rw [hB.2.1]; first | exact Nat.le_of_ble_eq_true rfl | (dsimp only; omega)) (by rw [hB.2.1]; first | exact Nat.le_of_ble_eq_true rfl | (dsimp only; omega)) dX2_init_28 ?_
  refine o_putf hC (fX2_25 hC rfl) (fwX2 rfl rfl rfl (Or.inr ⟨rfl, hB.2.2.2.2.1, rfl⟩)) dX2_init_31 (by repeat (first | with_reducible assumption | (rw [rl_u_s]; done) | (rw [rl_u_s]; rfl) | rw [rl_u_n (by first | with_reducible assumption | omega)] | rw [fr20 _ (by omega)] | rw [fr9 _ (by omega)])) (Nat.le_of_ble_eq_true rfl) ?_
  try simp only [List.set_cons_zero, List.set_cons_succ]
  refine o_aload_n hC dX2_init_34 (by rfl) ?_
  refine o_iconst (v := nI 4) hC dX2_init_35 (by decide +kernel) ?_
  refine o_anew (t0 := 3) (N' := 4) hC kX2_29 (va_AO.use (hC.2.2.2.2.1 _ aoX5)) rfl (nI_pos (by decide)) (nI_clamp (by decide)) (by decide) (by rw [hB.2.1]; first | exact Nat.le_of_ble_eq_true rfl | (dsimp only; omega)) (by rw [hB.2.1]; first | exact Nat.le_of_ble_eq_true rfl | (dsimp only; omega)) dX2_init_36 ?_
  refine o_putf hC (fX2_31 hC rfl) (fwX2 rfl rfl rfl (Or.inr ⟨rfl, hB.2.2.2.2.1, rfl⟩)) dX2_init_39 (by repeat (first | with_reducible assumption | (rw [rl_u_s]; done) | (rw [rl_u_s]; rfl) | rw [rl_u_n (by first | with_reducible assumption | omega)] | rw [fr20 _ (by omega)] | rw [fr9 _ (by omega)])) (Nat.le_of_ble_eq_true rfl) ?_
  try simp only [List.set_cons_zero, List.set_cons_succ]
  refine o_aload_n hC dX2_init_42 (by rfl) ?_
  refine o_bipush (v := nI 6) hC dX2_init_43 (by decide +kernel) ?_
  refine o_newa (atype := .int) (ty := .int) (t0 := 0) (N' := 6) (x := .inl (fun _ => 0)) hC rfl (fun C q => by cases q) aw_int rfl rfl (nI_pos (by decide)) (nI_clamp (by decide)) (by decide) (by rw [hB.2.1]; first | exact Nat.le_of_ble_eq_true rfl | (dsimp only; omega)) (by rw [hB.2.1]; first | exact Nat.le_of_ble_eq_true rfl | (dsimp only; omega)) dX2_init_45 ?_
  refine o_putf hC (fX2_35 hC rfl) (fwX2 rfl rfl rfl (Or.inr ⟨rfl, hB.2.2.2.2.1, rfl⟩)) dX2_init_47 (by repeat (first | with_reducible assumption | (rw [rl_u_s]; done) | (rw [rl_u_s]; rfl) | rw [rl_u_n (by first | with_reducible assumption | omega)] | rw [fr20 _ (by omega)] | rw [fr9 _ (by omega)])) (Nat.le_of_ble_eq_true rfl) ?_
  try simp only [List.set_cons_zero, List.set_cons_succ]
  refine o_iconst (v := nI 0) hC dX2_init_50 (by decide +kernel) ?_
  refine o_istore_n hC dX2_init_51 (Nat.le_of_ble_eq_true rfl) ?_
  refine rl_G.widen (ce' := 9 + 3 * 0) (sl' := 908 + 27 * 0) (by first | omega | (dsimp only; omega)) (by first | omega | (dsimp only; omega)) ?_
  refine loop 4 0 _ (fun _ => none) (by omega) ⟨by repeat (first | with_reducible assumption | (rw [rl_u_s]; done) | (rw [rl_u_s]; rfl) | rw [rl_u_n (by first | with_reducible assumption | omega)] | rw [fr20 _ (by omega)] | rw [fr9 _ (by omega)]), ⟨by repeat (first | with_reducible assumption | (rw [rl_u_s]; done) | (rw [rl_u_s]; rfl) | rw [rl_u_n (by first | with_reducible assumption | omega)] | rw [fr20 _ (by omega)] | rw [fr9 _ (by omega)]), by repeat (first | with_reducible assumption | (rw [rl_u_s]; done) | (rw [rl_u_s]; rfl) | rw [rl_u_n (by first | with_reducible assumption | omega)] | rw [fr20 _ (by omega)] | rw [fr9 _ (by omega)]), by repeat (first | with_reducible assumption | (rw [rl_u_s]; done) | (rw [rl_u_s]; rfl) | rw [rl_u_n (by first | with_reducible assumption | omega)] | rw [fr20 _ (by omega)] | rw [fr9 _ (by omega)]), Nat.zero_le _⟩, ⟨by repeat (first | with_reducible assumption | (rw [rl_u_s]; done) | (rw [rl_u_s]; rfl) | rw [rl_u_n (by first | with_reducible assumption | omega)] | rw [fr20 _ (by omega)] | rw [fr9 _ (by omega)]), by repeat (first | with_reducible assumption | (rw [rl_u_s]; done) | (rw [rl_u_s]; rfl) | rw [rl_u_n (by first | with_reducible assumption | omega)] | rw [fr20 _ (by omega)] | rw [fr9 _ (by omega)]), by repeat (first | with_reducible assumption | (rw [rl_u_s]; done) | (rw [rl_u_s]; rfl) | rw [rl_u_n (by first | with_reducible assumption | omega)] | rw [fr20 _ (by omega)] | rw [fr9 _ (by omega)]), Nat.zero_le _⟩, by repeat (first | with_reducible assumption | (rw [rl_u_s]; done) | (rw [rl_u_s]; rfl) | rw [rl_u_n (by first | with_reducible assumption | omega)] | rw [fr20 _ (by omega)] | rw [fr9 _ (by omega)]), fun i hi => by omega, by repeat (first | with_reducible assumption | (rw [rl_u_s]; done) | (rw [rl_u_s]; rfl) | rw [rl_u_n (by first | with_reducible assumption | omega)] | rw [fr20 _ (by omega)] | rw [fr9 _ (by omega)]), by repeat (first | with_reducible assumption | (rw [rl_u_s]; done) | (rw [rl_u_s]; rfl) | rw [rl_u_n (by first | with_reducible assumption | omega)] | rw [fr20 _ (by omega)] | rw [fr9 _ (by omega)]), fun i hi => by omega, fun q hq => ?_⟩
  have a0 := a1
  repeat (first | rfl | rw [rl_u_n (by omega)] | rw [fr20 _ (by omega)] | rw [fr9 _ (by omega)])
