set_option maxHeartbeats 4000000 in
set_option maxRecDepth 100000 in
theorem ct_X4_init (l : Launch) (D : va_G) (ids : Nat → ClassId) (H0 : Heap) (h : rl_H) (n : Nat) (a r : Nat) (h1 : h a = some (.inr (4, [.null, .int (nI 0), .int (nI 0)]))) (hn : n = a + 1) (hr : r ≤ 80) : rl_Met l (rl_e D ids H0) rl_BW rl_Ns yX4_init cX4_init 3 none ({ frames := 3, cells := 1 + 5 * r, slots := 80 + 35 * r, locals := 56 }) [.ref a, .int (nI r)] h n (fun v h' n' => v = none ∧ n' = a + 2 + 5 * r ∧ ∃ p : Nat → Option Nat, h' a = some (.inr (4, [.ref (a + 1), .int (nI 0), .int (nI 0)])) ∧ h' (a + 1) = some (.inl (ids 3, 80, .inr (.inr (.inr (.inr p))))) ∧ (∀ i, i < 80 → p i = if i < r then some (a + 2 + 5 * i) else none) ∧ (∀ i, i < r → tp_at ids h' (a + 2 + 5 * i) (fun _ => 0) (fun _ => 0) (fun _ => 0) 0) ∧ rl_fr h h' a (a + 2 + 5 * r)) := by
  subst hn
  refine rl_Met.of (by decide +kernel) (Nat.le_of_ble_eq_true rfl) ?_
  intro X hC hB
  have loop : ∀ (m j : Nat) (h' : rl_H) (p : Nat → Option Nat), j + m = r → h' a = some (.inr (4, [.ref (a + 1), .int (nI 0), .int (nI 0)])) ∧ h' (a + 1) = some (.inl (ids 3, 80, .inr (.inr (.inr (.inr p))))) ∧ (∀ i, i < 80 → p i = if i < j then some (a + 2 + 5 * i) else none) ∧ (∀ i, i < j → tp_at ids h' (a + 2 + 5 * i) (fun _ => 0) (fun _ => 0) (fun _ => 0) 0) ∧ rl_fr h h' a (a + 2 + 5 * j) → rl_G X (rl_e D ids H0) 15 [some (.ref a), some (.int (nI r)), some (.int (nI j))] [] h' (a + 2 + 5 * j) (1 + 5 * j) (80 + 35 * j) := by
    intro m
    induction m with
    | zero =>
      intro j h' p hj hI
      have e : j = r := by omega
      subst e
      refine o_iload_n hC dX4_init_15 (by rfl) ?_
      refine o_iload_n hC dX4_init_16 (by rfl) ?_
      refine o_icmp_ge (tgt := 45) hC dX4_init_17 (by decide) (fun c_17 => ?_) (fun c_17 => ?_)
      · refine o_vret hC hB dX4_init_45 (by first | omega | (dsimp only; omega)) (by first | omega | (dsimp only; omega)) ?_
        exact ⟨rfl, rfl, p, hI⟩
      · exact absurd (nI_le (Nat.le_refl _) (by omega)) c_17
    | succ m ih =>
      intro j h' p hj hI
      obtain ⟨g1, g2, g3, g4, g5⟩ := hI
      refine o_iload_n hC dX4_init_15 (by rfl) ?_
      refine o_iload_n hC dX4_init_16 (by rfl) ?_
      refine o_icmp_ge (tgt := 45) hC dX4_init_17 (by decide) (fun c_17 => ?_) (fun c_17 => ?_)
      · first | exact absurd c_17 (nI_ge (by omega) (by omega)) | exact absurd c_23 (nI_ge (by omega) (by omega))
      · refine o_iload_n hC dX4_init_20 (by rfl) ?_
        refine o_bipush (v := nI 80) hC dX4_init_21 (by decide +kernel) ?_
        refine o_icmp_ge (tgt := 45) hC dX4_init_23 (by decide) (fun c_23 => ?_) (fun c_23 => ?_)
        · first | exact absurd c_17 (nI_ge (by omega) (by omega)) | exact absurd c_23 (nI_ge (by omega) (by omega))
        · refine o_aload_n hC dX4_init_26 (by rfl) ?_
          refine o_getf hC (fX4_11 hC rfl) dX4_init_27 (by repeat (first | with_reducible assumption | (rw [rl_u_s]; done) | (rw [rl_u_s]; rfl) | rw [rl_u_n (by first | with_reducible assumption | omega)])) (by first | rfl | with_reducible assumption) ?_
          refine o_iload_n hC dX4_init_30 (by rfl) ?_
          refine o_new (ci := 5) (fs := [.null, .null]) hC rfl uX5 tyX5 tyX5_ok kX4_9 iX5 zX5 (by decide +kernel) (by rw [hB.2.1]; first | exact Nat.le_of_ble_eq_true rfl | (dsimp only; omega)) (by rw [hB.2.1]; first | exact Nat.le_of_ble_eq_true rfl | (dsimp only; omega)) dX4_init_31 ?_
          refine o_dup hC dX4_init_34 rfl ?_
          refine o_callI0 hC rl_BW_good rl_Ns_nw (by exact hB.2.2.2.2.2) YX5_init rfl IX5_init (mX4_17 hC) (by rw [hB.1]; exact ct_X5_init l D ids H0 _ _ (a + 2 + 5 * j) (by repeat (first | with_reducible assumption | (rw [rl_u_s]; done) | (rw [rl_u_s]; rfl) | rw [rl_u_n (by first | with_reducible assumption | omega)])) rfl) (Nat.le_of_ble_eq_true rfl) (by rw [hB.2.1]; first | exact Nat.le_of_ble_eq_true rfl | (dsimp only; omega)) (by rw [hB.2.1]; first | exact Nat.le_of_ble_eq_true rfl | (dsimp only; omega)) (by rw [hB.2.1]; first | exact Nat.le_of_ble_eq_true rfl | (dsimp only; omega)) (by rw [hB.2.1]; first | exact Nat.le_of_ble_eq_true rfl | (dsimp only; omega)) dX4_init_35 (fun v h_35 n_35 p_35 => ?_)
          obtain ⟨rfl, rfl, p1, p2⟩ := p_35
          have r1 : h_35 a = some (.inr (4, [.ref (a + 1), .int (nI 0), .int (nI 0)])) := by
            repeat (first | with_reducible assumption | (rw [rl_u_s]; done) | (rw [rl_u_s]; rfl) | rw [rl_u_n (by first | with_reducible assumption | omega)] | rw [p2 _ (by omega)])
          have r2 : h_35 (a + 1) = some (.inl (ids 3, 80, .inr (.inr (.inr (.inr p))))) := by
            repeat (first | with_reducible assumption | (rw [rl_u_s]; done) | (rw [rl_u_s]; rfl) | rw [rl_u_n (by first | with_reducible assumption | omega)] | rw [p2 _ (by omega)])
          try dsimp only [Option.toList, List.cons_append, List.nil_append]
          refine o_aastN (t0 := 3) (vs := [.ref (a + 2 + 5 * j + 1), .ref (a + 2 + 5 * j + 2)]) hC rfl rfl dX4_init_38 r2 p1.1 (by omega) (by decide) ?_
          refine o_iinc hC dX4_init_39 (by rfl) (rl_inc _) (Nat.le_of_ble_eq_true rfl) ?_
          refine o_goto (tgt := 15) hC dX4_init_42 (by decide) ?_
          refine rl_G.widen (ce' := 1 + 5 * (j + 1)) (sl' := 80 + 35 * (j + 1)) (by first | omega | (dsimp only; omega)) (by first | omega | (dsimp only; omega)) ?_
          have hI2 : (rl_u h_35 (a + 1) (.inl (ids 3, 80, .inr (.inr (.inr (.inr (va_up p j (some (a + 2 + 5 * j))))))))) a = some (.inr (4, [.ref (a + 1), .int (nI 0), .int (nI 0)])) ∧ (rl_u h_35 (a + 1) (.inl (ids 3, 80, .inr (.inr (.inr (.inr (va_up p j (some (a + 2 + 5 * j))))))))) (a + 1) = some (.inl (ids 3, 80, .inr (.inr (.inr (.inr (va_up p j (some (a + 2 + 5 * j)))))))) ∧ (∀ i, i < 80 → (va_up p j (some (a + 2 + 5 * j))) i = if i < j + 1 then some (a + 2 + 5 * i) else none) ∧ (∀ i, i < j + 1 → tp_at ids (rl_u h_35 (a + 1) (.inl (ids 3, 80, .inr (.inr (.inr (.inr (va_up p j (some (a + 2 + 5 * j))))))))) (a + 2 + 5 * i) (fun _ => 0) (fun _ => 0) (fun _ => 0) 0) ∧ rl_fr h (rl_u h_35 (a + 1) (.inl (ids 3, 80, .inr (.inr (.inr (.inr (va_up p j (some (a + 2 + 5 * j))))))))) a (a + 2 + 5 * (j + 1)) := ?_
          · rw [show a + 2 + 5 * j + 5 = a + 2 + 5 * (j + 1) by omega]
            exact ih (j + 1) _ _ (by omega) hI2
          · refine ⟨by repeat (first | with_reducible assumption | (rw [rl_u_s]; done) | (rw [rl_u_s]; rfl) | rw [rl_u_n (by first | with_reducible assumption | omega)]), rl_u_s, fun i hi => ?_, fun i hi => ?_, fun q hq => ?_⟩
            · by_cases e : i = j
              · subst e
                rw [va_up_self, if_pos (by omega)]
              · rw [va_up_ne _ _ e, g3 i hi]
                by_cases e2 : i < j
                · rw [if_pos e2, if_pos (by omega)]
                · rw [if_neg e2, if_neg (by omega)]
            · have fr : rl_fr h_35 (rl_u h_35 (a + 1) (.inl (ids 3, 80, .inr (.inr (.inr (.inr (va_up p j (some (a + 2 + 5 * j))))))))) (a + 1) (a + 2) := fun q hq => rl_u_n (by omega)
              by_cases e : i = j
              · subst e
                exact p1.kept fr (by omega)
              · have fr0 : rl_fr h' (rl_u h' (a + 2 + 5 * j) (.inr (5, [.null, .null]))) (a + 2 + 5 * j) (a + 2 + 5 * j + 1) := fun q hq => rl_u_n (by omega)
                exact (((g4 i (by omega)).kept fr0 (by omega)).kept p2 (by omega)).kept fr (by omega)
            · rw [rl_u_n (by omega), p2 q (by omega), rl_u_n (by omega)]
              exact g5 q (by omega)
  show rl_G X (rl_e D ids H0) 0 [some (.ref a), some (.int (nI r)), none] [] h (a + 1) 0 0
  refine o_aload_n hC dX4_init_0 (by rfl) ?_
  refine o_objInit hC (by exact hB.2.2.2.2.2) mX4_3 w_objI w_objC dX4_init_1 (by rw [hB.2.1]; first | exact Nat.le_of_ble_eq_true rfl | (dsimp only; omega)) (by rw [hB.2.1]; first | exact Nat.le_of_ble_eq_true rfl | (dsimp only; omega)) ?_
  refine o_aload_n hC dX4_init_4 (by rfl) ?_
  refine o_bipush (v := nI 80) hC dX4_init_5 (by decide +kernel) ?_
  refine o_anew (t0 := 3) (N' := 80) hC kX4_9 (va_AO.use (hC.2.2.2.2.1 _ aoX5)) rfl (nI_pos (by decide)) (nI_clamp (by decide)) (by decide) (by rw [hB.2.1]; first | exact Nat.le_of_ble_eq_true rfl | (dsimp only; omega)) (by rw [hB.2.1]; first | exact Nat.le_of_ble_eq_true rfl | (dsimp only; omega)) dX4_init_7 ?_
  refine o_putf hC (fX4_11 hC rfl) (fwX4 rfl rfl rfl (Or.inr ⟨rfl, hB.2.2.2.2.1, rfl⟩)) dX4_init_10 (by repeat (first | with_reducible assumption | (rw [rl_u_s]; done) | (rw [rl_u_s]; rfl) | rw [rl_u_n (by first | with_reducible assumption | omega)])) (Nat.le_of_ble_eq_true rfl) ?_
  try simp only [List.set_cons_zero, List.set_cons_succ]
  refine o_iconst (v := nI 0) hC dX4_init_13 (by decide +kernel) ?_
  refine o_istore_n hC dX4_init_14 (Nat.le_of_ble_eq_true rfl) ?_
  refine loop r 0 _ (fun _ => none) (by omega) ⟨by repeat (first | with_reducible assumption | (rw [rl_u_s]; done) | (rw [rl_u_s]; rfl) | rw [rl_u_n (by first | with_reducible assumption | omega)]), by repeat (first | with_reducible assumption | (rw [rl_u_s]; done) | (rw [rl_u_s]; rfl) | rw [rl_u_n (by first | with_reducible assumption | omega)]), fun i hi => by rw [if_neg (by omega)], fun i hi => by omega, fun q hq => ?_⟩
  repeat (first | rfl | rw [rl_u_n (by omega)])
