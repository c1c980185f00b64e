/-! RowLineage in every state: resultTuple, forgetWhatNodesGave -/

set_option maxHeartbeats 4000000 in
set_option maxRecDepth 100000 in
theorem cg_X7_resultTuple (l : Launch) (D : va_G) (ids : Nat → ClassId) (H0 : Heap) (h : rl_H) (n : Nat) (x : Nat) (s : cl_S) (c : cl_N) (q : Int32) (hc : cl_at ids h x s c) : rl_Met l (rl_e D ids H0) rl_BW rl_Ns yX7_resultTuple cX7_resultTuple 3 (some (.object "RowLineage$Tuple")) ({ frames := 2, cells := 0, slots := 0, locals := 42 }) [.ref x, .int q] h n (fun v h' n' => ∃ z : Value, v = some z ∧ h' = h ∧ n' = n ∧ (z = .null ∨ ∃ j i : Nat, j < c.2.2.1 ∧ i < 80 ∧ c.2.2.2.2.1 = nI j ∧ z = .ref (c.1 j + 1 + 2 + 5 * i))) := by
  obtain ⟨c1, c2, c3, ⟨pn, c4, c5⟩, ⟨pt, c6, c7⟩, c8, c9, c10, c11, c12, c13, c14, c15⟩ := id hc
  refine rl_Met.of (by decide +kernel) (Nat.le_of_ble_eq_true rfl) ?_
  intro X hC hB
  show rl_G X (rl_e D ids H0) 0 [some (.ref x), some (.int q), none] [] h n 0 0
  refine o_aload_n hC dX7_resultTuple_0 (by rfl) ?_
  refine o_aload_n hC dX7_resultTuple_1 (by rfl) ?_
  refine o_getf hC (fX7_49 hC rfl) dX7_resultTuple_2 (by repeat (first | with_reducible assumption | (rw [rl_u_s]; done) | (rw [rl_u_s]; rfl) | rw [rl_u_n (by first | with_reducible assumption | omega)])) (by first | rfl | with_reducible assumption) ?_
  refine o_callV1 hC rl_BW_good rl_Ns_nw (by exact hB.2.2.2.2.2) YX7_tableOf IX7_tableOf VX7_tableOf (mX7_127 hC) (by rw [hB.1]; exact cg_X7_tableOf l D ids H0 _ _ x s c _ hc) (by exact c1) rfl rfl (Nat.le_of_ble_eq_true rfl) (by rw [hB.2.1]; first | exact Nat.le_of_ble_eq_true rfl | (dsimp only; omega)) (by rw [hB.2.1]; first | exact Nat.le_of_ble_eq_true rfl | (dsimp only; omega)) (by rw [hB.2.1]; first | exact Nat.le_of_ble_eq_true rfl | (dsimp only; omega)) (by rw [hB.2.1]; first | exact Nat.le_of_ble_eq_true rfl | (dsimp only; omega)) dX7_resultTuple_5 (fun v h_5 n_5 p_5 => ?_)
  obtain ⟨z, rfl, rfl, rfl, hz⟩ := p_5
  try dsimp only [Option.toList, List.cons_append, List.nil_append]
  rcases hz with ⟨rfl, -⟩ | ⟨j, hj, e, rfl⟩
  · try dsimp only [Option.toList, List.cons_append, List.nil_append]
    refine o_astore_n hC dX7_resultTuple_8 (Nat.le_of_ble_eq_true rfl) ?_
    refine o_iload_n hC dX7_resultTuple_9 (by rfl) ?_
    refine o_if_lt (tgt := 30) hC dX7_resultTuple_10 (by decide) (fun c_10 => ?_) (fun c_10 => ?_)
    · refine o_null hC dX7_resultTuple_30 ?_
      refine o_aret hC hB (by first | exact Or.inl ⟨_, rfl⟩ | exact Or.inr ⟨_, rfl⟩) (by first | exact Or.inl rfl | exact Or.inr ⟨_, rfl⟩) dX7_resultTuple_31 (Nat.le_of_ble_eq_true rfl) (Nat.le_of_ble_eq_true rfl) ?_
      exact ⟨_, rfl, rfl, rfl, Or.inl rfl⟩
    · refine o_iload_n hC dX7_resultTuple_13 (by rfl) ?_
      refine o_aload_n hC dX7_resultTuple_14 (by rfl) ?_
      refine o_getf hC (fX7_138 hC rfl) dX7_resultTuple_15 (by repeat (first | with_reducible assumption | (rw [rl_u_s]; done) | (rw [rl_u_s]; rfl) | rw [rl_u_n (by first | with_reducible assumption | omega)])) (by first | rfl | with_reducible assumption) ?_
      refine o_icmp_ge (tgt := 30) hC dX7_resultTuple_18 (by decide) (fun c_18 => ?_) (fun c_18 => ?_)
      · refine o_null hC dX7_resultTuple_30 ?_
        refine o_aret hC hB (by first | exact Or.inl ⟨_, rfl⟩ | exact Or.inr ⟨_, rfl⟩) (by first | exact Or.inl rfl | exact Or.inr ⟨_, rfl⟩) dX7_resultTuple_31 (Nat.le_of_ble_eq_true rfl) (Nat.le_of_ble_eq_true rfl) ?_
        exact ⟨_, rfl, rfl, rfl, Or.inl rfl⟩
      · exact absurd (nI_of_lt (by decide) c_10 c_18) (fun ⟨j, hj, _⟩ => absurd hj (by omega))
  · try dsimp only [Option.toList, List.cons_append, List.nil_append]
    obtain ⟨wd, sz, P, S, t1, ⟨tf, t2, t3⟩, t4, t5, t6, t7⟩ := c13 j (by omega)
    refine o_astore_n hC dX7_resultTuple_8 (Nat.le_of_ble_eq_true rfl) ?_
    refine o_iload_n hC dX7_resultTuple_9 (by rfl) ?_
    refine o_if_lt (tgt := 30) hC dX7_resultTuple_10 (by decide) (fun c_10 => ?_) (fun c_10 => ?_)
    · refine o_null hC dX7_resultTuple_30 ?_
      refine o_aret hC hB (by first | exact Or.inl ⟨_, rfl⟩ | exact Or.inr ⟨_, rfl⟩) (by first | exact Or.inl rfl | exact Or.inr ⟨_, rfl⟩) dX7_resultTuple_31 (Nat.le_of_ble_eq_true rfl) (Nat.le_of_ble_eq_true rfl) ?_
      first
      | exact ⟨_, rfl, rfl, rfl, Or.inr ⟨j, P u, hj, t4 u (by omega), e, rfl⟩⟩
      | exact ⟨_, rfl, rfl, rfl, Or.inl rfl⟩
    · refine o_iload_n hC dX7_resultTuple_13 (by rfl) ?_
      refine o_aload_n hC dX7_resultTuple_14 (by rfl) ?_
      refine o_getf hC (fX7_138 hC rfl) dX7_resultTuple_15 (by repeat (first | with_reducible assumption | (rw [rl_u_s]; done) | (rw [rl_u_s]; rfl) | rw [rl_u_n (by first | with_reducible assumption | omega)])) (by first | rfl | with_reducible assumption) ?_
      refine o_icmp_ge (tgt := 30) hC dX7_resultTuple_18 (by decide) (fun c_18 => ?_) (fun c_18 => ?_)
      · refine o_null hC dX7_resultTuple_30 ?_
        refine o_aret hC hB (by first | exact Or.inl ⟨_, rfl⟩ | exact Or.inr ⟨_, rfl⟩) (by first | exact Or.inl rfl | exact Or.inr ⟨_, rfl⟩) dX7_resultTuple_31 (Nat.le_of_ble_eq_true rfl) (Nat.le_of_ble_eq_true rfl) ?_
        first
        | exact ⟨_, rfl, rfl, rfl, Or.inr ⟨j, P u, hj, t4 u (by omega), e, rfl⟩⟩
        | exact ⟨_, rfl, rfl, rfl, Or.inl rfl⟩
      · obtain ⟨u, hu, rfl⟩ := nI_of_lt (k := sz) (by omega) c_10 c_18
        refine o_aload_n hC dX7_resultTuple_21 (by rfl) ?_
        refine o_getf hC (fX7_195 hC rfl) dX7_resultTuple_22 (by repeat (first | with_reducible assumption | (rw [rl_u_s]; done) | (rw [rl_u_s]; rfl) | rw [rl_u_n (by first | with_reducible assumption | omega)])) (by first | rfl | with_reducible assumption) ?_
        refine o_iload_n hC dX7_resultTuple_25 (by rfl) ?_
        refine o_aaldN (t0 := 3) (k := u) hC rfl dX7_resultTuple_26 t2 (by omega) (by decide) ?_
        rw [t3 u (by omega)]
        show rl_G X _ _ _ (.ref _ :: _) _ _ _ _
        refine o_goto (tgt := 31) hC dX7_resultTuple_27 (by decide) ?_
        refine o_aret hC hB (by first | exact Or.inl ⟨_, rfl⟩ | exact Or.inr ⟨_, rfl⟩) (by first | exact Or.inl rfl | exact Or.inr ⟨_, rfl⟩) dX7_resultTuple_31 (Nat.le_of_ble_eq_true rfl) (Nat.le_of_ble_eq_true rfl) ?_
        first
        | exact ⟨_, rfl, rfl, rfl, Or.inr ⟨j, P u, hj, t4 u (by omega), e, rfl⟩⟩
        | exact ⟨_, rfl, rfl, rfl, Or.inl rfl⟩

/-- the first of the Nodes are UNKNOWN again -/
def cl_un (N : Nat → Nat → Int32) (t : Nat) : Nat → Nat → Int32 := fun k i => if k < t ∧ i = 8 then nI 0 else N k i

set_option maxHeartbeats 4000000 in
set_option maxRecDepth 100000 in
theorem cg_X7_forgetWhatNodesGave (l : Launch) (D : va_G) (ids : Nat → ClassId) (H0 : Heap) (h : rl_H) (n : Nat) (x : Nat) (s : cl_S) (c : cl_N) (hc : cl_at ids h x s c) : rl_Met l (rl_e D ids H0) rl_BW rl_Ns yX7_forgetWhatNodesGave cX7_forgetWhatNodesGave 2 none ({ frames := 0, cells := 0, slots := 0, locals := 0 }) [.ref x] h n (fun v h' n' => v = none ∧ n' = n ∧ cl_at ids h' x s (c.1, c.2.1, c.2.2.1, cl_un c.2.2.2.1 c.2.2.1, -1, c.2.2.2.2.2) ∧ ∀ q, (∀ k, k < c.2.2.1 → q ≠ c.1 k) → q ≠ x → h' q = h q) := by
  obtain ⟨c1, c2, c3, ⟨pn, c4, c5⟩, ⟨pt, c6, c7⟩, c8, c9, c10, c11, c12, c13, c14, c15⟩ := id hc
  refine rl_Met.of (by decide +kernel) (Nat.le_of_ble_eq_true rfl) ?_
  intro X hC hB
  have loop : ∀ (m t : Nat) (h1 : rl_H), t + m = c.2.2.1 → (∀ q, (∀ k, k < t → q ≠ c.1 k) → h1 q = h q) → (∀ k, k < t → h1 (c.1 k) = some (cl_nd (cl_un c.2.2.2.1 c.2.2.1) k)) → rl_G X (rl_e D ids H0) 2 [some (.ref x), some (.int (nI t))] [] h1 n 0 0 := by
    intro m
    induction m with
    | zero =>
      intro t h1 hm hf hd
      have f0 : ∀ q, q < x + 70 → h1 q = h q := fun q hq => hf q (fun k hk e => by have := c14 k (by omega); omega)
      have g1 := (f0 x (by omega)).trans c1
      have g4 := (f0 (x + 63) (by omega)).trans c4
      refine o_iload_n hC dX7_forgetWhatNodesGave_2 (by rfl) ?_
      refine o_aload_n hC dX7_forgetWhatNodesGave_3 (by rfl) ?_
      refine o_getf hC (fX7_78 hC rfl) dX7_forgetWhatNodesGave_4 (by repeat (first | with_reducible assumption | (rw [rl_u_s]; done) | (rw [rl_u_s]; rfl) | rw [rl_u_n (by first | with_reducible assumption | omega)])) (by first | rfl | with_reducible assumption) ?_
      refine o_icmp_ge (tgt := 26) hC dX7_forgetWhatNodesGave_7 (by decide) (fun c_7 => ?_) (fun c_7 => ?_)
      · refine o_aload_n hC dX7_forgetWhatNodesGave_26 (by rfl) ?_
        refine o_iconst (v := (-1 : Int32)) hC dX7_forgetWhatNodesGave_27 (by decide +kernel) ?_
        refine o_putf hC (fX7_49 hC rfl) (fwX7 rfl rfl rfl (Or.inl rfl)) dX7_forgetWhatNodesGave_28 (by repeat (first | with_reducible assumption | (rw [rl_u_s]; done) | (rw [rl_u_s]; rfl) | rw [rl_u_n (by first | with_reducible assumption | omega)])) (Nat.le_of_ble_eq_true rfl) ?_
        try simp only [List.set_cons_zero, List.set_cons_succ]
        refine o_vret hC hB dX7_forgetWhatNodesGave_31 (Nat.le_of_ble_eq_true rfl) (Nat.le_of_ble_eq_true rfl) ?_
        have e : t = c.2.2.1 := by omega
        subst e
        have F : ∀ q, (∀ k, k < c.2.2.1 → q ≠ c.1 k) → q ≠ x → rl_u h1 x (.inr (7, [.ref (x + 1), .ref (x + 41), .ref (x + 63), .ref (x + 64), .ref (x + 65), .ref (x + 67), .int (nI c.2.2.1), .int (-1), .long c.2.2.2.2.2])) q = h q := fun q a1 a2 => (rl_u_n a2).trans (hf q a1)
        have F1 : ∀ q, x < q → q < x + 70 → rl_u h1 x (.inr (7, [.ref (x + 1), .ref (x + 41), .ref (x + 63), .ref (x + 64), .ref (x + 65), .ref (x + 67), .int (nI c.2.2.1), .int (-1), .long c.2.2.2.2.2])) q = h q := fun q a1 a2 => F q (fun k hk e => by have := c14 k (by omega); omega) (by omega)
        have F2 : ∀ k q, k < c.2.1 → c.1 k + 1 ≤ q → q < c.1 k + 403 → rl_u h1 x (.inr (7, [.ref (x + 1), .ref (x + 41), .ref (x + 63), .ref (x + 64), .ref (x + 65), .ref (x + 67), .int (nI c.2.2.1), .int (-1), .long c.2.2.2.2.2])) q = h q := fun k q hk a1 a2 => F q (fun i hi e => by
          rcases Nat.lt_trichotomy i k with z | z | z
          · have := c15 i k z hk
            omega
          · subst z
            omega
          · have := c15 k i z (by omega)
            omega) (by have := c14 k hk; omega)
        refine ⟨rfl, rfl, ⟨rl_u_s, c2.eqv (fun q a1 a2 => F1 q (by omega) (by omega)), ⟨c3.choose, c3.choose_spec.eqv (fun q a1 a2 => F1 q (by omega) (by omega))⟩, ⟨pn, (F1 _ (by omega) (by omega)).trans c4, c5⟩, ⟨pt, (F1 _ (by omega) (by omega)).trans c6, c7⟩, (F1 _ (by omega) (by omega)).trans c8, c9.eqv (fun q a1 a2 => F1 q (by omega) (by omega)), c10, c11, fun k hk => ?_, fun k hk => ?_, c14, c15⟩, F⟩
        · have hk : k < c.2.1 := hk
          show rl_u h1 x _ (c.1 k) = some (cl_nd (cl_un c.2.2.2.1 c.2.2.1) k)
          rcases Nat.lt_or_ge k c.2.2.1 with z | z
          · rw [rl_u_n (by have := c14 k hk; omega)]
            exact hd k z
          · refine (F _ (fun i hi e => ?_) (by have := c14 k hk; omega)).trans ((c12 k hk).trans ?_)
            · have := c15 i k (by omega) hk
              omega
            · show some (cl_nd c.2.2.2.1 k) = some (cl_nd (cl_un c.2.2.2.1 c.2.2.1) k)
              unfold cl_nd cl_un
              simp only [Nat.not_lt.mpr z, false_and, if_false]
        · obtain ⟨wd, hw⟩ := c13 k hk
          exact ⟨wd, hw.eqv (fun q a1 a2 => F2 k q hk (by omega) (by omega))⟩
      · exact absurd (nI_le (by omega) (by omega)) c_7
    | succ m ih =>
      intro t h1 hm hf hd
      have f0 : ∀ q, q < x + 70 → h1 q = h q := fun q hq => hf q (fun k hk e => by have := c14 k (by omega); omega)
      have g1 := (f0 x (by omega)).trans c1
      have g4 := (f0 (x + 63) (by omega)).trans c4
      have g5 : h1 (c.1 t) = some (cl_nd c.2.2.2.1 t) := (hf _ (fun k hk e => by have := c15 k t hk (by omega); omega)).trans (c12 t (by omega))
      unfold cl_nd at g5
      refine o_iload_n hC dX7_forgetWhatNodesGave_2 (by rfl) ?_
      refine o_aload_n hC dX7_forgetWhatNodesGave_3 (by rfl) ?_
      refine o_getf hC (fX7_78 hC rfl) dX7_forgetWhatNodesGave_4 (by repeat (first | with_reducible assumption | (rw [rl_u_s]; done) | (rw [rl_u_s]; rfl) | rw [rl_u_n (by first | with_reducible assumption | omega)])) (by first | rfl | with_reducible assumption) ?_
      refine o_icmp_ge (tgt := 26) hC dX7_forgetWhatNodesGave_7 (by decide) (fun c_7 => ?_) (fun c_7 => ?_)
      · exact absurd c_7 (nI_ge (by omega) (by omega))
      · refine o_aload_n hC dX7_forgetWhatNodesGave_10 (by rfl) ?_
        refine o_getf hC (fX7_25 hC rfl) dX7_forgetWhatNodesGave_11 (by repeat (first | with_reducible assumption | (rw [rl_u_s]; done) | (rw [rl_u_s]; rfl) | rw [rl_u_n (by first | with_reducible assumption | omega)])) (by first | rfl | with_reducible assumption) ?_
        refine o_iload_n hC dX7_forgetWhatNodesGave_14 (by rfl) ?_
        refine o_aaldN (t0 := 5) (k := t) hC rfl dX7_forgetWhatNodesGave_15 g4 (by omega) (by decide) ?_
        rw [c5 t (by omega), if_pos (by omega)]
        show rl_G X _ _ _ (.ref _ :: _) _ _ _ _
        refine o_iconst (v := nI 0) hC dX7_forgetWhatNodesGave_16 (by decide +kernel) ?_
        refine o_putf hC (fX7_121 hC rfl) (fwX1 rfl rfl rfl (Or.inl rfl)) dX7_forgetWhatNodesGave_17 (by repeat (first | with_reducible assumption | (rw [rl_u_s]; done) | (rw [rl_u_s]; rfl) | rw [rl_u_n (by first | with_reducible assumption | omega)])) (Nat.le_of_ble_eq_true rfl) ?_
        try simp only [List.set_cons_zero, List.set_cons_succ]
        refine o_iinc hC dX7_forgetWhatNodesGave_20 (by rfl) (rl_inc _) (Nat.le_of_ble_eq_true rfl) ?_
        refine o_goto (tgt := 2) hC dX7_forgetWhatNodesGave_23 (by decide) ?_
        refine ih (t + 1) _ (by omega) (fun q hq => ?_) (fun k hk => ?_)
        · rw [rl_u_n (hq t (by omega))]
          exact hf q (fun k hk => hq k (by omega))
        · by_cases z : k = t
          · subst z
            rw [rl_u_s]
            unfold cl_nd cl_un
            simp only [show k < c.2.2.1 by omega, true_and, if_true]
            rfl
          · rw [rl_u_n (by
              intro e
              rcases Nat.lt_or_ge k t with w | w
              · have := c15 k t w (by omega)
                omega
              · omega)]
            exact hd k (by omega)
  show rl_G X (rl_e D ids H0) 0 [some (.ref x), none] [] h n 0 0
  refine o_iconst (v := nI 0) hC dX7_forgetWhatNodesGave_0 (by decide +kernel) ?_
  refine o_istore_n hC dX7_forgetWhatNodesGave_1 (Nat.le_of_ble_eq_true rfl) ?_
  exact loop c.2.2.1 0 h (by omega) (fun q _ => rfl) (fun k hk => absurd hk (by omega))
