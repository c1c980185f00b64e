/-! THE MODEL, functionally: cell, way, thrown -/

set_option maxHeartbeats 4000000 in
set_option maxRecDepth 100000 in
theorem cf_X8_cell (l : Launch) (D : va_G) (ids : Nat → ClassId) (H0 : Heap) (h : rl_H) (n : Nat) (m : Nat) (T : md_T) (fu : Int32) (k : Nat) (A : md_D) (S : md_A) (z : sh_S) (res : List arow) (rw : Nat) (q kk : Int32) (hq : mf ids h h m T fu k A) (hu : md_un ids h m T fu k S z) (hr : mrs A T res rw)  : rl_Met l (rl_e D ids H0) rl_BW rl_Ns yX8_cell cX8_cell 3 (some .int) ({ frames := 1, cells := 0, slots := 0, locals := 23 }) [.ref m, .int q, .int kk] h n (fun v h' n' => ∃ (r cd : Int32), v = some (.int r) ∧ n' = n ∧ mf ids h h' m (cd, T.2) fu k A ∧ ((¬ (∃ t0 k0 : Nat, t0 < res.length ∧ q = nI t0 ∧ k0 < rw ∧ kk = nI k0) ∧ cd = nI 1) ∨ (cd = nI 0 ∧ ∃ t0 k0 : Nat, t0 < res.length ∧ q = nI t0 ∧ k0 < rw ∧ kk = nI k0 ∧ r = (ark res t0).1.getD k0 0))) := by
  obtain ⟨hm0, g12, g13, g14, g15, g16, g17, g18, g19, g20, g21, g22⟩ := id hq
  have g0 := hm0.1
  have gk := hm0.2.1
  have b13 := hq.b13
  have b15 := hq.b15
  have b21 := hq.b21
  have hq0 := hq.ob (nI 0, T.2) fu k gk
  have r80 := hr.2.1.2.2
  have h16 := hr.1.1
  refine rl_Met.of (by decide +kernel) (Nat.le_of_ble_eq_true rfl) ?_
  intro X hC hB
  show rl_G X (rl_e D ids H0) 0 [some (.ref m), some (.int q), some (.int kk)] [] h n 0 0
  refine o_aload_n hC dX8_cell_0 (by rfl) ?_
  refine o_iconst (v := nI 0) hC dX8_cell_1 (by decide +kernel) ?_
  refine o_putf hC (fX8_78 hC rfl) (fwX8 rfl rfl rfl (Or.inl rfl)) dX8_cell_2 (by repeat (first | with_reducible assumption | (rw [rl_u_s]; done) | (rw [rl_u_s]; rfl) | rw [rl_u_n (by first | with_reducible assumption | omega)])) (Nat.le_of_ble_eq_true rfl) ?_
  try simp only [List.set_cons_zero, List.set_cons_succ]
  refine o_aload_n hC dX8_cell_5 (by rfl) ?_
  refine o_iload_n hC dX8_cell_6 (by rfl) ?_
  refine o_callV1 hC rl_BW_good rl_Ns_nw (by exact hB.2.2.2.2.2) YX8_isTuple IX8_isTuple VX8_isTuple (mX8_199 hC) (by rw [hB.1]; exact ct_X8_isTuple l D ids H0 _ _ m (m + 13) _ _ A.2.1 (by repeat (first | with_reducible assumption | (rw [rl_u_s]; done) | (rw [rl_u_s]; rfl) | rw [rl_u_n (by first | with_reducible assumption | omega)])) rfl (by repeat (first | with_reducible assumption | (rw [rl_u_s]; done) | (rw [rl_u_s]; rfl) | rw [rl_u_n (by first | with_reducible assumption | omega)]))) (by repeat (first | with_reducible assumption | (rw [rl_u_s]; done) | (rw [rl_u_s]; rfl) | rw [rl_u_n (by first | with_reducible assumption | omega)])) rfl rfl (Nat.le_of_ble_eq_true rfl) (by rw [hB.2.1]; first | exact Nat.le_of_ble_eq_true rfl | (dsimp only; omega)) (by rw [hB.2.1]; first | exact Nat.le_of_ble_eq_true rfl | (dsimp only; omega)) (by rw [hB.2.1]; first | exact Nat.le_of_ble_eq_true rfl | (dsimp only; omega)) (by rw [hB.2.1]; first | exact Nat.le_of_ble_eq_true rfl | (dsimp only; omega)) dX8_cell_7 (fun v h_7 n_7 p_7 => ?_)
  obtain ⟨rfl, rfl, rfl⟩ := p_7
  try dsimp only [Option.toList, List.cons_append, List.nil_append]
  by_cases hr9 : q < 0 ∨ A.2.1 16 ≤ q
  · rw [if_pos hr9]
    have nin : ¬ (∃ t : Nat, t < res.length ∧ q = nI t) := fun ⟨t, ht, e⟩ => hr9.elim (fun u => absurd u (by rw [e]; exact nI_pos (by omega))) (fun u => absurd u (by rw [h16, e]; exact nI_ge ht (by omega)))
    refine o_if_eq (tgt := 25) hC dX8_cell_10 (by decide) (fun c_10 => ?_) (fun c_10 => ?_)
    · refine o_aload_n hC dX8_cell_25 (by rfl) ?_
      refine o_iconst (v := nI 1) hC dX8_cell_26 (by decide +kernel) ?_
      refine o_putf hC (fX8_78 hC rfl) (fwX8 rfl rfl rfl (Or.inl rfl)) dX8_cell_27 (by repeat (first | with_reducible assumption | (rw [rl_u_s]; done) | (rw [rl_u_s]; rfl) | rw [rl_u_n (by first | with_reducible assumption | omega)])) (Nat.le_of_ble_eq_true rfl) ?_
      try simp only [List.set_cons_zero, List.set_cons_succ]
      refine o_iconst (v := nI 0) hC dX8_cell_30 (by decide +kernel) ?_
      refine o_iret hC hB dX8_cell_31 (Nat.le_of_ble_eq_true rfl) (Nat.le_of_ble_eq_true rfl) ?_
      exact ⟨_, _, rfl, rfl, (hq0.ob (nI 1, T.2) fu k gk), Or.inl ⟨fun ⟨t0, k0, a, b, _⟩ => nin ⟨t0, a, b⟩, rfl⟩⟩
    · exact absurd rfl c_10
  · rw [if_neg hr9]
    obtain ⟨t, htl, rfl⟩ := nI_of_lt (k := res.length) (by omega) (fun e => hr9 (Or.inl e)) (fun e => hr9 (Or.inr (by rw [h16]; exact e)))
    have ht : t < 80 := by omega
    have hrw := hr.1.2 t htl
    have hws : mws A (1280 + t) (ark res t).2 := hrw.2
    have g00 := hq0.1.1
    have hne : res ≠ [] := fun e => by rw [e] at htl; exact absurd htl (Nat.not_lt_zero t)
    have hrc : T.2.2.2.2.2.1 = nI rw := hr.2.2.2 hne
    have rw6 := hr.2.2.1
    refine o_if_eq (tgt := 25) hC dX8_cell_10 (by decide) (fun c_10 => ?_) (fun c_10 => ?_)
    · refine o_aload_n hC dX8_cell_25 (by rfl) ?_
      refine o_iconst (v := nI 1) hC dX8_cell_26 (by decide +kernel) ?_
      refine o_putf hC (fX8_78 hC rfl) (fwX8 rfl rfl rfl (Or.inl rfl)) dX8_cell_27 (by repeat (first | with_reducible assumption | (rw [rl_u_s]; done) | (rw [rl_u_s]; rfl) | rw [rl_u_n (by first | with_reducible assumption | omega)])) (Nat.le_of_ble_eq_true rfl) ?_
      try simp only [List.set_cons_zero, List.set_cons_succ]
      refine o_iconst (v := nI 0) hC dX8_cell_30 (by decide +kernel) ?_
      refine o_iret hC hB dX8_cell_31 (Nat.le_of_ble_eq_true rfl) (Nat.le_of_ble_eq_true rfl) ?_
      first
      | exact absurd c_10 (by decide +kernel)
      | exact ⟨_, _, rfl, rfl, (hq0.ob (nI 1, T.2) fu k gk), Or.inl ⟨by first | exact (fun ⟨t0, k0, _, _, a, e⟩ => absurd c_14 (by rw [e]; exact nI_pos (by omega))) | exact (fun ⟨t0, k0, _, _, a, e⟩ => c_22 (by rw [hrc, e]; exact nI_lt a (by omega))), rfl⟩⟩
    · refine o_iload_n hC dX8_cell_13 (by rfl) ?_
      refine o_if_lt (tgt := 25) hC dX8_cell_14 (by decide) (fun c_14 => ?_) (fun c_14 => ?_)
      · refine o_aload_n hC dX8_cell_25 (by rfl) ?_
        refine o_iconst (v := nI 1) hC dX8_cell_26 (by decide +kernel) ?_
        refine o_putf hC (fX8_78 hC rfl) (fwX8 rfl rfl rfl (Or.inl rfl)) dX8_cell_27 (by repeat (first | with_reducible assumption | (rw [rl_u_s]; done) | (rw [rl_u_s]; rfl) | rw [rl_u_n (by first | with_reducible assumption | omega)])) (Nat.le_of_ble_eq_true rfl) ?_
        try simp only [List.set_cons_zero, List.set_cons_succ]
        refine o_iconst (v := nI 0) hC dX8_cell_30 (by decide +kernel) ?_
        refine o_iret hC hB dX8_cell_31 (Nat.le_of_ble_eq_true rfl) (Nat.le_of_ble_eq_true rfl) ?_
        first
        | exact absurd c_10 (by decide +kernel)
        | exact ⟨_, _, rfl, rfl, (hq0.ob (nI 1, T.2) fu k gk), Or.inl ⟨by first | exact (fun ⟨t0, k0, _, _, a, e⟩ => absurd c_14 (by rw [e]; exact nI_pos (by omega))) | exact (fun ⟨t0, k0, _, _, a, e⟩ => c_22 (by rw [hrc, e]; exact nI_lt a (by omega))), rfl⟩⟩
      · refine o_iload_n hC dX8_cell_17 (by rfl) ?_
        refine o_aload_n hC dX8_cell_18 (by rfl) ?_
        refine o_getf hC (fX8_196 hC rfl) dX8_cell_19 (by repeat (first | with_reducible assumption | (rw [rl_u_s]; done) | (rw [rl_u_s]; rfl) | rw [rl_u_n (by first | with_reducible assumption | omega)])) (by first | rfl | with_reducible assumption) ?_
        refine o_icmp_lt (tgt := 32) hC dX8_cell_22 (by decide) (fun c_22 => ?_) (fun c_22 => ?_)
        · obtain ⟨c0, hc0, rfl⟩ := nI_of_lt (k := rw) (by omega) c_14 (fun e => absurd c_22 (by rw [hrc]; exact Int32.not_lt.mpr e))
          refine o_aload_n hC dX8_cell_32 (by rfl) ?_
          refine o_bipush (v := nI 16) hC dX8_cell_33 (by decide +kernel) ?_
          refine o_iload_n hC dX8_cell_35 (by rfl) ?_
          refine o_iload_n hC dX8_cell_36 (by rfl) ?_
          refine o_callV3 hC rl_BW_good rl_Ns_nw (by exact hB.2.2.2.2.2) YX8_cellAt IX8_cellAt VX8_cellAt (mX8_138 hC) (by rw [hB.1]; exact cf_X8_cellAt l D ids H0 _ _ m _ _ _ _ 16 t c0 hq0.rf (by omega)) (by exact hq0.1.1) rfl rfl (Nat.le_of_ble_eq_true rfl) (by rw [hB.2.1]; first | exact Nat.le_of_ble_eq_true rfl | (dsimp only; omega)) (by rw [hB.2.1]; first | exact Nat.le_of_ble_eq_true rfl | (dsimp only; omega)) (by rw [hB.2.1]; first | exact Nat.le_of_ble_eq_true rfl | (dsimp only; omega)) (by rw [hB.2.1]; first | exact Nat.le_of_ble_eq_true rfl | (dsimp only; omega)) dX8_cell_37 (fun v h_37 n_37 p_37 => ?_)
          obtain ⟨rfl, rfl, rfl⟩ := p_37
          try dsimp only [Option.toList, List.cons_append, List.nil_append]
          refine o_iret hC hB dX8_cell_40 (Nat.le_of_ble_eq_true rfl) (Nat.le_of_ble_eq_true rfl) ?_
          exact ⟨_, _, rfl, rfl, hq0, Or.inr ⟨rfl, t, c0, htl, rfl, hc0, rfl, by rw [← hrw.1]; exact (rsg_get hc0).symm⟩⟩
        · refine o_aload_n hC dX8_cell_25 (by rfl) ?_
          refine o_iconst (v := nI 1) hC dX8_cell_26 (by decide +kernel) ?_
          refine o_putf hC (fX8_78 hC rfl) (fwX8 rfl rfl rfl (Or.inl rfl)) dX8_cell_27 (by repeat (first | with_reducible assumption | (rw [rl_u_s]; done) | (rw [rl_u_s]; rfl) | rw [rl_u_n (by first | with_reducible assumption | omega)])) (Nat.le_of_ble_eq_true rfl) ?_
          try simp only [List.set_cons_zero, List.set_cons_succ]
          refine o_iconst (v := nI 0) hC dX8_cell_30 (by decide +kernel) ?_
          refine o_iret hC hB dX8_cell_31 (Nat.le_of_ble_eq_true rfl) (Nat.le_of_ble_eq_true rfl) ?_
          first
          | exact absurd c_10 (by decide +kernel)
          | exact ⟨_, _, rfl, rfl, (hq0.ob (nI 1, T.2) fu k gk), Or.inl ⟨by first | exact (fun ⟨t0, k0, _, _, a, e⟩ => absurd c_14 (by rw [e]; exact nI_pos (by omega))) | exact (fun ⟨t0, k0, _, _, a, e⟩ => c_22 (by rw [hrc, e]; exact nI_lt a (by omega))), rfl⟩⟩

set_option maxHeartbeats 4000000 in
set_option maxRecDepth 100000 in
theorem cf_X8_way (l : Launch) (D : va_G) (ids : Nat → ClassId) (H0 : Heap) (h : rl_H) (n : Nat) (m : Nat) (T : md_T) (fu : Int32) (k : Nat) (A : md_D) (S : md_A) (z : sh_S) (res : List arow) (rw : Nat) (q kk w : Int32) (hq : mf ids h h m T fu k A) (hu : md_un ids h m T fu k S z) (hr : mrs A T res rw)  : rl_Met l (rl_e D ids H0) rl_BW rl_Ns yX8_way cX8_way 5 (some .long) ({ frames := 1, cells := 0, slots := 0, locals := 21 }) [.ref m, .int q, .int kk, .int w] h n (fun v h' n' => ∃ (r : Int64) (cd : Int32), v = some (.long r) ∧ n' = n ∧ mf ids h h' m (cd, T.2) fu k A ∧ ((¬ (∃ t0 k0 : Nat, t0 < res.length ∧ q = nI t0 ∧ k0 < (ark res t0).2.length ∧ kk = nI k0) ∧ cd = nI 1) ∨ ((∃ t0 k0 : Nat, t0 < res.length ∧ q = nI t0 ∧ k0 < (ark res t0).2.length ∧ kk = nI k0) ∧ w ≠ nI 0 ∧ w ≠ nI 1 ∧ cd = nI 2) ∨ (cd = nI 0 ∧ ∃ t0 k0 : Nat, t0 < res.length ∧ q = nI t0 ∧ k0 < (ark res t0).2.length ∧ kk = nI k0 ∧ ((w = nI 0 ∧ r = (tfn (ark res t0).2 k0).1) ∨ (w = nI 1 ∧ r = (tfn (ark res t0).2 k0).2))))) := by
  obtain ⟨hm0, g12, g13, g14, g15, g16, g17, g18, g19, g20, g21, g22⟩ := id hq
  have g0 := hm0.1
  have gk := hm0.2.1
  have b13 := hq.b13
  have b15 := hq.b15
  have b21 := hq.b21
  have hq0 := hq.ob (nI 0, T.2) fu k gk
  have r80 := hr.2.1.2.2
  have h16 := hr.1.1
  refine rl_Met.of (by decide +kernel) (Nat.le_of_ble_eq_true rfl) ?_
  intro X hC hB
  show rl_G X (rl_e D ids H0) 0 [some (.ref m), some (.int q), some (.int kk), some (.int w), none] [] h n 0 0
  refine o_aload_n hC dX8_way_0 (by rfl) ?_
  refine o_iconst (v := nI 0) hC dX8_way_1 (by decide +kernel) ?_
  refine o_putf hC (fX8_78 hC rfl) (fwX8 rfl rfl rfl (Or.inl rfl)) dX8_way_2 (by repeat (first | with_reducible assumption | (rw [rl_u_s]; done) | (rw [rl_u_s]; rfl) | rw [rl_u_n (by first | with_reducible assumption | omega)])) (Nat.le_of_ble_eq_true rfl) ?_
  try simp only [List.set_cons_zero, List.set_cons_succ]
  refine o_aload_n hC dX8_way_5 (by rfl) ?_
  refine o_iload_n hC dX8_way_6 (by rfl) ?_
  refine o_callV1 hC rl_BW_good rl_Ns_nw (by exact hB.2.2.2.2.2) YX8_isTuple IX8_isTuple VX8_isTuple (mX8_199 hC) (by rw [hB.1]; exact ct_X8_isTuple l D ids H0 _ _ m (m + 13) _ _ A.2.1 (by repeat (first | with_reducible assumption | (rw [rl_u_s]; done) | (rw [rl_u_s]; rfl) | rw [rl_u_n (by first | with_reducible assumption | omega)])) rfl (by repeat (first | with_reducible assumption | (rw [rl_u_s]; done) | (rw [rl_u_s]; rfl) | rw [rl_u_n (by first | with_reducible assumption | omega)]))) (by repeat (first | with_reducible assumption | (rw [rl_u_s]; done) | (rw [rl_u_s]; rfl) | rw [rl_u_n (by first | with_reducible assumption | omega)])) rfl rfl (Nat.le_of_ble_eq_true rfl) (by rw [hB.2.1]; first | exact Nat.le_of_ble_eq_true rfl | (dsimp only; omega)) (by rw [hB.2.1]; first | exact Nat.le_of_ble_eq_true rfl | (dsimp only; omega)) (by rw [hB.2.1]; first | exact Nat.le_of_ble_eq_true rfl | (dsimp only; omega)) (by rw [hB.2.1]; first | exact Nat.le_of_ble_eq_true rfl | (dsimp only; omega)) dX8_way_7 (fun v h_7 n_7 p_7 => ?_)
  obtain ⟨rfl, rfl, rfl⟩ := p_7
  try dsimp only [Option.toList, List.cons_append, List.nil_append]
  by_cases hr9 : q < 0 ∨ A.2.1 16 ≤ q
  · rw [if_pos hr9]
    have nin : ¬ (∃ t : Nat, t < res.length ∧ q = nI t) := fun ⟨t, ht, e⟩ => hr9.elim (fun u => absurd u (by rw [e]; exact nI_pos (by omega))) (fun u => absurd u (by rw [h16, e]; exact nI_ge ht (by omega)))
    refine o_if_eq (tgt := 31) hC dX8_way_10 (by decide) (fun c_10 => ?_) (fun c_10 => ?_)
    · refine o_aload_n hC dX8_way_31 (by rfl) ?_
      refine o_iconst (v := nI 1) hC dX8_way_32 (by decide +kernel) ?_
      refine o_putf hC (fX8_78 hC rfl) (fwX8 rfl rfl rfl (Or.inl rfl)) dX8_way_33 (by repeat (first | with_reducible assumption | (rw [rl_u_s]; done) | (rw [rl_u_s]; rfl) | rw [rl_u_n (by first | with_reducible assumption | omega)])) (Nat.le_of_ble_eq_true rfl) ?_
      try simp only [List.set_cons_zero, List.set_cons_succ]
      refine o_lconst (v := 0) hC dX8_way_36 (by decide +kernel) ?_
      refine o_lret hC hB dX8_way_37 (Nat.le_of_ble_eq_true rfl) (Nat.le_of_ble_eq_true rfl) ?_
      exact ⟨_, _, rfl, rfl, (hq0.ob (nI 1, T.2) fu k gk), Or.inl ⟨fun ⟨t0, k0, a, b, _⟩ => nin ⟨t0, a, b⟩, rfl⟩⟩
    · exact absurd rfl c_10
  · rw [if_neg hr9]
    obtain ⟨t, htl, rfl⟩ := nI_of_lt (k := res.length) (by omega) (fun e => hr9 (Or.inl e)) (fun e => hr9 (Or.inr (by rw [h16]; exact e)))
    have ht : t < 80 := by omega
    have hrw := hr.1.2 t htl
    have hws : mws A (1280 + t) (ark res t).2 := hrw.2
    have g00 := hq0.1.1
    have l12 := hws.2.1
    have hle : ∀ t0 : Nat, t0 < res.length → (ark res t0).2.length ≤ 12 := fun t0 h0 => (hr.1.2 t0 h0).2.2.1
    refine o_if_eq (tgt := 31) hC dX8_way_10 (by decide) (fun c_10 => ?_) (fun c_10 => ?_)
    · refine o_aload_n hC dX8_way_31 (by rfl) ?_
      refine o_iconst (v := nI 1) hC dX8_way_32 (by decide +kernel) ?_
      refine o_putf hC (fX8_78 hC rfl) (fwX8 rfl rfl rfl (Or.inl rfl)) dX8_way_33 (by repeat (first | with_reducible assumption | (rw [rl_u_s]; done) | (rw [rl_u_s]; rfl) | rw [rl_u_n (by first | with_reducible assumption | omega)])) (Nat.le_of_ble_eq_true rfl) ?_
      try simp only [List.set_cons_zero, List.set_cons_succ]
      refine o_lconst (v := 0) hC dX8_way_36 (by decide +kernel) ?_
      refine o_lret hC hB dX8_way_37 (Nat.le_of_ble_eq_true rfl) (Nat.le_of_ble_eq_true rfl) ?_
      first
      | exact absurd c_10 (by decide +kernel)
      | exact ⟨_, _, rfl, rfl, (hq0.ob (nI 1, T.2) fu k gk), Or.inl ⟨by first | exact (fun ⟨t0, k0, a0, b0, a, e⟩ => absurd c_14 (by have := hle t0 a0; rw [e]; exact nI_pos (by omega))) | exact (fun ⟨t0, k0, a0, b0, a, e⟩ => c_28 (by have := nI_inj2 (by omega) (by omega) b0; subst this; rw [e]; exact nI_lt a (by omega))), rfl⟩⟩
    · refine o_iload_n hC dX8_way_13 (by rfl) ?_
      refine o_if_lt (tgt := 31) hC dX8_way_14 (by decide) (fun c_14 => ?_) (fun c_14 => ?_)
      · refine o_aload_n hC dX8_way_31 (by rfl) ?_
        refine o_iconst (v := nI 1) hC dX8_way_32 (by decide +kernel) ?_
        refine o_putf hC (fX8_78 hC rfl) (fwX8 rfl rfl rfl (Or.inl rfl)) dX8_way_33 (by repeat (first | with_reducible assumption | (rw [rl_u_s]; done) | (rw [rl_u_s]; rfl) | rw [rl_u_n (by first | with_reducible assumption | omega)])) (Nat.le_of_ble_eq_true rfl) ?_
        try simp only [List.set_cons_zero, List.set_cons_succ]
        refine o_lconst (v := 0) hC dX8_way_36 (by decide +kernel) ?_
        refine o_lret hC hB dX8_way_37 (Nat.le_of_ble_eq_true rfl) (Nat.le_of_ble_eq_true rfl) ?_
        first
        | exact absurd c_10 (by decide +kernel)
        | exact ⟨_, _, rfl, rfl, (hq0.ob (nI 1, T.2) fu k gk), Or.inl ⟨by first | exact (fun ⟨t0, k0, a0, b0, a, e⟩ => absurd c_14 (by have := hle t0 a0; rw [e]; exact nI_pos (by omega))) | exact (fun ⟨t0, k0, a0, b0, a, e⟩ => c_28 (by have := nI_inj2 (by omega) (by omega) b0; subst this; rw [e]; exact nI_lt a (by omega))), rfl⟩⟩
      · refine o_iload_n hC dX8_way_17 (by rfl) ?_
        refine o_aload_n hC dX8_way_18 (by rfl) ?_
        refine o_getf hC (fX8_53 hC rfl) dX8_way_19 (by repeat (first | with_reducible assumption | (rw [rl_u_s]; done) | (rw [rl_u_s]; rfl) | rw [rl_u_n (by first | with_reducible assumption | omega)])) (by first | rfl | with_reducible assumption) ?_
        refine o_sipush (v := nI 1280) hC dX8_way_22 (by decide +kernel) ?_
        refine o_iload_n hC dX8_way_25 (by rfl) ?_
        refine o_iadd hC dX8_way_26 ?_
        try rw [nI_add]
        refine o_ialdN (t0 := 0) (k := 1280 + t) hC rfl dX8_way_27 (by repeat (first | with_reducible assumption | (rw [rl_u_s]; done) | (rw [rl_u_s]; rfl) | rw [rl_u_n (by first | with_reducible assumption | omega)])) (by omega) (by decide) ?_
        rw [hws.1]
        refine o_icmp_lt (tgt := 38) hC dX8_way_28 (by decide) (fun c_28 => ?_) (fun c_28 => ?_)
        · refine o_iload_n hC dX8_way_38 (by rfl) ?_
          refine o_if_lt (tgt := 47) hC dX8_way_39 (by decide) (fun c_39 => ?_) (fun c_39 => ?_)
          · refine o_aload_n hC dX8_way_47 (by rfl) ?_
            refine o_iconst (v := nI 2) hC dX8_way_48 (by decide +kernel) ?_
            refine o_putf hC (fX8_78 hC rfl) (fwX8 rfl rfl rfl (Or.inl rfl)) dX8_way_49 (by repeat (first | with_reducible assumption | (rw [rl_u_s]; done) | (rw [rl_u_s]; rfl) | rw [rl_u_n (by first | with_reducible assumption | omega)])) (Nat.le_of_ble_eq_true rfl) ?_
            try simp only [List.set_cons_zero, List.set_cons_succ]
            refine o_lconst (v := 0) hC dX8_way_52 (by decide +kernel) ?_
            refine o_lret hC hB dX8_way_53 (Nat.le_of_ble_eq_true rfl) (Nat.le_of_ble_eq_true rfl) ?_
            obtain ⟨k0, hk0, e0⟩ := nI_of_lt (k := (ark res t).2.length) (by omega) c_14 (fun e => absurd c_28 (Int32.not_lt.mpr e))
            exact ⟨_, _, rfl, rfl, (hq0.ob (nI 2, T.2) fu k gk), Or.inr (Or.inl ⟨⟨t, k0, htl, rfl, hk0, e0⟩, by first | exact (fun e => absurd c_39 (by rw [e]; decide +kernel)) | exact (fun e => c_44 (by rw [e]; decide +kernel)), by first | exact (fun e => absurd c_39 (by rw [e]; decide +kernel)) | exact (fun e => c_44 (by rw [e]; decide +kernel)), rfl⟩)⟩
          · refine o_iload_n hC dX8_way_42 (by rfl) ?_
            refine o_iconst (v := nI 1) hC dX8_way_43 (by decide +kernel) ?_
            refine o_icmp_le (tgt := 54) hC dX8_way_44 (by decide) (fun c_44 => ?_) (fun c_44 => ?_)
            · obtain ⟨k0, hk0, e0⟩ := nI_of_lt (k := (ark res t).2.length) (by omega) c_14 (fun e => absurd c_28 (Int32.not_lt.mpr e))
              subst e0
              have hw01 : w = nI 0 ∨ w = nI 1 := by
                obtain ⟨w0, hw0, e9⟩ := nI_of2 (M := nI 1) (nI_toInt (by decide)) c_39 c_44
                rcases (show w0 = 0 ∨ w0 = 1 by omega) with rfl | rfl
                · exact Or.inl e9
                · exact Or.inr e9
              have e5 := mws_fn hws hk0
              refine o_sipush (v := nI 1280) hC dX8_way_54 (by decide +kernel) ?_
              refine o_iload_n hC dX8_way_57 (by rfl) ?_
              refine o_iadd hC dX8_way_58 ?_
              try rw [nI_add]
              refine o_istore hC dX8_way_59 (Nat.le_of_ble_eq_true rfl) ?_
              refine o_iload_n hC dX8_way_61 (by rfl) ?_
              refine o_if_ne (tgt := 80) hC dX8_way_62 (by decide) (fun c_62 => ?_) (fun c_62 => ?_)
              · refine o_aload_n hC dX8_way_80 (by rfl) ?_
                refine o_getf hC (fX8_60 hC rfl) dX8_way_81 (by repeat (first | with_reducible assumption | (rw [rl_u_s]; done) | (rw [rl_u_s]; rfl) | rw [rl_u_n (by first | with_reducible assumption | omega)])) (by first | rfl | with_reducible assumption) ?_
                refine o_bipush (v := nI 12) hC dX8_way_84 (by decide +kernel) ?_
                refine o_iload hC dX8_way_86 (by rfl) ?_
                refine o_imul hC dX8_way_88 ?_
                try rw [nI_mul]
                refine o_iload_n hC dX8_way_89 (by rfl) ?_
                refine o_iadd hC dX8_way_90 ?_
                try rw [nI_add]
                refine o_laldN (t0 := 1) hC rfl dX8_way_91 (by repeat (first | with_reducible assumption | (rw [rl_u_s]; done) | (rw [rl_u_s]; rfl) | rw [rl_u_n (by first | with_reducible assumption | omega)])) (by omega) (by decide) ?_
                refine o_lret hC hB dX8_way_92 (Nat.le_of_ble_eq_true rfl) (Nat.le_of_ble_eq_true rfl) ?_
                first
                | exact ⟨_, _, rfl, rfl, hq0, Or.inr (Or.inr ⟨rfl, t, k0, htl, rfl, hk0, rfl, Or.inl ⟨c_62, by rw [e5]⟩⟩)⟩
                | exact ⟨_, _, rfl, rfl, hq0, Or.inr (Or.inr ⟨rfl, t, k0, htl, rfl, hk0, rfl, Or.inr ⟨hw01.resolve_left c_62, by rw [e5]⟩⟩)⟩
              · refine o_aload_n hC dX8_way_65 (by rfl) ?_
                refine o_getf hC (fX8_56 hC rfl) dX8_way_66 (by repeat (first | with_reducible assumption | (rw [rl_u_s]; done) | (rw [rl_u_s]; rfl) | rw [rl_u_n (by first | with_reducible assumption | omega)])) (by first | rfl | with_reducible assumption) ?_
                refine o_bipush (v := nI 12) hC dX8_way_69 (by decide +kernel) ?_
                refine o_iload hC dX8_way_71 (by rfl) ?_
                refine o_imul hC dX8_way_73 ?_
                try rw [nI_mul]
                refine o_iload_n hC dX8_way_74 (by rfl) ?_
                refine o_iadd hC dX8_way_75 ?_
                try rw [nI_add]
                refine o_laldN (t0 := 1) hC rfl dX8_way_76 (by repeat (first | with_reducible assumption | (rw [rl_u_s]; done) | (rw [rl_u_s]; rfl) | rw [rl_u_n (by first | with_reducible assumption | omega)])) (by omega) (by decide) ?_
                refine o_goto (tgt := 92) hC dX8_way_77 (by decide) ?_
                refine o_lret hC hB dX8_way_92 (Nat.le_of_ble_eq_true rfl) (Nat.le_of_ble_eq_true rfl) ?_
                first
                | exact ⟨_, _, rfl, rfl, hq0, Or.inr (Or.inr ⟨rfl, t, k0, htl, rfl, hk0, rfl, Or.inl ⟨c_62, by rw [e5]⟩⟩)⟩
                | exact ⟨_, _, rfl, rfl, hq0, Or.inr (Or.inr ⟨rfl, t, k0, htl, rfl, hk0, rfl, Or.inr ⟨hw01.resolve_left c_62, by rw [e5]⟩⟩)⟩
            · refine o_aload_n hC dX8_way_47 (by rfl) ?_
              refine o_iconst (v := nI 2) hC dX8_way_48 (by decide +kernel) ?_
              refine o_putf hC (fX8_78 hC rfl) (fwX8 rfl rfl rfl (Or.inl rfl)) dX8_way_49 (by repeat (first | with_reducible assumption | (rw [rl_u_s]; done) | (rw [rl_u_s]; rfl) | rw [rl_u_n (by first | with_reducible assumption | omega)])) (Nat.le_of_ble_eq_true rfl) ?_
              try simp only [List.set_cons_zero, List.set_cons_succ]
              refine o_lconst (v := 0) hC dX8_way_52 (by decide +kernel) ?_
              refine o_lret hC hB dX8_way_53 (Nat.le_of_ble_eq_true rfl) (Nat.le_of_ble_eq_true rfl) ?_
              obtain ⟨k0, hk0, e0⟩ := nI_of_lt (k := (ark res t).2.length) (by omega) c_14 (fun e => absurd c_28 (Int32.not_lt.mpr e))
              exact ⟨_, _, rfl, rfl, (hq0.ob (nI 2, T.2) fu k gk), Or.inr (Or.inl ⟨⟨t, k0, htl, rfl, hk0, e0⟩, by first | exact (fun e => absurd c_39 (by rw [e]; decide +kernel)) | exact (fun e => c_44 (by rw [e]; decide +kernel)), by first | exact (fun e => absurd c_39 (by rw [e]; decide +kernel)) | exact (fun e => c_44 (by rw [e]; decide +kernel)), rfl⟩)⟩
        · refine o_aload_n hC dX8_way_31 (by rfl) ?_
          refine o_iconst (v := nI 1) hC dX8_way_32 (by decide +kernel) ?_
          refine o_putf hC (fX8_78 hC rfl) (fwX8 rfl rfl rfl (Or.inl rfl)) dX8_way_33 (by repeat (first | with_reducible assumption | (rw [rl_u_s]; done) | (rw [rl_u_s]; rfl) | rw [rl_u_n (by first | with_reducible assumption | omega)])) (Nat.le_of_ble_eq_true rfl) ?_
          try simp only [List.set_cons_zero, List.set_cons_succ]
          refine o_lconst (v := 0) hC dX8_way_36 (by decide +kernel) ?_
          refine o_lret hC hB dX8_way_37 (Nat.le_of_ble_eq_true rfl) (Nat.le_of_ble_eq_true rfl) ?_
          first
          | exact absurd c_10 (by decide +kernel)
          | exact ⟨_, _, rfl, rfl, (hq0.ob (nI 1, T.2) fu k gk), Or.inl ⟨by first | exact (fun ⟨t0, k0, a0, b0, a, e⟩ => absurd c_14 (by have := hle t0 a0; rw [e]; exact nI_pos (by omega))) | exact (fun ⟨t0, k0, a0, b0, a, e⟩ => c_28 (by have := nI_inj2 (by omega) (by omega) b0; subst this; rw [e]; exact nI_lt a (by omega))), rfl⟩⟩

set_option maxHeartbeats 4000000 in
set_option maxRecDepth 100000 in
theorem cf_X8_thrown (l : Launch) (D : va_G) (ids : Nat → ClassId) (H0 : Heap) (h : rl_H) (n : Nat) (m : Nat) (T : md_T) (fu : Int32) (k : Nat) (A : md_D)  (hq : mf ids h h m T fu k A)  : rl_Met l (rl_e D ids H0) rl_BW rl_Ns yX8_thrown cX8_thrown 1 (some .int) ({ frames := 0, cells := 0, slots := 0, locals := 0 }) [.ref m] h n (fun v h' n' => v = some (.int T.1) ∧ h' = h ∧ n' = n) := by
  obtain ⟨hm0, g12, g13, g14, g15, g16, g17, g18, g19, g20, g21, g22⟩ := id hq
  have g0 := hm0.1
  have gk := hm0.2.1
  have b13 := hq.b13
  have b15 := hq.b15
  have b21 := hq.b21
  refine rl_Met.of (by decide +kernel) (Nat.le_of_ble_eq_true rfl) ?_
  intro X hC hB
  show rl_G X (rl_e D ids H0) 0 [some (.ref m)] [] h n 0 0
  refine o_aload_n hC dX8_thrown_0 (by rfl) ?_
  refine o_getf hC (fX8_78 hC rfl) dX8_thrown_1 (by repeat (first | with_reducible assumption | (rw [rl_u_s]; done) | (rw [rl_u_s]; rfl) | rw [rl_u_n (by first | with_reducible assumption | omega)])) (by first | rfl | with_reducible assumption) ?_
  refine o_iret hC hB dX8_thrown_4 (Nat.le_of_ble_eq_true rfl) (Nat.le_of_ble_eq_true rfl) ?_
  exact ⟨rfl, rfl, rfl⟩
