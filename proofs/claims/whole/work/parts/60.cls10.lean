/-! digits; cols -/
theorem dg_least_le : ∀ (f r l : Nat), dg_least f r l ≤ l
  | 0, _, l => Nat.le_refl l
  | f + 1, r, l => by
    unfold dg_least
    split
    · exact Nat.le_refl l
    · refine Nat.le_trans (dg_least_le f _ _) ?_
      split <;> omega
theorem dg_least_ge : ∀ (f r l : Nat), dg_least f r l ≠ 0 → ∀ c : Nat, c < f → r / 10 ^ c ≠ 0 → 1 ≤ r / 10 ^ c % 10
  | 0, _, _, _, c, hc, _ => absurd hc (Nat.not_lt_zero c)
  | f + 1, r, l, h, c, hc, hr => by
    unfold dg_least at h
    split at h
    · rename_i e
      subst e
      rw [Nat.zero_div] at hr
      exact absurd rfl hr
    · cases c with
      | zero =>
        rw [Nat.pow_zero, Nat.div_one]
        have h2 := dg_least_le f (r / 10) (if r % 10 < l then r % 10 else l)
        have h3 : (if r % 10 < l then r % 10 else l) ≤ r % 10 := by split <;> omega
        exact Nat.lt_of_lt_of_le (Nat.pos_of_ne_zero h) (Nat.le_trans h2 h3)
      | succ c =>
        have e : r / 10 ^ (c + 1) = r / 10 / 10 ^ c := by rw [Nat.div_div_eq_div_mul, Nat.pow_succ, Nat.mul_comm]
        rw [e] at hr ⊢
        exact dg_least_ge f _ _ h c (by omega) hr
theorem dg_great_ge : ∀ (f r l : Nat), l ≤ dg_great f r l
  | 0, _, l => Nat.le_refl l
  | f + 1, r, l => by
    unfold dg_great
    split
    · exact Nat.le_refl l
    · refine Nat.le_trans ?_ (dg_great_ge f _ _)
      split <;> omega
theorem dg_great_le : ∀ (f r l : Nat), ∀ c : Nat, c < f → r / 10 ^ c % 10 ≤ dg_great f r l
  | 0, _, _, c, hc => absurd hc (Nat.not_lt_zero c)
  | f + 1, r, l, c, hc => by
    unfold dg_great
    split
    · rename_i e
      subst e
      rw [Nat.zero_div]
      exact Nat.zero_le _
    · cases c with
      | zero =>
        rw [Nat.pow_zero, Nat.div_one]
        refine Nat.le_trans ?_ (dg_great_ge f _ _)
        split <;> omega
      | succ c =>
        have e : r / 10 ^ (c + 1) = r / 10 / 10 ^ c := by rw [Nat.div_div_eq_div_mul, Nat.pow_succ, Nat.mul_comm]
        rw [e]
        exact dg_great_le f _ _ c (by omega)
theorem dg_count_in : ∀ (f r k c : Nat), c < dg_count f r k → k ≤ c → r / 10 ^ (c - k) ≠ 0 ∧ c - k < f
  | 0, _, k, c, h1, h2 => absurd h1 (Nat.not_lt.mpr h2)
  | f + 1, r, k, c, h1, h2 => by
    unfold dg_count at h1
    split at h1
    · omega
    · rename_i e
      rcases Nat.eq_or_lt_of_le h2 with q | q
      · subst q
        rw [Nat.sub_self, Nat.pow_zero, Nat.div_one]
        exact ⟨e, by omega⟩
      · obtain ⟨a, b⟩ := dg_count_in f (r / 10) (k + 1) c h1 q
        have e2 : r / 10 ^ (c - k) = r / 10 / 10 ^ (c - (k + 1)) := by rw [Nat.div_div_eq_div_mul, show c - k = (c - (k + 1)) + 1 by omega, Nat.pow_succ, Nat.mul_comm]
        rw [e2]
        exact ⟨a, by omega⟩
theorem dg_count_ub : ∀ (j f r k : Nat), r < 10 ^ j → dg_count f r k ≤ k + j
  | _, 0, _, k, _ => Nat.le_add_right _ _
  | 0, f + 1, r, k, h => by
    unfold dg_count
    rw [if_pos (by rw [Nat.pow_zero] at h; omega)]
    exact Nat.le_add_right _ _
  | j + 1, f + 1, r, k, h => by
    unfold dg_count
    split
    · exact Nat.le_add_right _ _
    · have := dg_count_ub j f (r / 10) (k + 1) (by rw [Nat.pow_succ] at h; omega)
      omega
theorem dg_count_lb : ∀ (f r k : Nat), k ≤ dg_count f r k
  | 0, _, k => Nat.le_refl k
  | f + 1, r, k => by
    unfold dg_count
    split
    · exact Nat.le_refl k
    · exact Nat.le_trans (Nat.le_succ k) (dg_count_lb f (r / 10) (k + 1))
def sh_cols (z : sh_S) (q d : Int32) : Int32 × sh_S := if sh_nn z q then (-1, z) else if d < nI 1 ∨ (999999 : Int32) < d ∨ dg_least 7 d.toNatClampNeg 9 = 0 then (-2, z) else if sh_w z q < nI (dg_great 7 d.toNatClampNeg 0) then (-1, z) else sh_node z (nI (dg_count 7 d.toNatClampNeg 0))
theorem dg_n7 : ∀ (f r l : Nat), l < 10 → dg_great f r l < 10
  | 0, _, l, h => h
  | f + 1, r, l, h => by
    unfold dg_great
    split
    · exact h
    · exact dg_n7 f _ _ (by split <;> omega)

set_option maxHeartbeats 4000000 in
set_option maxRecDepth 100000 in
theorem cg_X7_cols (l : Launch) (D : va_G) (ids : Nat → ClassId) (H0 : Heap) (h : rl_H) (n : Nat) (x L : Nat) (s : cl_S) (c : cl_N) (z : sh_S) (q d : Int32) (hk : cl_ok ids h n x L s c) (hR : sh_R s c z) : rl_Met l (rl_e D ids H0) rl_BW rl_Ns yX7_cols cX7_cols 3 (some .int) ({ frames := 5, cells := 403, slots := 2892, locals := 102 }) [.ref x, .int q, .int d] h n (fun v h' n' => ∃ (r : Int32) (c' : cl_N), v = some (.int r) ∧ n ≤ n' ∧ n' ≤ n + 403 ∧ cl_ok ids h' n' x L s c' ∧ sh_R s c' (sh_cols z q d).2 ∧ r = (sh_cols z q d).1 ∧ cl_fr h h' x L ∧ cl_ad ids h h' c c' (nI 2) q (-1) (-1) (-1) (nI 0) d) := by
  obtain ⟨hc, k2, k3, k4, k5, k6, k7⟩ := id hk
  obtain ⟨c1, c2, c3, ⟨pn, c4, c5⟩, ⟨pt, c6, c7⟩, c8, c9, c10, c11, c12, c13, c14, c15⟩ := id hc
  refine rl_Met.of (by decide +kernel) (Nat.le_of_ble_eq_true rfl) ?_
  intro X hC hB
  show rl_G X (rl_e D ids H0) 0 [some (.ref x), some (.int q), some (.int d)] [] h n 0 0
  refine o_aload_n hC dX7_cols_0 (by rfl) ?_
  refine o_iload_n hC dX7_cols_1 (by rfl) ?_
  refine o_callV1 hC rl_BW_good rl_Ns_nw (by exact hB.2.2.2.2.2) YX7_isNode IX7_isNode VX7_isNode (mX7_100 hC) (by rw [hB.1]; exact cg_X7_isNode l D ids H0 _ _ x s c _ hc) (by exact c1) rfl rfl (Nat.le_of_ble_eq_true rfl) (by rw [hB.2.1]; first | exact Nat.le_of_ble_eq_true rfl | (dsimp only; omega)) (by rw [hB.2.1]; first | exact Nat.le_of_ble_eq_true rfl | (dsimp only; omega)) (by rw [hB.2.1]; first | exact Nat.le_of_ble_eq_true rfl | (dsimp only; omega)) (by rw [hB.2.1]; first | exact Nat.le_of_ble_eq_true rfl | (dsimp only; omega)) dX7_cols_2 (fun v h_2 n_2 p_2 => ?_)
  obtain ⟨z2, rfl, rfl, rfl, hz2⟩ := p_2
  replace hz2 := sh_R.nnz hk hR hz2
  try dsimp only [Option.toList, List.cons_append, List.nil_append]
  refine o_if_ne (tgt := 10) hC dX7_cols_5 (by decide) (fun c_5 => ?_) (fun c_5 => ?_)
  · have nn : ¬ sh_nn z q := (hz2.elim (fun a => absurd a.1 c_5) (fun a => a.2))
    obtain ⟨j, w, hj, rfl, w1, w2, w3, w4, m1⟩ := sh_R.nd hk hR nn
    unfold cl_nd at m1
    refine o_iload_n hC dX7_cols_10 (by rfl) ?_
    refine o_iconst (v := nI 1) hC dX7_cols_11 (by decide +kernel) ?_
    refine o_icmp_lt (tgt := 28) hC dX7_cols_12 (by decide) (fun c_12 => ?_) (fun c_12 => ?_)
    · refine o_bipush (v := (-2 : Int32)) hC dX7_cols_28 (by decide +kernel) ?_
      refine o_iret hC hB dX7_cols_30 (Nat.le_of_ble_eq_true rfl) (Nat.le_of_ble_eq_true rfl) ?_
      first
      | (have e : sh_cols z (nI j) d = (-2, z) := (if_neg nn).trans (if_pos (Or.inl c_12)); exact ⟨_, c, rfl, Nat.le_refl _, by omega, hk, (by rw [e]; exact hR), (by rw [e]), cl_fr.rf, Or.inl ⟨rfl, rfl⟩⟩)
      | (have e : sh_cols z (nI j) d = (-2, z) := (if_neg nn).trans (if_pos (Or.inr (Or.inl c_18))); exact ⟨_, c, rfl, Nat.le_refl _, by omega, hk, (by rw [e]; exact hR), (by rw [e]), cl_fr.rf, Or.inl ⟨rfl, rfl⟩⟩)
      | (have e : sh_cols z (nI j) (nI N0) = (-2, z) := (if_neg nn).trans (if_pos (Or.inr (Or.inr (by rw [hcl]; exact nI_inj2 (Nat.lt_of_le_of_lt (dg_least_le 7 N0 9) (by decide)) (by decide) c_25)))); exact ⟨_, c, rfl, Nat.le_refl _, by omega, hk, (by rw [e]; exact hR), (by rw [e]), cl_fr.rf, Or.inl ⟨rfl, rfl⟩⟩)
    · refine o_iload_n hC dX7_cols_15 (by rfl) ?_
      refine o_ldc hC nX7_103 dX7_cols_16 ?_
      refine o_icmp_gt (tgt := 28) hC dX7_cols_18 (by decide) (fun c_18 => ?_) (fun c_18 => ?_)
      · refine o_bipush (v := (-2 : Int32)) hC dX7_cols_28 (by decide +kernel) ?_
        refine o_iret hC hB dX7_cols_30 (Nat.le_of_ble_eq_true rfl) (Nat.le_of_ble_eq_true rfl) ?_
        first
        | (have e : sh_cols z (nI j) d = (-2, z) := (if_neg nn).trans (if_pos (Or.inl c_12)); exact ⟨_, c, rfl, Nat.le_refl _, by omega, hk, (by rw [e]; exact hR), (by rw [e]), cl_fr.rf, Or.inl ⟨rfl, rfl⟩⟩)
        | (have e : sh_cols z (nI j) d = (-2, z) := (if_neg nn).trans (if_pos (Or.inr (Or.inl c_18))); exact ⟨_, c, rfl, Nat.le_refl _, by omega, hk, (by rw [e]; exact hR), (by rw [e]), cl_fr.rf, Or.inl ⟨rfl, rfl⟩⟩)
        | (have e : sh_cols z (nI j) (nI N0) = (-2, z) := (if_neg nn).trans (if_pos (Or.inr (Or.inr (by rw [hcl]; exact nI_inj2 (Nat.lt_of_le_of_lt (dg_least_le 7 N0 9) (by decide)) (by decide) c_25)))); exact ⟨_, c, rfl, Nat.le_refl _, by omega, hk, (by rw [e]; exact hR), (by rw [e]), cl_fr.rf, Or.inl ⟨rfl, rfl⟩⟩)
      · obtain ⟨N0, hN0, rfl⟩ := nI_of2 (M := (999999 : Int32)) (n := 999999) (by decide +kernel) (fun w => c_12 (Int32.lt_of_lt_of_le w (by decide +kernel))) (Int32.not_lt.mp c_18)
        have hcl : (nI N0).toNatClampNeg = N0 := rl_cl (N := 1000000) (by omega) (by decide)
        have h7 : N0 < 10 ^ 7 := Nat.lt_of_le_of_lt hN0 (by decide)
        refine o_iload_n hC dX7_cols_21 (by rfl) ?_
        refine o_callS1 hC rl_BW_good rl_Ns_nw (by exact hB.2.2.2.2.2) YX7_leastDigit SX7_leastDigit (mX7_104 hC) (by rw [hB.1]; exact ct_X7_leastDigit l D ids H0 _ _ N0 h7) (Nat.le_of_ble_eq_true rfl) (by rw [hB.2.1]; first | exact Nat.le_of_ble_eq_true rfl | (dsimp only; omega)) (by rw [hB.2.1]; first | exact Nat.le_of_ble_eq_true rfl | (dsimp only; omega)) (by rw [hB.2.1]; first | exact Nat.le_of_ble_eq_true rfl | (dsimp only; omega)) (by rw [hB.2.1]; first | exact Nat.le_of_ble_eq_true rfl | (dsimp only; omega)) dX7_cols_22 (fun v h_22 n_22 p_22 => ?_)
        obtain ⟨rfl, rfl, rfl⟩ := p_22
        try dsimp only [Option.toList, List.cons_append, List.nil_append]
        refine o_if_ne (tgt := 31) hC dX7_cols_25 (by decide) (fun c_25 => ?_) (fun c_25 => ?_)
        · refine o_iload_n hC dX7_cols_31 (by rfl) ?_
          refine o_callS1 hC rl_BW_good rl_Ns_nw (by exact hB.2.2.2.2.2) YX7_greatestDigit SX7_greatestDigit (mX7_107 hC) (by rw [hB.1]; exact ct_X7_greatestDigit l D ids H0 _ _ N0 h7) (Nat.le_of_ble_eq_true rfl) (by rw [hB.2.1]; first | exact Nat.le_of_ble_eq_true rfl | (dsimp only; omega)) (by rw [hB.2.1]; first | exact Nat.le_of_ble_eq_true rfl | (dsimp only; omega)) (by rw [hB.2.1]; first | exact Nat.le_of_ble_eq_true rfl | (dsimp only; omega)) (by rw [hB.2.1]; first | exact Nat.le_of_ble_eq_true rfl | (dsimp only; omega)) dX7_cols_32 (fun v h_32 n_32 p_32 => ?_)
          obtain ⟨rfl, rfl, rfl⟩ := p_32
          try dsimp only [Option.toList, List.cons_append, List.nil_append]
          refine o_aload_n hC dX7_cols_35 (by rfl) ?_
          refine o_getf hC (fX7_25 hC rfl) dX7_cols_36 (by repeat (first | with_reducible assumption | (rw [rl_u_s]; done) | (rw [rl_u_s]; rfl) | rw [rl_u_n (by first | with_reducible assumption | omega)])) (by first | rfl | with_reducible assumption) ?_
          refine o_iload_n hC dX7_cols_39 (by rfl) ?_
          refine o_aaldN (t0 := 5) (k := j) hC rfl dX7_cols_40 c4 (by omega) (by decide) ?_
          rw [c5 _ (by omega), if_pos (by omega)]
          show rl_G X _ _ _ (.ref _ :: _) _ _ _ _
          refine o_getf hC (fX7_97 hC rfl) dX7_cols_41 (by repeat (first | with_reducible assumption | (rw [rl_u_s]; done) | (rw [rl_u_s]; rfl) | rw [rl_u_n (by first | with_reducible assumption | omega)])) (by first | rfl | with_reducible assumption) ?_
          refine o_icmp_le (tgt := 49) hC dX7_cols_44 (by decide) (fun c_44 => ?_) (fun c_44 => ?_)
          · refine o_aload_n hC dX7_cols_49 (by rfl) ?_
            refine o_getf hC (fX7_78 hC rfl) dX7_cols_50 (by repeat (first | with_reducible assumption | (rw [rl_u_s]; done) | (rw [rl_u_s]; rfl) | rw [rl_u_n (by first | with_reducible assumption | omega)])) (by first | rfl | with_reducible assumption) ?_
            refine o_bipush (v := nI 16) hC dX7_cols_53 (by decide +kernel) ?_
            refine o_icmp_lt (tgt := 61) hC dX7_cols_55 (by decide) (fun c_55 => ?_) (fun c_55 => ?_)
            · have h16 : c.2.2.1 < 16 := by
                rcases Nat.lt_or_ge c.2.2.1 16 with w | w
                · exact w
                · exact absurd c_55 (nI_nlt w (by omega))
              refine o_aload_n hC dX7_cols_61 (by rfl) ?_
              refine o_iconst (v := nI 2) hC dX7_cols_62 (by decide +kernel) ?_
              refine o_iload_n hC dX7_cols_63 (by rfl) ?_
              refine o_callS1 hC rl_BW_good rl_Ns_nw (by exact hB.2.2.2.2.2) YX7_digitCount SX7_digitCount (mX7_110 hC) (by rw [hB.1]; exact ct_X7_digitCount l D ids H0 _ _ N0 h7) (Nat.le_of_ble_eq_true rfl) (by rw [hB.2.1]; first | exact Nat.le_of_ble_eq_true rfl | (dsimp only; omega)) (by rw [hB.2.1]; first | exact Nat.le_of_ble_eq_true rfl | (dsimp only; omega)) (by rw [hB.2.1]; first | exact Nat.le_of_ble_eq_true rfl | (dsimp only; omega)) (by rw [hB.2.1]; first | exact Nat.le_of_ble_eq_true rfl | (dsimp only; omega)) dX7_cols_64 (fun v h_64 n_64 p_64 => ?_)
              obtain ⟨rfl, rfl, rfl⟩ := p_64
              try dsimp only [Option.toList, List.cons_append, List.nil_append]
              refine o_iload_n hC dX7_cols_67 (by rfl) ?_
              refine o_iconst (v := (-1 : Int32)) hC dX7_cols_68 (by decide +kernel) ?_
              refine o_callV4 hC rl_BW_good rl_Ns_nw (by exact hB.2.2.2.2.2) YX7_openNode IX7_openNode VX7_openNode (mX7_85 hC) (by rw [hB.1]; exact cg_X7_openNode l D ids H0 _ _ x L s c _ _ _ _ hk h16) (by exact c1) rfl rfl (Nat.le_of_ble_eq_true rfl) (by rw [hB.2.1]; first | exact Nat.le_of_ble_eq_true rfl | (dsimp only; omega)) (by rw [hB.2.1]; first | exact Nat.le_of_ble_eq_true rfl | (dsimp only; omega)) (by rw [hB.2.1]; first | exact Nat.le_of_ble_eq_true rfl | (dsimp only; omega)) (by rw [hB.2.1]; first | exact Nat.le_of_ble_eq_true rfl | (dsimp only; omega)) dX7_cols_69 (fun v h_69 n_69 p_69 => ?_)
              obtain ⟨na, mk, N, rfl, n1, n2, hlt, o1, o2, g0, g1, g2, g3, g8, of, o4, o5, o6, o7⟩ := p_69
              have m2 : h_69 (na c.2.2.1) = some (cl_nd N c.2.2.1) := o1.1.2.2.2.2.2.2.2.2.2.1 _ hlt
              unfold cl_nd at m2
              have zz : x + 70 ≤ na c.2.2.1 := o1.1.2.2.2.2.2.2.2.2.2.2.2.1 _ hlt
              try dsimp only [Option.toList, List.cons_append, List.nil_append]
              refine o_iconst (v := (-1 : Int32)) hC dX7_cols_72 (by decide +kernel) ?_
              refine o_iconst (v := (-1 : Int32)) hC dX7_cols_73 (by decide +kernel) ?_
              refine o_iconst (v := nI 0) hC dX7_cols_74 (by decide +kernel) ?_
              refine o_iload_n hC dX7_cols_75 (by rfl) ?_
              refine o_callV4 hC rl_BW_good rl_Ns_nw (by exact hB.2.2.2.2.2) YX1_detail IX1_detail VX1_detail (mX7_89 hC) (by rw [hB.1]; exact ct_X1_detail l D ids H0 _ _ (na c.2.2.1) _ _ _ _ _ _ _ _ _ _ _ _ _ m2) (by exact m2) rfl rfl (Nat.le_of_ble_eq_true rfl) (by rw [hB.2.1]; first | exact Nat.le_of_ble_eq_true rfl | (dsimp only; omega)) (by rw [hB.2.1]; first | exact Nat.le_of_ble_eq_true rfl | (dsimp only; omega)) (by rw [hB.2.1]; first | exact Nat.le_of_ble_eq_true rfl | (dsimp only; omega)) (by rw [hB.2.1]; first | exact Nat.le_of_ble_eq_true rfl | (dsimp only; omega)) dX7_cols_76 (fun v h_76 n_76 p_76 => ?_)
              obtain ⟨rfl, rfl, d1, d2⟩ := p_76
              have e1 := (d2 x (by omega)).trans o1.1.1
              try dsimp only [Option.toList, List.cons_append, List.nil_append]
              refine o_aload_n hC dX7_cols_79 (by rfl) ?_
              refine o_dup hC dX7_cols_80 rfl ?_
              refine o_getf hC (fX7_78 hC rfl) dX7_cols_81 (by repeat (first | with_reducible assumption | (rw [rl_u_s]; done) | (rw [rl_u_s]; rfl) | rw [rl_u_n (by first | with_reducible assumption | omega)])) (by first | rfl | with_reducible assumption) ?_
              refine o_dup_x1 hC dX7_cols_84 rfl rfl ?_
              refine o_iconst (v := nI 1) hC dX7_cols_85 (by decide +kernel) ?_
              refine o_iadd hC dX7_cols_86 ?_
              rw [nI_add c.2.2.1 1]
              refine o_putf hC (fX7_78 hC rfl) (fwX7 rfl rfl rfl (Or.inl rfl)) dX7_cols_87 (by repeat (first | with_reducible assumption | (rw [rl_u_s]; done) | (rw [rl_u_s]; rfl) | rw [rl_u_n (by first | with_reducible assumption | omega)])) (Nat.le_of_ble_eq_true rfl) ?_
              try simp only [List.set_cons_zero, List.set_cons_succ]
              refine o_iret hC hB dX7_cols_90 (Nat.le_of_ble_eq_true rfl) (Nat.le_of_ble_eq_true rfl) ?_
              (obtain ⟨r1, r2⟩ := o1.add hlt d1 d2 g8 (by
                   have l0 : dg_least 7 N0 9 ≠ 0 := fun w => c_25 (by rw [w]; rfl)
                   have g6 : dg_great 7 N0 0 ≤ 6 := by
                     have := (nI_leI (Nat.lt_trans (dg_n7 7 N0 0 (by decide)) (by decide)) (by omega)).mp (show nI (dg_great 7 N0 0) ≤ nI w by rw [← w3]; exact c_44)
                     omega
                   have u6 : dg_count 7 N0 0 ≤ 0 + 6 := dg_count_ub 6 7 N0 0 (Nat.lt_of_le_of_lt hN0 (by decide))
                   have lb : 1 ≤ dg_count 7 N0 0 := by
                     have n0 : N0 ≠ 0 := fun w => c_12 (by rw [w]; decide +kernel)
                     rw [dg_count, if_neg n0]
                     exact dg_count_lb 6 _ _
                   exact cl_cv.new (op := 2) (w := dg_count 7 N0 0) (w1 := w) (w2 := 0) g0 g1 g2 g3 rfl rfl lb ⟨by decide, by omega, fun q => absurd q (by decide), fun _ => ⟨N0, by omega, rfl, fun c hc => by
                     obtain ⟨a, b⟩ := dg_count_in 7 N0 0 c hc (Nat.zero_le _)
                     exact ⟨dg_least_ge 7 N0 9 l0 c b a, Nat.le_trans (dg_great_le 7 N0 0 c b) g6⟩⟩, fun q => absurd q (by decide), fun q => absurd q (by decide)⟩ (Or.inr ⟨j, hj, rfl⟩) (Or.inl rfl) (fun _ => ⟨j, hj, rfl, by rw [o2 j hj]; exact ⟨w3, w2⟩⟩) (fun q => absurd q (by decide))); obtain ⟨r3, r4⟩ := hR.add (na := na) (mk := mk) (a := -1) (b := -1) (d := nI 0) (e := nI N0) h16 o2 g1; have e : sh_cols z (nI j) (nI N0) = sh_node z (nI (dg_count 7 N0 0)) := ((if_neg nn).trans ((if_neg (fun w => w.elim c_12 (fun w => w.elim c_18 (fun w => c_25 (by rw [hcl] at w; rw [w]; rfl))))).trans (if_neg (fun w => by rw [hcl, w4] at w; rw [w3] at c_44; exact Int32.not_lt.mpr c_44 w)))).trans (by rw [hcl]); exact ⟨_, _, rfl, n1, n2, r1, (by rw [e]; exact r3), (by rw [e]; exact r4.symm), of.tr r2, cl_ad.mk hlt o1.1 (fun q a b => (rl_u_n (by omega)).trans (d2 q a)) o2 g0 g2 g3 g8 o4 o5 o6 o7⟩)
            · refine o_bipush (v := (-4 : Int32)) hC dX7_cols_58 (by decide +kernel) ?_
              refine o_iret hC hB dX7_cols_60 (Nat.le_of_ble_eq_true rfl) (Nat.le_of_ble_eq_true rfl) ?_
              (have e : sh_cols z (nI j) (nI N0) = (-4, z) := ((if_neg nn).trans ((if_neg (fun w => w.elim c_12 (fun w => w.elim c_18 (fun w => c_25 (by rw [hcl] at w; rw [w]; rfl))))).trans (if_neg (fun w => by rw [hcl, w4] at w; rw [w3] at c_44; exact Int32.not_lt.mpr c_44 w)))).trans (sh_node_n (fun w => c_55 (by rw [hR.2.2.2.1]; exact nI_lt w (by decide)))); exact ⟨_, c, rfl, Nat.le_refl _, by omega, hk, (by rw [e]; exact hR), (by rw [e]), cl_fr.rf, Or.inl ⟨rfl, rfl⟩⟩)
          · refine o_iconst (v := (-1 : Int32)) hC dX7_cols_47 (by decide +kernel) ?_
            refine o_iret hC hB dX7_cols_48 (Nat.le_of_ble_eq_true rfl) (Nat.le_of_ble_eq_true rfl) ?_
            (have e : sh_cols z (nI j) (nI N0) = (-1, z) := (if_neg nn).trans ((if_neg (fun w => w.elim c_12 (fun w => w.elim c_18 (fun w => c_25 (by rw [hcl] at w; rw [w]; rfl))))).trans (if_pos (by rw [hcl, w4, ← w3]; exact Int32.not_le.mp c_44))); exact ⟨_, c, rfl, Nat.le_refl _, by omega, hk, (by rw [e]; exact hR), (by rw [e]), cl_fr.rf, Or.inl ⟨rfl, rfl⟩⟩)
        · refine o_bipush (v := (-2 : Int32)) hC dX7_cols_28 (by decide +kernel) ?_
          refine o_iret hC hB dX7_cols_30 (Nat.le_of_ble_eq_true rfl) (Nat.le_of_ble_eq_true rfl) ?_
          first
          | (have e : sh_cols z (nI j) d = (-2, z) := (if_neg nn).trans (if_pos (Or.inl c_12)); exact ⟨_, c, rfl, Nat.le_refl _, by omega, hk, (by rw [e]; exact hR), (by rw [e]), cl_fr.rf, Or.inl ⟨rfl, rfl⟩⟩)
          | (have e : sh_cols z (nI j) d = (-2, z) := (if_neg nn).trans (if_pos (Or.inr (Or.inl c_18))); exact ⟨_, c, rfl, Nat.le_refl _, by omega, hk, (by rw [e]; exact hR), (by rw [e]), cl_fr.rf, Or.inl ⟨rfl, rfl⟩⟩)
          | (have e : sh_cols z (nI j) (nI N0) = (-2, z) := (if_neg nn).trans (if_pos (Or.inr (Or.inr (by rw [hcl]; exact nI_inj2 (Nat.lt_of_le_of_lt (dg_least_le 7 N0 9) (by decide)) (by decide) c_25)))); exact ⟨_, c, rfl, Nat.le_refl _, by omega, hk, (by rw [e]; exact hR), (by rw [e]), cl_fr.rf, Or.inl ⟨rfl, rfl⟩⟩)
  · refine o_iconst (v := (-1 : Int32)) hC dX7_cols_8 (by decide +kernel) ?_
    refine o_iret hC hB dX7_cols_9 (Nat.le_of_ble_eq_true rfl) (Nat.le_of_ble_eq_true rfl) ?_
    (have e : sh_cols z q d = (-1, z) := if_pos (hz2.elim (fun a => a.2) (fun a => absurd (c_5.symm.trans a.1) (by decide +kernel))); exact ⟨_, c, rfl, Nat.le_refl _, by omega, hk, (by rw [e]; exact hR), (by rw [e]), cl_fr.rf, Or.inl ⟨rfl, rfl⟩⟩)
