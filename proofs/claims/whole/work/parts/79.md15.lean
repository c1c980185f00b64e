/-! THE MODEL: cols -/
theorem dg_least0 (f r : Nat) : dg_least f r 0 = 0 := Nat.le_zero.mp (dg_least_le f r 0)
theorem dg_least_z (f l : Nat) : dg_least f 0 l = l := by
  cases f with
  | zero => rfl
  | succ f => rw [dg_least, if_pos rfl]
theorem dg_great_z (f l : Nat) : dg_great f 0 l = l := by
  cases f with
  | zero => rfl
  | succ f => rw [dg_great, if_pos rfl]
theorem dg_count_z (f l : Nat) : dg_count f 0 l = l := by
  cases f with
  | zero => rfl
  | succ f => rw [dg_count, if_pos rfl]

set_option maxHeartbeats 4000000 in
set_option maxRecDepth 100000 in
theorem cm_X8_cols (l : Launch) (D : va_G) (ids : Nat → ClassId) (H0 : Heap) (h : rl_H) (n : Nat) (m : Nat) (T : md_T) (fu : Int32) (k : Nat) (S : md_A) (z : sh_S) (q d : Int32) (hu : md_un ids h m T fu k S z) : rl_Met l (rl_e D ids H0) rl_BW rl_Ns yX8_cols cX8_cols 6 (some .int) ({ frames := 1, cells := 0, slots := 0, locals := 28 }) [.ref m, .int q, .int d] h n (fun v h' n' => ∃ r : Int32, v = some (.int r) ∧ n' = n ∧ mdx ids h' m T (sh_cols z q d).2 (fun S' => (S' = S ∧ (sh_cols z q d).2 = z) ∨ ∃ w9 : Int32, S' = (S.1, S.2.1, S.2.2.1, upd S.2.2.2.1 z.2.2.2.1 (nI 2), upd S.2.2.2.2.1 z.2.2.2.1 q, upd S.2.2.2.2.2.1 z.2.2.2.1 (nI 0), upd S.2.2.2.2.2.2.1 z.2.2.2.1 d, upd S.2.2.2.2.2.2.2.1 z.2.2.2.1 (nI 0), upd S.2.2.2.2.2.2.2.2.1 z.2.2.2.1 (nI 0), upd S.2.2.2.2.2.2.2.2.2.1 z.2.2.2.1 (nI 0), upd S.2.2.2.2.2.2.2.2.2.2 z.2.2.2.1 w9) ∧ (sh_cols z q d).2.2.2.2.1 = z.2.2.2.1 + 1) (∀ q : Nat, m + 12 ≤ q → q < m + 23 → h' q = h q) ∧ r = (sh_cols z q d).1 ∧ rl_fr h h' m (m + 23)) := by
  obtain ⟨hq, hs, ⟨hsc, hsc4⟩, hwf, ⟨hrr, hr36⟩, ⟨hnc, hn16⟩, hnw, hpr, hnv, hwv, wrc, hrc6, hrc⟩ := id hu
  have hq0 := hq.ob (nI 0, T.2) fu k hq.2.1
  have g0 := hq.1
  obtain ⟨-, gk, ⟨⟨cl, g12⟩, ⟨tu, g13, b13⟩, ⟨im, g14⟩, ⟨te, g15, b15⟩, ⟨ne, g16⟩, ⟨la, g17⟩, ⟨hn, g18⟩, ⟨hl, g19⟩, ⟨tp, g20⟩, ⟨gr, g21, b21⟩, ⟨it, g22⟩⟩, gf⟩ := id hq
  obtain ⟨a1, a2, a3, a4, a5, a6, a7, a8, a9, a10, a11⟩ := id hs
  have hu0 : md_un ids _ m (nI 0, T.2) fu k S z := hu.dp hq0 rfl rfl rfl rfl ⟨wrc, hrc6, hrc⟩
  refine rl_Met.of (by decide +kernel) (Nat.le_of_ble_eq_true rfl) ?_
  intro X hC hB
  show rl_G X (rl_e D ids H0) 0 [some (.ref m), some (.int q), some (.int d), none, none, none] [] h n 0 0
  refine o_aload_n hC dX8_cols_0 (by rfl) ?_
  refine o_iconst (v := nI 0) hC dX8_cols_1 (by decide +kernel) ?_
  refine o_putf hC (fX8_78 hC rfl) (fwX8 rfl rfl rfl (Or.inl rfl)) dX8_cols_2 (by repeat (first | with_reducible assumption | (rw [rl_u_s]; done) | (rw [rl_u_s]; rfl) | rw [rl_u_n (by first | with_reducible assumption | omega)])) (Nat.le_of_ble_eq_true rfl) ?_
  try simp only [List.set_cons_zero, List.set_cons_succ]
  refine o_aload_n hC dX8_cols_5 (by rfl) ?_
  refine o_iload_n hC dX8_cols_6 (by rfl) ?_
  refine o_callV1 hC rl_BW_good rl_Ns_nw (by exact hB.2.2.2.2.2) YX8_isNode IX8_isNode VX8_isNode (mX8_126 hC) (by rw [hB.1]; exact cm_X8_isNode l D ids H0 _ _ m _ _ _ S z _ hu0) (by exact hu0.1.1) rfl rfl (Nat.le_of_ble_eq_true rfl) (by rw [hB.2.1]; first | exact Nat.le_of_ble_eq_true rfl | (dsimp only; omega)) (by rw [hB.2.1]; first | exact Nat.le_of_ble_eq_true rfl | (dsimp only; omega)) (by rw [hB.2.1]; first | exact Nat.le_of_ble_eq_true rfl | (dsimp only; omega)) (by rw [hB.2.1]; first | exact Nat.le_of_ble_eq_true rfl | (dsimp only; omega)) dX8_cols_7 (fun v h_7 n_7 p_7 => ?_)
  obtain ⟨z7, rfl, rfl, rfl, hz7⟩ := p_7
  try dsimp only [Option.toList, List.cons_append, List.nil_append]
  refine o_if_ne (tgt := 15) hC dX8_cols_10 (by decide) (fun c_10 => ?_) (fun c_10 => ?_)
  · have nn : ¬ sh_nn z q := (hz7.elim (fun a => absurd a.1 c_10) (fun a => a.2))
    obtain ⟨j, w, hj, hj16, rfl, w1, w2, w3, w4⟩ := hu.nd nn
    refine o_iload_n hC dX8_cols_15 (by rfl) ?_
    refine o_iconst (v := nI 1) hC dX8_cols_16 (by decide +kernel) ?_
    refine o_icmp_lt (tgt := 26) hC dX8_cols_17 (by decide) (fun c_17 => ?_) (fun c_17 => ?_)
    · refine o_bipush (v := (-2 : Int32)) hC dX8_cols_26 (by decide +kernel) ?_
      refine o_iret hC hB dX8_cols_28 (Nat.le_of_ble_eq_true rfl) (Nat.le_of_ble_eq_true rfl) ?_
      first
      | (have e : sh_cols z (nI j) d = (-2, z) := (if_neg nn).trans (if_pos (Or.inl c_17)); exact ⟨_, rfl, rfl, (by rw [e]; exact ⟨_, _, _, S, hu.dp hq0 rfl rfl rfl rfl ⟨wrc, hrc6, hrc⟩, rfl, Or.inl ⟨rfl, rfl⟩, fun q a b => rl_u_n (by omega)⟩), (by rw [e]), hq0.fr⟩)
      | (have e : sh_cols z (nI j) d = (-2, z) := (if_neg nn).trans (if_pos (Or.inr (Or.inl (Int32.not_le.mp c_23)))); exact ⟨_, rfl, rfl, (by rw [e]; exact ⟨_, _, _, S, hu.dp hq0 rfl rfl rfl rfl ⟨wrc, hrc6, hrc⟩, rfl, Or.inl ⟨rfl, rfl⟩, fun q a b => rl_u_n (by omega)⟩), (by rw [e]), hq0.fr⟩)
    · refine o_iload_n hC dX8_cols_20 (by rfl) ?_
      refine o_ldc hC nX8_133 dX8_cols_21 ?_
      refine o_icmp_le (tgt := 29) hC dX8_cols_23 (by decide) (fun c_23 => ?_) (fun c_23 => ?_)
      · obtain ⟨N, hN, rfl⟩ := nI_of2 (M := (999999 : Int32)) (n := 999999) (by decide +kernel) (fun w => c_17 (Int32.lt_of_lt_of_le w (by decide +kernel))) c_23
        have hcl : (nI N).toNatClampNeg = N := rl_cl (N := 1000000) (by omega) (by decide)
        have h7 : N < 10 ^ 7 := Nat.lt_of_le_of_lt hN (by decide)
        refine o_iconst (v := nI 0) hC dX8_cols_29 (by decide +kernel) ?_
        refine o_istore_n hC dX8_cols_30 (Nat.le_of_ble_eq_true rfl) ?_
        refine o_iconst (v := nI 0) hC dX8_cols_31 (by decide +kernel) ?_
        refine o_istore hC dX8_cols_32 (Nat.le_of_ble_eq_true rfl) ?_
        refine o_iload_n hC dX8_cols_34 (by rfl) ?_
        refine o_istore hC dX8_cols_35 (Nat.le_of_ble_eq_true rfl) ?_
        have loop : ∀ (f R c lm g : Nat) (fl : Int32), R < 10 ^ f → f ≤ 7 → c + f ≤ 7 → lm ≠ 0 → lm < 10 → g < 10 → dg_least 7 N 9 = dg_least f R lm → dg_great 7 N 0 = dg_great f R g → dg_count 7 N 0 = dg_count f R c → fl = (if nI w < nI g then nI 1 else nI 0) → rl_G X (rl_e D ids H0) 37 [some (.ref m), some (.int (nI j)), some (.int (nI N)), some (.int (nI c)), some (.int fl), some (.int (nI R))] [] (rl_u h m (md_ob m (nI 0, T.2) fu k)) n_7 0 0 := by
          intro f
          induction f with
          | zero =>
            intro R c lm g fl hR hf hcf hl hl10 hg10 h1 h2 h3 hfl
            have hz : R = 0 := by
              rw [Nat.pow_zero] at hR
              omega
            subst hz
            refine o_iload hC dX8_cols_37 (by rfl) ?_
            refine o_if_le (tgt := 92) hC dX8_cols_39 (by decide) (fun c_39 => ?_) (fun c_39 => ?_)
            · by_cases hlt : nI w < nI g
              · rw [if_pos hlt] at hfl
                subst hfl
                refine o_iload hC dX8_cols_92 (by rfl) ?_
                refine o_if_eq (tgt := 101) hC dX8_cols_94 (by decide) (fun c_94 => ?_) (fun c_94 => ?_)
                · exact absurd c_94 (by decide +kernel)
                · refine o_iconst (v := (-1 : Int32)) hC dX8_cols_97 (by decide +kernel) ?_
                  refine o_goto (tgt := 113) hC dX8_cols_98 (by decide) ?_
                  refine o_iret hC hB dX8_cols_113 (Nat.le_of_ble_eq_true rfl) (Nat.le_of_ble_eq_true rfl) ?_
                  (have e : sh_cols z (nI j) (nI N) = (-1, z) := (if_neg nn).trans ((if_neg (fun e => e.elim c_17 (fun e => e.elim (fun e => absurd c_23 (Int32.not_le.mpr e)) (fun e => hl (by rw [hcl, h1, dg_least_z] at e; exact e))))).trans (if_pos (by rw [hcl, h2, dg_great_z, w4]; exact hlt))); exact ⟨_, rfl, rfl, (by rw [e]; exact ⟨_, _, _, S, hu0, rfl, Or.inl ⟨rfl, rfl⟩, fun q a b => rl_u_n (by omega)⟩), (by rw [e]), hq0.fr⟩)
              · rw [if_neg hlt] at hfl
                subst hfl
                refine o_iload hC dX8_cols_92 (by rfl) ?_
                refine o_if_eq (tgt := 101) hC dX8_cols_94 (by decide) (fun c_94 => ?_) (fun c_94 => ?_)
                · refine o_aload_n hC dX8_cols_101 (by rfl) ?_
                  refine o_iconst (v := nI 2) hC dX8_cols_102 (by decide +kernel) ?_
                  refine o_iload_n hC dX8_cols_103 (by rfl) ?_
                  refine o_iconst (v := nI 0) hC dX8_cols_104 (by decide +kernel) ?_
                  refine o_iload_n hC dX8_cols_105 (by rfl) ?_
                  refine o_iconst (v := nI 0) hC dX8_cols_106 (by decide +kernel) ?_
                  refine o_iconst (v := nI 0) hC dX8_cols_107 (by decide +kernel) ?_
                  refine o_iconst (v := nI 0) hC dX8_cols_108 (by decide +kernel) ?_
                  refine o_iload_n hC dX8_cols_109 (by rfl) ?_
                  refine o_callV8 hC rl_BW_good rl_Ns_nw (by exact hB.2.2.2.2.2) YX8_node IX8_node VX8_node (mX8_122 hC) (by rw [hB.1]; exact cm_X8_node l D ids H0 _ _ m _ _ _ S z _ _ _ _ _ _ _ _ hu0 (fun h16 => (by
                         have g6 : g ≤ 6 := by
                           rcases Nat.lt_or_ge w g with u | u
                           · exact absurd (nI_lt u (by omega)) hlt
                           · omega
                         have u6 : dg_count 7 N 0 ≤ 0 + 6 := dg_count_ub 6 7 N 0 (Nat.lt_of_le_of_lt hN (by decide))
                         have lb : 1 ≤ dg_count 7 N 0 := by
                           have n0 : N ≠ 0 := fun u => c_17 (by rw [u]; decide +kernel)
                           rw [dg_count, if_neg n0]
                           exact dg_count_lb 6 _ _
                         rw [h3, dg_count_z] at u6 lb
                         exact md_nv.new (op := 2) (w := c) (by decide) lb (by omega) (fun _ => ⟨j, w, hj, w2, rfl, w3, fun q => absurd q (by decide)⟩) (fun q => absurd q (by decide)) (fun q => absurd q (by decide)) (fun _ => ⟨N, Nat.lt_of_le_of_lt hN (by decide), rfl, fun c0 hc0 => by
                           have c7 : c0 < 7 := by
                             rcases Nat.lt_or_ge c0 7 with u | u
                             · exact u
                             · exact absurd (Nat.div_eq_of_lt (Nat.lt_of_lt_of_le h7 (Nat.pow_le_pow_right (by decide) u))) hc0
                           exact ⟨dg_least_ge 7 N 9 (by rw [h1, dg_least_z]; exact hl) c0 c7 hc0, Nat.le_trans (dg_great_le 7 N 0 c0 c7) (by rw [h2, dg_great_z]; exact g6)⟩⟩) (fun q => absurd q (by decide))))) (by exact hu0.1.1) rfl rfl (Nat.le_of_ble_eq_true rfl) (by rw [hB.2.1]; first | exact Nat.le_of_ble_eq_true rfl | (dsimp only; omega)) (by rw [hB.2.1]; first | exact Nat.le_of_ble_eq_true rfl | (dsimp only; omega)) (by rw [hB.2.1]; first | exact Nat.le_of_ble_eq_true rfl | (dsimp only; omega)) (by rw [hB.2.1]; first | exact Nat.le_of_ble_eq_true rfl | (dsimp only; omega)) dX8_cols_110 (fun v h_110 n_110 p_110 => ?_)
                  obtain ⟨r110, rfl, rfl, o1, o2, o3⟩ := p_110
                  try dsimp only [Option.toList, List.cons_append, List.nil_append]
                  refine o_iret hC hB dX8_cols_113 (Nat.le_of_ble_eq_true rfl) (Nat.le_of_ble_eq_true rfl) ?_
                  (have e : sh_cols z (nI j) (nI N) = sh_node z (nI c) := (if_neg nn).trans ((if_neg (fun e => e.elim c_17 (fun e => e.elim (fun e => absurd c_23 (Int32.not_le.mpr e)) (fun e => hl (by rw [hcl, h1, dg_least_z] at e; exact e))))).trans ((if_neg (by rw [hcl, h2, dg_great_z, w4]; exact hlt)).trans (by rw [hcl, h3, dg_count_z]))); exact ⟨_, rfl, rfl, (by rw [e]; exact o1.im rfl (fun _ => id) (fun d9 q a b => (d9 q a b).trans (rl_u_n (by omega)))), (by rw [e]; exact o2), (fun q hq => (o3 q hq).trans (hq0.fr q hq))⟩)
                · exact absurd rfl c_94
            · exact absurd (by decide +kernel) c_39
          | succ f ih =>
            intro R c lm g fl hR hf hcf hl hl10 hg10 h1 h2 h3 hfl
            rcases Nat.eq_zero_or_pos R with hz | hz
            · subst hz
              refine o_iload hC dX8_cols_37 (by rfl) ?_
              refine o_if_le (tgt := 92) hC dX8_cols_39 (by decide) (fun c_39 => ?_) (fun c_39 => ?_)
              · by_cases hlt : nI w < nI g
                · rw [if_pos hlt] at hfl
                  subst hfl
                  refine o_iload hC dX8_cols_92 (by rfl) ?_
                  refine o_if_eq (tgt := 101) hC dX8_cols_94 (by decide) (fun c_94 => ?_) (fun c_94 => ?_)
                  · exact absurd c_94 (by decide +kernel)
                  · refine o_iconst (v := (-1 : Int32)) hC dX8_cols_97 (by decide +kernel) ?_
                    refine o_goto (tgt := 113) hC dX8_cols_98 (by decide) ?_
                    refine o_iret hC hB dX8_cols_113 (Nat.le_of_ble_eq_true rfl) (Nat.le_of_ble_eq_true rfl) ?_
                    (have e : sh_cols z (nI j) (nI N) = (-1, z) := (if_neg nn).trans ((if_neg (fun e => e.elim c_17 (fun e => e.elim (fun e => absurd c_23 (Int32.not_le.mpr e)) (fun e => hl (by rw [hcl, h1, dg_least_z] at e; exact e))))).trans (if_pos (by rw [hcl, h2, dg_great_z, w4]; exact hlt))); exact ⟨_, rfl, rfl, (by rw [e]; exact ⟨_, _, _, S, hu0, rfl, Or.inl ⟨rfl, rfl⟩, fun q a b => rl_u_n (by omega)⟩), (by rw [e]), hq0.fr⟩)
                · rw [if_neg hlt] at hfl
                  subst hfl
                  refine o_iload hC dX8_cols_92 (by rfl) ?_
                  refine o_if_eq (tgt := 101) hC dX8_cols_94 (by decide) (fun c_94 => ?_) (fun c_94 => ?_)
                  · refine o_aload_n hC dX8_cols_101 (by rfl) ?_
                    refine o_iconst (v := nI 2) hC dX8_cols_102 (by decide +kernel) ?_
                    refine o_iload_n hC dX8_cols_103 (by rfl) ?_
                    refine o_iconst (v := nI 0) hC dX8_cols_104 (by decide +kernel) ?_
                    refine o_iload_n hC dX8_cols_105 (by rfl) ?_
                    refine o_iconst (v := nI 0) hC dX8_cols_106 (by decide +kernel) ?_
                    refine o_iconst (v := nI 0) hC dX8_cols_107 (by decide +kernel) ?_
                    refine o_iconst (v := nI 0) hC dX8_cols_108 (by decide +kernel) ?_
                    refine o_iload_n hC dX8_cols_109 (by rfl) ?_
                    refine o_callV8 hC rl_BW_good rl_Ns_nw (by exact hB.2.2.2.2.2) YX8_node IX8_node VX8_node (mX8_122 hC) (by rw [hB.1]; exact cm_X8_node l D ids H0 _ _ m _ _ _ S z _ _ _ _ _ _ _ _ hu0 (fun h16 => (by
                           have g6 : g ≤ 6 := by
                             rcases Nat.lt_or_ge w g with u | u
                             · exact absurd (nI_lt u (by omega)) hlt
                             · omega
                           have u6 : dg_count 7 N 0 ≤ 0 + 6 := dg_count_ub 6 7 N 0 (Nat.lt_of_le_of_lt hN (by decide))
                           have lb : 1 ≤ dg_count 7 N 0 := by
                             have n0 : N ≠ 0 := fun u => c_17 (by rw [u]; decide +kernel)
                             rw [dg_count, if_neg n0]
                             exact dg_count_lb 6 _ _
                           rw [h3, dg_count_z] at u6 lb
                           exact md_nv.new (op := 2) (w := c) (by decide) lb (by omega) (fun _ => ⟨j, w, hj, w2, rfl, w3, fun q => absurd q (by decide)⟩) (fun q => absurd q (by decide)) (fun q => absurd q (by decide)) (fun _ => ⟨N, Nat.lt_of_le_of_lt hN (by decide), rfl, fun c0 hc0 => by
                             have c7 : c0 < 7 := by
                               rcases Nat.lt_or_ge c0 7 with u | u
                               · exact u
                               · exact absurd (Nat.div_eq_of_lt (Nat.lt_of_lt_of_le h7 (Nat.pow_le_pow_right (by decide) u))) hc0
                             exact ⟨dg_least_ge 7 N 9 (by rw [h1, dg_least_z]; exact hl) c0 c7 hc0, Nat.le_trans (dg_great_le 7 N 0 c0 c7) (by rw [h2, dg_great_z]; exact g6)⟩⟩) (fun q => absurd q (by decide))))) (by exact hu0.1.1) rfl rfl (Nat.le_of_ble_eq_true rfl) (by rw [hB.2.1]; first | exact Nat.le_of_ble_eq_true rfl | (dsimp only; omega)) (by rw [hB.2.1]; first | exact Nat.le_of_ble_eq_true rfl | (dsimp only; omega)) (by rw [hB.2.1]; first | exact Nat.le_of_ble_eq_true rfl | (dsimp only; omega)) (by rw [hB.2.1]; first | exact Nat.le_of_ble_eq_true rfl | (dsimp only; omega)) dX8_cols_110 (fun v h_110 n_110 p_110 => ?_)
                    obtain ⟨r110, rfl, rfl, o1, o2, o3⟩ := p_110
                    try dsimp only [Option.toList, List.cons_append, List.nil_append]
                    refine o_iret hC hB dX8_cols_113 (Nat.le_of_ble_eq_true rfl) (Nat.le_of_ble_eq_true rfl) ?_
                    (have e : sh_cols z (nI j) (nI N) = sh_node z (nI c) := (if_neg nn).trans ((if_neg (fun e => e.elim c_17 (fun e => e.elim (fun e => absurd c_23 (Int32.not_le.mpr e)) (fun e => hl (by rw [hcl, h1, dg_least_z] at e; exact e))))).trans ((if_neg (by rw [hcl, h2, dg_great_z, w4]; exact hlt)).trans (by rw [hcl, h3, dg_count_z]))); exact ⟨_, rfl, rfl, (by rw [e]; exact o1.im rfl (fun _ => id) (fun d9 q a b => (d9 q a b).trans (rl_u_n (by omega)))), (by rw [e]; exact o2), (fun q hq => (o3 q hq).trans (hq0.fr q hq))⟩)
                  · exact absurd rfl c_94
              · exact absurd (by decide +kernel) c_39
            · have RB : R < 10 ^ 7 := Nat.lt_of_lt_of_le hR (Nat.pow_le_pow_right (by decide) (by omega))
              have RB2 : R < 10000000 := RB
              have hd1 : R / 10 < 10 ^ f := by
                rw [Nat.pow_succ] at hR
                omega
              refine o_iload hC dX8_cols_37 (by rfl) ?_
              refine o_if_le (tgt := 92) hC dX8_cols_39 (by decide) (fun c_39 => ?_) (fun c_39 => ?_)
              · exact absurd (show nI R ≤ nI 0 from c_39) (nI_ge hz (by omega))
              · refine o_iload hC dX8_cols_42 (by rfl) ?_
                refine o_bipush (v := nI 10) hC dX8_cols_44 (by decide +kernel) ?_
                refine o_irem hC dX8_cols_46 (by decide +kernel) ?_
                rw [pk_rem (by omega) (by decide) (by decide)]
                refine o_if_ne (tgt := 53) hC dX8_cols_47 (by decide) (fun c_47 => ?_) (fun c_47 => ?_)
                · refine o_iload hC dX8_cols_53 (by rfl) ?_
                  refine o_if_ne (tgt := 72) hC dX8_cols_55 (by decide) (fun c_55 => ?_) (fun c_55 => ?_)
                  · have e0 : R % 10 ≠ 0 := fun e => c_47 (by rw [e]; rfl)
                    have q : w < (if g < R % 10 then R % 10 else g) := by
                      by_cases u : w < g
                      · split <;> omega
                      · have fl0 : fl = nI 0 := by rw [hfl, if_neg (fun v => u ((nI_ltI (by omega) (by omega)).mp v))]
                        have q2 : w < R % 10 := by
                          rcases Nat.lt_or_ge w (R % 10) with v | v
                          · exact v
                          · first
                            | exact absurd fl0 c_55
                            | exact absurd (nI_le v (by omega)) c_69
                        split <;> omega
                    refine o_iconst (v := nI 1) hC dX8_cols_72 (by decide +kernel) ?_
                    refine o_goto (tgt := 77) hC dX8_cols_73 (by decide) ?_
                    refine o_istore hC dX8_cols_77 (Nat.le_of_ble_eq_true rfl) ?_
                    refine o_iinc hC dX8_cols_79 (by rfl) (rl_inc _) (Nat.le_of_ble_eq_true rfl) ?_
                    refine o_iload hC dX8_cols_82 (by rfl) ?_
                    refine o_bipush (v := nI 10) hC dX8_cols_84 (by decide +kernel) ?_
                    refine o_idiv hC dX8_cols_86 (by decide +kernel) ?_
                    rw [pk_div (by omega) (by decide) (by decide)]
                    refine o_istore hC dX8_cols_87 (Nat.le_of_ble_eq_true rfl) ?_
                    refine o_goto (tgt := 37) hC dX8_cols_89 (by decide) ?_
                    refine ih (R / 10) (c + 1) (if R % 10 < lm then R % 10 else lm) (if g < R % 10 then R % 10 else g) _ hd1 (by omega) (by omega) (by split <;> omega) (by split <;> omega) (by split <;> omega) (by rw [h1, dg_least, if_neg (by omega)]) (by rw [h2, dg_great, if_neg (by omega)]) (by rw [h3, dg_count, if_neg (by omega)]) ?_
                    rw [if_pos (nI_lt q (by split <;> omega))]
                  · refine o_iload hC dX8_cols_58 (by rfl) ?_
                    refine o_bipush (v := nI 10) hC dX8_cols_60 (by decide +kernel) ?_
                    refine o_irem hC dX8_cols_62 (by decide +kernel) ?_
                    rw [pk_rem (by omega) (by decide) (by decide)]
                    refine o_aload_n hC dX8_cols_63 (by rfl) ?_
                    refine o_getf hC (fX8_40 hC rfl) dX8_cols_64 (by repeat (first | with_reducible assumption | (rw [rl_u_s]; done) | (rw [rl_u_s]; rfl) | rw [rl_u_n (by first | with_reducible assumption | omega)])) (by first | rfl | with_reducible assumption) ?_
                    refine o_iload_n hC dX8_cols_67 (by rfl) ?_
                    refine o_ialdN (t0 := 0) (k := j) hC rfl dX8_cols_68 (by repeat (first | with_reducible assumption | (rw [rl_u_s]; done) | (rw [rl_u_s]; rfl) | rw [rl_u_n (by first | with_reducible assumption | omega)])) (by omega) (by decide) ?_
                    rw [w3]
                    refine o_icmp_le (tgt := 76) hC dX8_cols_69 (by decide) (fun c_69 => ?_) (fun c_69 => ?_)
                    · have e0 : R % 10 ≠ 0 := fun e => c_47 (by rw [e]; rfl)
                      have q : (if g < R % 10 then R % 10 else g) ≤ w := by
                        have q2 : R % 10 ≤ w := (nI_leI (by omega) (by omega)).mp c_69
                        by_cases u : w < g
                        · have fl1 : fl = nI 1 := by rw [hfl, if_pos (nI_lt u (by omega))]
                          exact absurd (fl1.symm.trans c_55) (by decide +kernel)
                        · split <;> omega
                      refine o_iconst (v := nI 0) hC dX8_cols_76 (by decide +kernel) ?_
                      refine o_istore hC dX8_cols_77 (Nat.le_of_ble_eq_true rfl) ?_
                      refine o_iinc hC dX8_cols_79 (by rfl) (rl_inc _) (Nat.le_of_ble_eq_true rfl) ?_
                      refine o_iload hC dX8_cols_82 (by rfl) ?_
                      refine o_bipush (v := nI 10) hC dX8_cols_84 (by decide +kernel) ?_
                      refine o_idiv hC dX8_cols_86 (by decide +kernel) ?_
                      rw [pk_div (by omega) (by decide) (by decide)]
                      refine o_istore hC dX8_cols_87 (Nat.le_of_ble_eq_true rfl) ?_
                      refine o_goto (tgt := 37) hC dX8_cols_89 (by decide) ?_
                      refine ih (R / 10) (c + 1) (if R % 10 < lm then R % 10 else lm) (if g < R % 10 then R % 10 else g) _ hd1 (by omega) (by omega) (by split <;> omega) (by split <;> omega) (by split <;> omega) (by rw [h1, dg_least, if_neg (by omega)]) (by rw [h2, dg_great, if_neg (by omega)]) (by rw [h3, dg_count, if_neg (by omega)]) ?_
                      rw [if_neg (nI_nlt q (by omega))]
                    · have e0 : R % 10 ≠ 0 := fun e => c_47 (by rw [e]; rfl)
                      have q : w < (if g < R % 10 then R % 10 else g) := by
                        by_cases u : w < g
                        · split <;> omega
                        · have fl0 : fl = nI 0 := by rw [hfl, if_neg (fun v => u ((nI_ltI (by omega) (by omega)).mp v))]
                          have q2 : w < R % 10 := by
                            rcases Nat.lt_or_ge w (R % 10) with v | v
                            · exact v
                            · first
                              | exact absurd fl0 c_55
                              | exact absurd (nI_le v (by omega)) c_69
                          split <;> omega
                      refine o_iconst (v := nI 1) hC dX8_cols_72 (by decide +kernel) ?_
                      refine o_goto (tgt := 77) hC dX8_cols_73 (by decide) ?_
                      refine o_istore hC dX8_cols_77 (Nat.le_of_ble_eq_true rfl) ?_
                      refine o_iinc hC dX8_cols_79 (by rfl) (rl_inc _) (Nat.le_of_ble_eq_true rfl) ?_
                      refine o_iload hC dX8_cols_82 (by rfl) ?_
                      refine o_bipush (v := nI 10) hC dX8_cols_84 (by decide +kernel) ?_
                      refine o_idiv hC dX8_cols_86 (by decide +kernel) ?_
                      rw [pk_div (by omega) (by decide) (by decide)]
                      refine o_istore hC dX8_cols_87 (Nat.le_of_ble_eq_true rfl) ?_
                      refine o_goto (tgt := 37) hC dX8_cols_89 (by decide) ?_
                      refine ih (R / 10) (c + 1) (if R % 10 < lm then R % 10 else lm) (if g < R % 10 then R % 10 else g) _ hd1 (by omega) (by omega) (by split <;> omega) (by split <;> omega) (by split <;> omega) (by rw [h1, dg_least, if_neg (by omega)]) (by rw [h2, dg_great, if_neg (by omega)]) (by rw [h3, dg_count, if_neg (by omega)]) ?_
                      rw [if_pos (nI_lt q (by split <;> omega))]
                · refine o_bipush (v := (-2 : Int32)) hC dX8_cols_50 (by decide +kernel) ?_
                  refine o_iret hC hB dX8_cols_52 (Nat.le_of_ble_eq_true rfl) (Nat.le_of_ble_eq_true rfl) ?_
                  (have e0 : R % 10 = 0 := nI_inj2 (by omega) (by decide) c_47; have el : dg_least 7 N 9 = 0 := (by rw [h1, dg_least, if_neg (by omega), e0, if_pos (by omega)]; exact dg_least0 f (R / 10)); have e : sh_cols z (nI j) (nI N) = (-2, z) := (if_neg nn).trans (if_pos (Or.inr (Or.inr (by rw [hcl]; exact el)))); exact ⟨_, rfl, rfl, (by rw [e]; exact ⟨_, _, _, S, hu0, rfl, Or.inl ⟨rfl, rfl⟩, fun q a b => rl_u_n (by omega)⟩), (by rw [e]), hq0.fr⟩)
        exact loop 7 N 0 9 0 _ h7 (by decide) (by decide) (by decide) (by decide) (by decide) rfl rfl rfl (by rw [if_neg (nI_nlt (Nat.zero_le _) (by omega))])
      · refine o_bipush (v := (-2 : Int32)) hC dX8_cols_26 (by decide +kernel) ?_
        refine o_iret hC hB dX8_cols_28 (Nat.le_of_ble_eq_true rfl) (Nat.le_of_ble_eq_true rfl) ?_
        first
        | (have e : sh_cols z (nI j) d = (-2, z) := (if_neg nn).trans (if_pos (Or.inl c_17)); exact ⟨_, rfl, rfl, (by rw [e]; exact ⟨_, _, _, S, hu.dp hq0 rfl rfl rfl rfl ⟨wrc, hrc6, hrc⟩, rfl, Or.inl ⟨rfl, rfl⟩, fun q a b => rl_u_n (by omega)⟩), (by rw [e]), hq0.fr⟩)
        | (have e : sh_cols z (nI j) d = (-2, z) := (if_neg nn).trans (if_pos (Or.inr (Or.inl (Int32.not_le.mp c_23)))); exact ⟨_, rfl, rfl, (by rw [e]; exact ⟨_, _, _, S, hu.dp hq0 rfl rfl rfl rfl ⟨wrc, hrc6, hrc⟩, rfl, Or.inl ⟨rfl, rfl⟩, fun q a b => rl_u_n (by omega)⟩), (by rw [e]), hq0.fr⟩)
  · refine o_iconst (v := (-1 : Int32)) hC dX8_cols_13 (by decide +kernel) ?_
    refine o_iret hC hB dX8_cols_14 (Nat.le_of_ble_eq_true rfl) (Nat.le_of_ble_eq_true rfl) ?_
    (have e : sh_cols z q d = (-1, z) := if_pos (hz7.elim (fun a => a.2) (fun a => absurd (c_10.symm.trans a.1) (by decide +kernel))); exact ⟨_, rfl, rfl, (by rw [e]; exact ⟨_, _, _, S, hu.dp hq0 rfl rfl rfl rfl ⟨wrc, hrc6, hrc⟩, rfl, Or.inl ⟨rfl, rfl⟩, fun q a b => rl_u_n (by omega)⟩), (by rw [e]), hq0.fr⟩)
