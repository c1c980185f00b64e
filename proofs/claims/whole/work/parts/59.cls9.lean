/-! RowLineage in every state: pick, join, unite, minus, fold, cols -/

theorem sh_R.nkz {ids : Nat → ClassId} {h : rl_H} {n x L : Nat} {s : cl_S} {c : cl_N} {z : sh_S} (H : cl_ok ids h n x L s c) (R : sh_R s c z) {q k r : Int32} (hz : (r = nI 0 ∧ ¬ ∃ j : Nat, j < c.2.2.1 ∧ q = nI j ∧ ¬ k < 0 ∧ ¬ c.2.2.2.1 j 1 ≤ k) ∨ (r = nI 1 ∧ ∃ j : Nat, j < c.2.2.1 ∧ q = nI j ∧ ¬ k < 0 ∧ ¬ c.2.2.2.1 j 1 ≤ k)) : (r = nI 0 ∧ sh_nk z q k) ∨ (r = nI 1 ∧ ¬ sh_nk z q k) :=
  hz.imp (fun a => ⟨a.1, Decidable.not_not.mp (fun w => a.2 ((sh_R.nk H R).mpr w))⟩) (fun a => ⟨a.1, (sh_R.nk H R).mp a.2⟩)
theorem sh_R.nnz {ids : Nat → ClassId} {h : rl_H} {n x L : Nat} {s : cl_S} {c : cl_N} {z : sh_S} (H : cl_ok ids h n x L s c) (R : sh_R s c z) {q r : Int32} (hz : (r = nI 0 ∧ ¬ ∃ j : Nat, j < c.2.2.1 ∧ q = nI j) ∨ (r = nI 1 ∧ ∃ j : Nat, j < c.2.2.1 ∧ q = nI j)) : (r = nI 0 ∧ sh_nn z q) ∨ (r = nI 1 ∧ ¬ sh_nn z q) :=
  hz.imp (fun a => ⟨a.1, Decidable.not_not.mp (fun w => a.2 ((sh_R.nn H R).mpr w))⟩) (fun a => ⟨a.1, (sh_R.nn H R).mp a.2⟩)
theorem sh_R.co {ids : Nat → ClassId} {h : rl_H} {n x L : Nat} {s : cl_S} {c : cl_N} {z : sh_S} (H : cl_ok ids h n x L s c) (R : sh_R s c z) {q k : Int32} (hz : ¬ sh_nk z q k) : ∃ k' : Nat, k' < 6 ∧ k = nI k' := by
  obtain ⟨j, hj, -, a1, a2⟩ := (sh_R.nk H R).mpr hz
  obtain ⟨w, -, w6, w7⟩ := cl_wd H hj
  obtain ⟨c5, h5, e5⟩ := nI_of_lt (k := w) (by omega) a1 (by rw [← w7]; exact a2)
  exact ⟨c5, by omega, e5⟩
theorem sh_R.nd {ids : Nat → ClassId} {h : rl_H} {n x L : Nat} {s : cl_S} {c : cl_N} {z : sh_S} (H : cl_ok ids h n x L s c) (R : sh_R s c z) {q : Int32} (hz : ¬ sh_nn z q) : ∃ j w : Nat, j < c.2.2.1 ∧ q = nI j ∧ 1 ≤ w ∧ w ≤ 6 ∧ c.2.2.2.1 j 1 = nI w ∧ sh_w z (nI j) = nI w ∧ h (c.1 j) = some (cl_nd c.2.2.2.1 j) := by
  obtain ⟨j, hj, e⟩ := (sh_R.nn H R).mpr hz
  obtain ⟨w, w1, w2, w3⟩ := cl_wd H hj
  exact ⟨j, w, hj, e, w1, w2, w3, (sh_R.w H R hj).trans w3, H.1.2.2.2.2.2.2.2.2.2.1 _ (Nat.lt_of_lt_of_le hj (cl_nc H).1)⟩

set_option maxHeartbeats 4000000 in
set_option maxRecDepth 100000 in
theorem cg_X7_pick (l : Launch) (D : va_G) (ids : Nat → ClassId) (H0 : Heap) (h : rl_H) (n : Nat) (x L : Nat) (s : cl_S) (c : cl_N) (z : sh_S) (q kk sg ot vv : Int32) (hk : cl_ok ids h n x L s c) (hR : sh_R s c z) : rl_Met l (rl_e D ids H0) rl_BW rl_Ns yX7_pick cX7_pick 6 (some .int) ({ frames := 5, cells := 403, slots := 2892, locals := 102 }) [.ref x, .int q, .int kk, .int sg, .int ot, .int vv] h n (fun v h' n' => ∃ (r : Int32) (c' : cl_N), v = some (.int r) ∧ n ≤ n' ∧ n' ≤ n + 403 ∧ cl_ok ids h' n' x L s c' ∧ sh_R s c' (sh_pick z q kk sg ot).2 ∧ r = (sh_pick z q kk sg ot).1 ∧ cl_fr h h' x L ∧ cl_ad ids h h' c c' (nI 1) q (-1) kk ot sg vv) := by
  obtain ⟨hc, k2, k3, k4, k5, k6, k7⟩ := id hk
  obtain ⟨c1, c2, c3, ⟨pn, c4, c5⟩, ⟨pt, c6, c7⟩, c8, c9, c10, c11, c12, c13, c14, c15⟩ := id hc
  refine rl_Met.of (by decide +kernel) (Nat.le_of_ble_eq_true rfl) ?_
  intro X hC hB
  show rl_G X (rl_e D ids H0) 0 [some (.ref x), some (.int q), some (.int kk), some (.int sg), some (.int ot), some (.int vv)] [] h n 0 0
  refine o_aload_n hC dX7_pick_0 (by rfl) ?_
  refine o_iload_n hC dX7_pick_1 (by rfl) ?_
  refine o_iload_n hC dX7_pick_2 (by rfl) ?_
  refine o_callV2 hC rl_BW_good rl_Ns_nw (by exact hB.2.2.2.2.2) YX7_hasColumn IX7_hasColumn VX7_hasColumn (mX7_93 hC) (by rw [hB.1]; exact cg_X7_hasColumn l D ids H0 _ _ x s c _ _ hc) (by exact c1) rfl rfl (Nat.le_of_ble_eq_true rfl) (by rw [hB.2.1]; first | exact Nat.le_of_ble_eq_true rfl | (dsimp only; omega)) (by rw [hB.2.1]; first | exact Nat.le_of_ble_eq_true rfl | (dsimp only; omega)) (by rw [hB.2.1]; first | exact Nat.le_of_ble_eq_true rfl | (dsimp only; omega)) (by rw [hB.2.1]; first | exact Nat.le_of_ble_eq_true rfl | (dsimp only; omega)) dX7_pick_3 (fun v h_3 n_3 p_3 => ?_)
  obtain ⟨z3, rfl, rfl, rfl, hz3⟩ := p_3
  replace hz3 := sh_R.nkz hk hR hz3
  try dsimp only [Option.toList, List.cons_append, List.nil_append]
  refine o_if_eq (tgt := 25) hC dX7_pick_6 (by decide) (fun c_6 => ?_) (fun c_6 => ?_)
  · refine o_iconst (v := (-1 : Int32)) hC dX7_pick_25 (by decide +kernel) ?_
    refine o_iret hC hB dX7_pick_26 (Nat.le_of_ble_eq_true rfl) (Nat.le_of_ble_eq_true rfl) ?_
    first
    | (have e : sh_pick z q kk sg ot = (-1, z) := if_pos (Or.inl (hz3.elim (fun a => a.2) (fun a => absurd (c_6.symm.trans a.1) (by decide +kernel)))); exact ⟨_, c, rfl, Nat.le_refl _, by omega, hk, (by rw [e]; exact hR), (by rw [e]), cl_fr.rf, Or.inl ⟨rfl, rfl⟩⟩)
    | (have e : sh_pick z q kk sg ot = (-1, z) := if_pos (Or.inr ⟨c_12, (hz19.elim (fun a => a.2) (fun a => absurd (c_22.symm.trans a.1) (by decide +kernel)))⟩); exact ⟨_, c, rfl, Nat.le_refl _, by omega, hk, (by rw [e]; exact hR), (by rw [e]), cl_fr.rf, Or.inl ⟨rfl, rfl⟩⟩)
  · refine o_iload hC dX7_pick_9 (by rfl) ?_
    refine o_iconst (v := (-1 : Int32)) hC dX7_pick_11 (by decide +kernel) ?_
    refine o_icmp_eq (tgt := 27) hC dX7_pick_12 (by decide) (fun c_12 => ?_) (fun c_12 => ?_)
    · have nk : ¬ (sh_nk z q kk ∨ (ot ≠ -1 ∧ sh_nk z q ot)) := by
        first
        | exact fun w => w.elim (hz3.elim (fun a => absurd a.1 c_6) (fun a => a.2)) (fun w => w.1 c_12)
        | exact fun w => w.elim (hz3.elim (fun a => absurd a.1 c_6) (fun a => a.2)) (fun w => (hz19.elim (fun a => absurd a.1 c_22) (fun a => a.2)) w.2)
      refine o_iload_n hC dX7_pick_27 (by rfl) ?_
      refine o_if_lt (tgt := 36) hC dX7_pick_28 (by decide) (fun c_28 => ?_) (fun c_28 => ?_)
      · refine o_bipush (v := (-2 : Int32)) hC dX7_pick_36 (by decide +kernel) ?_
        refine o_iret hC hB dX7_pick_38 (Nat.le_of_ble_eq_true rfl) (Nat.le_of_ble_eq_true rfl) ?_
        first
        | (have e : sh_pick z q kk sg ot = (-2, z) := (if_neg nk).trans (if_pos (Or.inl c_28)); exact ⟨_, c, rfl, Nat.le_refl _, by omega, hk, (by rw [e]; exact hR), (by rw [e]), cl_fr.rf, Or.inl ⟨rfl, rfl⟩⟩)
        | (have e : sh_pick z q kk sg ot = (-2, z) := (if_neg nk).trans (if_pos (Or.inr c_33)); exact ⟨_, c, rfl, Nat.le_refl _, by omega, hk, (by rw [e]; exact hR), (by rw [e]), cl_fr.rf, Or.inl ⟨rfl, rfl⟩⟩)
      · refine o_iload_n hC dX7_pick_31 (by rfl) ?_
        refine o_iconst (v := nI 2) hC dX7_pick_32 (by decide +kernel) ?_
        refine o_icmp_le (tgt := 39) hC dX7_pick_33 (by decide) (fun c_33 => ?_) (fun c_33 => ?_)
        · obtain ⟨c9, hc9, rfl⟩ := sh_R.co hk hR (fun w => nk (Or.inl w))
          have hot : ot = -1 ∨ ∃ c5 : Nat, c5 < 6 ∧ ot = nI c5 := by
            by_cases eo : ot = -1
            · exact Or.inl eo
            · exact Or.inr (sh_R.co hk hR (fun w => nk (Or.inr ⟨eo, w⟩)))
          obtain ⟨kd, hkd, rfl⟩ := nI_of2 (M := nI 2) (nI_toInt (by decide)) c_28 c_33
          obtain ⟨j, w, hj, rfl, w1, w2, w3, w4, m1⟩ := sh_R.nd hk hR (fun w => nk (Or.inl (Or.inl w)))
          unfold cl_nd at m1
          refine o_aload_n hC dX7_pick_39 (by rfl) ?_
          refine o_getf hC (fX7_78 hC rfl) dX7_pick_40 (by repeat (first | with_reducible assumption | (rw [rl_u_s]; done) | (rw [rl_u_s]; rfl) | rw [rl_u_n (by first | with_reducible assumption | omega)])) (by first | rfl | with_reducible assumption) ?_
          refine o_bipush (v := nI 16) hC dX7_pick_43 (by decide +kernel) ?_
          refine o_icmp_lt (tgt := 51) hC dX7_pick_45 (by decide) (fun c_45 => ?_) (fun c_45 => ?_)
          · have h16 : c.2.2.1 < 16 := by
              rcases Nat.lt_or_ge c.2.2.1 16 with w | w
              · exact w
              · exact absurd c_45 (nI_nlt w (by omega))
            refine o_aload_n hC dX7_pick_51 (by rfl) ?_
            refine o_iconst (v := nI 1) hC dX7_pick_52 (by decide +kernel) ?_
            refine o_aload_n hC dX7_pick_53 (by rfl) ?_
            refine o_getf hC (fX7_25 hC rfl) dX7_pick_54 (by repeat (first | with_reducible assumption | (rw [rl_u_s]; done) | (rw [rl_u_s]; rfl) | rw [rl_u_n (by first | with_reducible assumption | omega)])) (by first | rfl | with_reducible assumption) ?_
            refine o_iload_n hC dX7_pick_57 (by rfl) ?_
            refine o_aaldN (t0 := 5) (k := j) hC rfl dX7_pick_58 c4 (by omega) (by decide) ?_
            rw [c5 _ (by omega), if_pos (by omega)]
            show rl_G X _ _ _ (.ref _ :: _) _ _ _ _
            refine o_getf hC (fX7_97 hC rfl) dX7_pick_59 (by repeat (first | with_reducible assumption | (rw [rl_u_s]; done) | (rw [rl_u_s]; rfl) | rw [rl_u_n (by first | with_reducible assumption | omega)])) (by first | rfl | with_reducible assumption) ?_
            refine o_iload_n hC dX7_pick_62 (by rfl) ?_
            refine o_iconst (v := (-1 : Int32)) hC dX7_pick_63 (by decide +kernel) ?_
            refine o_callV4 hC rl_BW_good rl_Ns_nw (by exact hB.2.2.2.2.2) YX7_openNode IX7_openNode VX7_openNode (mX7_85 hC) (by rw [hB.1]; exact cg_X7_openNode l D ids H0 _ _ x L s c _ _ _ _ hk h16) (by exact c1) rfl rfl (Nat.le_of_ble_eq_true rfl) (by rw [hB.2.1]; first | exact Nat.le_of_ble_eq_true rfl | (dsimp only; omega)) (by rw [hB.2.1]; first | exact Nat.le_of_ble_eq_true rfl | (dsimp only; omega)) (by rw [hB.2.1]; first | exact Nat.le_of_ble_eq_true rfl | (dsimp only; omega)) (by rw [hB.2.1]; first | exact Nat.le_of_ble_eq_true rfl | (dsimp only; omega)) dX7_pick_64 (fun v h_64 n_64 p_64 => ?_)
            obtain ⟨na, mk, N, rfl, n1, n2, hlt, o1, o2, g0, g1, g2, g3, g8, of, o4, o5, o6, o7⟩ := p_64
            have m2 : h_64 (na c.2.2.1) = some (cl_nd N c.2.2.1) := o1.1.2.2.2.2.2.2.2.2.2.1 _ hlt
            unfold cl_nd at m2
            have zz : x + 70 ≤ na c.2.2.1 := o1.1.2.2.2.2.2.2.2.2.2.2.2.1 _ hlt
            try dsimp only [Option.toList, List.cons_append, List.nil_append]
            refine o_iload_n hC dX7_pick_67 (by rfl) ?_
            refine o_iload hC dX7_pick_68 (by rfl) ?_
            refine o_iload_n hC dX7_pick_70 (by rfl) ?_
            refine o_iload hC dX7_pick_71 (by rfl) ?_
            refine o_callV4 hC rl_BW_good rl_Ns_nw (by exact hB.2.2.2.2.2) YX1_detail IX1_detail VX1_detail (mX7_89 hC) (by rw [hB.1]; exact ct_X1_detail l D ids H0 _ _ (na c.2.2.1) _ _ _ _ _ _ _ _ _ _ _ _ _ m2) (by exact m2) rfl rfl (Nat.le_of_ble_eq_true rfl) (by rw [hB.2.1]; first | exact Nat.le_of_ble_eq_true rfl | (dsimp only; omega)) (by rw [hB.2.1]; first | exact Nat.le_of_ble_eq_true rfl | (dsimp only; omega)) (by rw [hB.2.1]; first | exact Nat.le_of_ble_eq_true rfl | (dsimp only; omega)) (by rw [hB.2.1]; first | exact Nat.le_of_ble_eq_true rfl | (dsimp only; omega)) dX7_pick_73 (fun v h_73 n_73 p_73 => ?_)
            obtain ⟨rfl, rfl, d1, d2⟩ := p_73
            have e1 := (d2 x (by omega)).trans o1.1.1
            try dsimp only [Option.toList, List.cons_append, List.nil_append]
            refine o_aload_n hC dX7_pick_76 (by rfl) ?_
            refine o_dup hC dX7_pick_77 rfl ?_
            refine o_getf hC (fX7_78 hC rfl) dX7_pick_78 (by repeat (first | with_reducible assumption | (rw [rl_u_s]; done) | (rw [rl_u_s]; rfl) | rw [rl_u_n (by first | with_reducible assumption | omega)])) (by first | rfl | with_reducible assumption) ?_
            refine o_dup_x1 hC dX7_pick_81 rfl rfl ?_
            refine o_iconst (v := nI 1) hC dX7_pick_82 (by decide +kernel) ?_
            refine o_iadd hC dX7_pick_83 ?_
            rw [nI_add c.2.2.1 1]
            refine o_putf hC (fX7_78 hC rfl) (fwX7 rfl rfl rfl (Or.inl rfl)) dX7_pick_84 (by repeat (first | with_reducible assumption | (rw [rl_u_s]; done) | (rw [rl_u_s]; rfl) | rw [rl_u_n (by first | with_reducible assumption | omega)])) (Nat.le_of_ble_eq_true rfl) ?_
            try simp only [List.set_cons_zero, List.set_cons_succ]
            refine o_iret hC hB dX7_pick_87 (Nat.le_of_ble_eq_true rfl) (Nat.le_of_ble_eq_true rfl) ?_
            (obtain ⟨r1, r2⟩ := o1.add hlt d1 d2 g8 (cl_cv.new (op := 1) (w := w) (w1 := w) (w2 := 0) g0 g1 g2 g3 rfl w3 w1 ⟨by decide, w2, fun _ => ⟨⟨c9, hc9, rfl⟩, hot, ⟨kd, hkd, rfl⟩⟩, fun q => absurd q (by decide), fun q => absurd q (by decide), fun q => absurd q (by decide)⟩ (Or.inr ⟨j, hj, rfl⟩) (Or.inl rfl) (fun _ => ⟨j, hj, rfl, by rw [o2 j hj]; exact ⟨w3, w2⟩⟩) (fun q => absurd q (by decide))); obtain ⟨r3, r4⟩ := hR.add (na := na) (mk := mk) h16 o2 g1; have e : sh_pick z (nI j) (nI c9) (nI kd) ot = sh_node z _ := ((if_neg nk).trans (if_neg (fun w => w.elim c_28 (fun w => w c_33)))).trans (congrArg (sh_node z) (w4.trans w3.symm)); exact ⟨_, _, rfl, n1, n2, r1, (by rw [e]; exact r3), (by rw [e]; exact r4.symm), of.tr r2, cl_ad.mk hlt o1.1 (fun q a b => (rl_u_n (by omega)).trans (d2 q a)) o2 g0 g2 g3 g8 o4 o5 o6 o7⟩)
          · refine o_bipush (v := (-4 : Int32)) hC dX7_pick_48 (by decide +kernel) ?_
            refine o_iret hC hB dX7_pick_50 (Nat.le_of_ble_eq_true rfl) (Nat.le_of_ble_eq_true rfl) ?_
            (have e : sh_pick z (nI j) (nI c9) (nI kd) ot = (-4, z) := ((if_neg nk).trans (if_neg (fun w => w.elim c_28 (fun w => w c_33)))).trans (sh_node_n (fun w => c_45 (by rw [hR.2.2.2.1]; exact nI_lt w (by decide)))); exact ⟨_, c, rfl, Nat.le_refl _, by omega, hk, (by rw [e]; exact hR), (by rw [e]), cl_fr.rf, Or.inl ⟨rfl, rfl⟩⟩)
        · refine o_bipush (v := (-2 : Int32)) hC dX7_pick_36 (by decide +kernel) ?_
          refine o_iret hC hB dX7_pick_38 (Nat.le_of_ble_eq_true rfl) (Nat.le_of_ble_eq_true rfl) ?_
          first
          | (have e : sh_pick z q kk sg ot = (-2, z) := (if_neg nk).trans (if_pos (Or.inl c_28)); exact ⟨_, c, rfl, Nat.le_refl _, by omega, hk, (by rw [e]; exact hR), (by rw [e]), cl_fr.rf, Or.inl ⟨rfl, rfl⟩⟩)
          | (have e : sh_pick z q kk sg ot = (-2, z) := (if_neg nk).trans (if_pos (Or.inr c_33)); exact ⟨_, c, rfl, Nat.le_refl _, by omega, hk, (by rw [e]; exact hR), (by rw [e]), cl_fr.rf, Or.inl ⟨rfl, rfl⟩⟩)
    · refine o_aload_n hC dX7_pick_15 (by rfl) ?_
      refine o_iload_n hC dX7_pick_16 (by rfl) ?_
      refine o_iload hC dX7_pick_17 (by rfl) ?_
      refine o_callV2 hC rl_BW_good rl_Ns_nw (by exact hB.2.2.2.2.2) YX7_hasColumn IX7_hasColumn VX7_hasColumn (mX7_93 hC) (by rw [hB.1]; exact cg_X7_hasColumn l D ids H0 _ _ x s c _ _ hc) (by exact c1) rfl rfl (Nat.le_of_ble_eq_true rfl) (by rw [hB.2.1]; first | exact Nat.le_of_ble_eq_true rfl | (dsimp only; omega)) (by rw [hB.2.1]; first | exact Nat.le_of_ble_eq_true rfl | (dsimp only; omega)) (by rw [hB.2.1]; first | exact Nat.le_of_ble_eq_true rfl | (dsimp only; omega)) (by rw [hB.2.1]; first | exact Nat.le_of_ble_eq_true rfl | (dsimp only; omega)) dX7_pick_19 (fun v h_19 n_19 p_19 => ?_)
      obtain ⟨z19, rfl, rfl, rfl, hz19⟩ := p_19
      replace hz19 := sh_R.nkz hk hR hz19
      try dsimp only [Option.toList, List.cons_append, List.nil_append]
      refine o_if_ne (tgt := 27) hC dX7_pick_22 (by decide) (fun c_22 => ?_) (fun c_22 => ?_)
      · have nk : ¬ (sh_nk z q kk ∨ (ot ≠ -1 ∧ sh_nk z q ot)) := by
          first
          | exact fun w => w.elim (hz3.elim (fun a => absurd a.1 c_6) (fun a => a.2)) (fun w => w.1 c_12)
          | exact fun w => w.elim (hz3.elim (fun a => absurd a.1 c_6) (fun a => a.2)) (fun w => (hz19.elim (fun a => absurd a.1 c_22) (fun a => a.2)) w.2)
        refine o_iload_n hC dX7_pick_27 (by rfl) ?_
        refine o_if_lt (tgt := 36) hC dX7_pick_28 (by decide) (fun c_28 => ?_) (fun c_28 => ?_)
        · refine o_bipush (v := (-2 : Int32)) hC dX7_pick_36 (by decide +kernel) ?_
          refine o_iret hC hB dX7_pick_38 (Nat.le_of_ble_eq_true rfl) (Nat.le_of_ble_eq_true rfl) ?_
          first
          | (have e : sh_pick z q kk sg ot = (-2, z) := (if_neg nk).trans (if_pos (Or.inl c_28)); exact ⟨_, c, rfl, Nat.le_refl _, by omega, hk, (by rw [e]; exact hR), (by rw [e]), cl_fr.rf, Or.inl ⟨rfl, rfl⟩⟩)
          | (have e : sh_pick z q kk sg ot = (-2, z) := (if_neg nk).trans (if_pos (Or.inr c_33)); exact ⟨_, c, rfl, Nat.le_refl _, by omega, hk, (by rw [e]; exact hR), (by rw [e]), cl_fr.rf, Or.inl ⟨rfl, rfl⟩⟩)
        · refine o_iload_n hC dX7_pick_31 (by rfl) ?_
          refine o_iconst (v := nI 2) hC dX7_pick_32 (by decide +kernel) ?_
          refine o_icmp_le (tgt := 39) hC dX7_pick_33 (by decide) (fun c_33 => ?_) (fun c_33 => ?_)
          · obtain ⟨c9, hc9, rfl⟩ := sh_R.co hk hR (fun w => nk (Or.inl w))
            have hot : ot = -1 ∨ ∃ c5 : Nat, c5 < 6 ∧ ot = nI c5 := by
              by_cases eo : ot = -1
              · exact Or.inl eo
              · exact Or.inr (sh_R.co hk hR (fun w => nk (Or.inr ⟨eo, w⟩)))
            obtain ⟨kd, hkd, rfl⟩ := nI_of2 (M := nI 2) (nI_toInt (by decide)) c_28 c_33
            obtain ⟨j, w, hj, rfl, w1, w2, w3, w4, m1⟩ := sh_R.nd hk hR (fun w => nk (Or.inl (Or.inl w)))
            unfold cl_nd at m1
            refine o_aload_n hC dX7_pick_39 (by rfl) ?_
            refine o_getf hC (fX7_78 hC rfl) dX7_pick_40 (by repeat (first | with_reducible assumption | (rw [rl_u_s]; done) | (rw [rl_u_s]; rfl) | rw [rl_u_n (by first | with_reducible assumption | omega)])) (by first | rfl | with_reducible assumption) ?_
            refine o_bipush (v := nI 16) hC dX7_pick_43 (by decide +kernel) ?_
            refine o_icmp_lt (tgt := 51) hC dX7_pick_45 (by decide) (fun c_45 => ?_) (fun c_45 => ?_)
            · have h16 : c.2.2.1 < 16 := by
                rcases Nat.lt_or_ge c.2.2.1 16 with w | w
                · exact w
                · exact absurd c_45 (nI_nlt w (by omega))
              refine o_aload_n hC dX7_pick_51 (by rfl) ?_
              refine o_iconst (v := nI 1) hC dX7_pick_52 (by decide +kernel) ?_
              refine o_aload_n hC dX7_pick_53 (by rfl) ?_
              refine o_getf hC (fX7_25 hC rfl) dX7_pick_54 (by repeat (first | with_reducible assumption | (rw [rl_u_s]; done) | (rw [rl_u_s]; rfl) | rw [rl_u_n (by first | with_reducible assumption | omega)])) (by first | rfl | with_reducible assumption) ?_
              refine o_iload_n hC dX7_pick_57 (by rfl) ?_
              refine o_aaldN (t0 := 5) (k := j) hC rfl dX7_pick_58 c4 (by omega) (by decide) ?_
              rw [c5 _ (by omega), if_pos (by omega)]
              show rl_G X _ _ _ (.ref _ :: _) _ _ _ _
              refine o_getf hC (fX7_97 hC rfl) dX7_pick_59 (by repeat (first | with_reducible assumption | (rw [rl_u_s]; done) | (rw [rl_u_s]; rfl) | rw [rl_u_n (by first | with_reducible assumption | omega)])) (by first | rfl | with_reducible assumption) ?_
              refine o_iload_n hC dX7_pick_62 (by rfl) ?_
              refine o_iconst (v := (-1 : Int32)) hC dX7_pick_63 (by decide +kernel) ?_
              refine o_callV4 hC rl_BW_good rl_Ns_nw (by exact hB.2.2.2.2.2) YX7_openNode IX7_openNode VX7_openNode (mX7_85 hC) (by rw [hB.1]; exact cg_X7_openNode l D ids H0 _ _ x L s c _ _ _ _ hk h16) (by exact c1) rfl rfl (Nat.le_of_ble_eq_true rfl) (by rw [hB.2.1]; first | exact Nat.le_of_ble_eq_true rfl | (dsimp only; omega)) (by rw [hB.2.1]; first | exact Nat.le_of_ble_eq_true rfl | (dsimp only; omega)) (by rw [hB.2.1]; first | exact Nat.le_of_ble_eq_true rfl | (dsimp only; omega)) (by rw [hB.2.1]; first | exact Nat.le_of_ble_eq_true rfl | (dsimp only; omega)) dX7_pick_64 (fun v h_64 n_64 p_64 => ?_)
              obtain ⟨na, mk, N, rfl, n1, n2, hlt, o1, o2, g0, g1, g2, g3, g8, of, o4, o5, o6, o7⟩ := p_64
              have m2 : h_64 (na c.2.2.1) = some (cl_nd N c.2.2.1) := o1.1.2.2.2.2.2.2.2.2.2.1 _ hlt
              unfold cl_nd at m2
              have zz : x + 70 ≤ na c.2.2.1 := o1.1.2.2.2.2.2.2.2.2.2.2.2.1 _ hlt
              try dsimp only [Option.toList, List.cons_append, List.nil_append]
              refine o_iload_n hC dX7_pick_67 (by rfl) ?_
              refine o_iload hC dX7_pick_68 (by rfl) ?_
              refine o_iload_n hC dX7_pick_70 (by rfl) ?_
              refine o_iload hC dX7_pick_71 (by rfl) ?_
              refine o_callV4 hC rl_BW_good rl_Ns_nw (by exact hB.2.2.2.2.2) YX1_detail IX1_detail VX1_detail (mX7_89 hC) (by rw [hB.1]; exact ct_X1_detail l D ids H0 _ _ (na c.2.2.1) _ _ _ _ _ _ _ _ _ _ _ _ _ m2) (by exact m2) rfl rfl (Nat.le_of_ble_eq_true rfl) (by rw [hB.2.1]; first | exact Nat.le_of_ble_eq_true rfl | (dsimp only; omega)) (by rw [hB.2.1]; first | exact Nat.le_of_ble_eq_true rfl | (dsimp only; omega)) (by rw [hB.2.1]; first | exact Nat.le_of_ble_eq_true rfl | (dsimp only; omega)) (by rw [hB.2.1]; first | exact Nat.le_of_ble_eq_true rfl | (dsimp only; omega)) dX7_pick_73 (fun v h_73 n_73 p_73 => ?_)
              obtain ⟨rfl, rfl, d1, d2⟩ := p_73
              have e1 := (d2 x (by omega)).trans o1.1.1
              try dsimp only [Option.toList, List.cons_append, List.nil_append]
              refine o_aload_n hC dX7_pick_76 (by rfl) ?_
              refine o_dup hC dX7_pick_77 rfl ?_
              refine o_getf hC (fX7_78 hC rfl) dX7_pick_78 (by repeat (first | with_reducible assumption | (rw [rl_u_s]; done) | (rw [rl_u_s]; rfl) | rw [rl_u_n (by first | with_reducible assumption | omega)])) (by first | rfl | with_reducible assumption) ?_
              refine o_dup_x1 hC dX7_pick_81 rfl rfl ?_
              refine o_iconst (v := nI 1) hC dX7_pick_82 (by decide +kernel) ?_
              refine o_iadd hC dX7_pick_83 ?_
              rw [nI_add c.2.2.1 1]
              refine o_putf hC (fX7_78 hC rfl) (fwX7 rfl rfl rfl (Or.inl rfl)) dX7_pick_84 (by repeat (first | with_reducible assumption | (rw [rl_u_s]; done) | (rw [rl_u_s]; rfl) | rw [rl_u_n (by first | with_reducible assumption | omega)])) (Nat.le_of_ble_eq_true rfl) ?_
              try simp only [List.set_cons_zero, List.set_cons_succ]
              refine o_iret hC hB dX7_pick_87 (Nat.le_of_ble_eq_true rfl) (Nat.le_of_ble_eq_true rfl) ?_
              (obtain ⟨r1, r2⟩ := o1.add hlt d1 d2 g8 (cl_cv.new (op := 1) (w := w) (w1 := w) (w2 := 0) g0 g1 g2 g3 rfl w3 w1 ⟨by decide, w2, fun _ => ⟨⟨c9, hc9, rfl⟩, hot, ⟨kd, hkd, rfl⟩⟩, fun q => absurd q (by decide), fun q => absurd q (by decide), fun q => absurd q (by decide)⟩ (Or.inr ⟨j, hj, rfl⟩) (Or.inl rfl) (fun _ => ⟨j, hj, rfl, by rw [o2 j hj]; exact ⟨w3, w2⟩⟩) (fun q => absurd q (by decide))); obtain ⟨r3, r4⟩ := hR.add (na := na) (mk := mk) h16 o2 g1; have e : sh_pick z (nI j) (nI c9) (nI kd) ot = sh_node z _ := ((if_neg nk).trans (if_neg (fun w => w.elim c_28 (fun w => w c_33)))).trans (congrArg (sh_node z) (w4.trans w3.symm)); exact ⟨_, _, rfl, n1, n2, r1, (by rw [e]; exact r3), (by rw [e]; exact r4.symm), of.tr r2, cl_ad.mk hlt o1.1 (fun q a b => (rl_u_n (by omega)).trans (d2 q a)) o2 g0 g2 g3 g8 o4 o5 o6 o7⟩)
            · refine o_bipush (v := (-4 : Int32)) hC dX7_pick_48 (by decide +kernel) ?_
              refine o_iret hC hB dX7_pick_50 (Nat.le_of_ble_eq_true rfl) (Nat.le_of_ble_eq_true rfl) ?_
              (have e : sh_pick z (nI j) (nI c9) (nI kd) ot = (-4, z) := ((if_neg nk).trans (if_neg (fun w => w.elim c_28 (fun w => w c_33)))).trans (sh_node_n (fun w => c_45 (by rw [hR.2.2.2.1]; exact nI_lt w (by decide)))); exact ⟨_, c, rfl, Nat.le_refl _, by omega, hk, (by rw [e]; exact hR), (by rw [e]), cl_fr.rf, Or.inl ⟨rfl, rfl⟩⟩)
          · refine o_bipush (v := (-2 : Int32)) hC dX7_pick_36 (by decide +kernel) ?_
            refine o_iret hC hB dX7_pick_38 (Nat.le_of_ble_eq_true rfl) (Nat.le_of_ble_eq_true rfl) ?_
            first
            | (have e : sh_pick z q kk sg ot = (-2, z) := (if_neg nk).trans (if_pos (Or.inl c_28)); exact ⟨_, c, rfl, Nat.le_refl _, by omega, hk, (by rw [e]; exact hR), (by rw [e]), cl_fr.rf, Or.inl ⟨rfl, rfl⟩⟩)
            | (have e : sh_pick z q kk sg ot = (-2, z) := (if_neg nk).trans (if_pos (Or.inr c_33)); exact ⟨_, c, rfl, Nat.le_refl _, by omega, hk, (by rw [e]; exact hR), (by rw [e]), cl_fr.rf, Or.inl ⟨rfl, rfl⟩⟩)
      · refine o_iconst (v := (-1 : Int32)) hC dX7_pick_25 (by decide +kernel) ?_
        refine o_iret hC hB dX7_pick_26 (Nat.le_of_ble_eq_true rfl) (Nat.le_of_ble_eq_true rfl) ?_
        first
        | (have e : sh_pick z q kk sg ot = (-1, z) := if_pos (Or.inl (hz3.elim (fun a => a.2) (fun a => absurd (c_6.symm.trans a.1) (by decide +kernel)))); exact ⟨_, c, rfl, Nat.le_refl _, by omega, hk, (by rw [e]; exact hR), (by rw [e]), cl_fr.rf, Or.inl ⟨rfl, rfl⟩⟩)
        | (have e : sh_pick z q kk sg ot = (-1, z) := if_pos (Or.inr ⟨c_12, (hz19.elim (fun a => a.2) (fun a => absurd (c_22.symm.trans a.1) (by decide +kernel)))⟩); exact ⟨_, c, rfl, Nat.le_refl _, by omega, hk, (by rw [e]; exact hR), (by rw [e]), cl_fr.rf, Or.inl ⟨rfl, rfl⟩⟩)

set_option maxHeartbeats 4000000 in
set_option maxRecDepth 100000 in
theorem cg_X7_join (l : Launch) (D : va_G) (ids : Nat → ClassId) (H0 : Heap) (h : rl_H) (n : Nat) (x L : Nat) (s : cl_S) (c : cl_N) (z : sh_S) (a b i j : Int32) (hk : cl_ok ids h n x L s c) (hR : sh_R s c z) : rl_Met l (rl_e D ids H0) rl_BW rl_Ns yX7_join cX7_join 6 (some .int) ({ frames := 5, cells := 403, slots := 2892, locals := 102 }) [.ref x, .int a, .int b, .int i, .int j] h n (fun v h' n' => ∃ (r : Int32) (c' : cl_N), v = some (.int r) ∧ n ≤ n' ∧ n' ≤ n + 403 ∧ cl_ok ids h' n' x L s c' ∧ sh_R s c' (sh_join z a b i j).2 ∧ r = (sh_join z a b i j).1 ∧ cl_fr h h' x L ∧ cl_ad ids h h' c c' (nI 3) a b i j (nI 0) (nI 0)) := by
  obtain ⟨hc, k2, k3, k4, k5, k6, k7⟩ := id hk
  obtain ⟨c1, c2, c3, ⟨pn, c4, c5⟩, ⟨pt, c6, c7⟩, c8, c9, c10, c11, c12, c13, c14, c15⟩ := id hc
  refine rl_Met.of (by decide +kernel) (Nat.le_of_ble_eq_true rfl) ?_
  intro X hC hB
  show rl_G X (rl_e D ids H0) 0 [some (.ref x), some (.int a), some (.int b), some (.int i), some (.int j), none] [] h n 0 0
  refine o_aload_n hC dX7_join_0 (by rfl) ?_
  refine o_iload_n hC dX7_join_1 (by rfl) ?_
  refine o_iload_n hC dX7_join_2 (by rfl) ?_
  refine o_callV2 hC rl_BW_good rl_Ns_nw (by exact hB.2.2.2.2.2) YX7_hasColumn IX7_hasColumn VX7_hasColumn (mX7_93 hC) (by rw [hB.1]; exact cg_X7_hasColumn l D ids H0 _ _ x s c _ _ hc) (by exact c1) rfl rfl (Nat.le_of_ble_eq_true rfl) (by rw [hB.2.1]; first | exact Nat.le_of_ble_eq_true rfl | (dsimp only; omega)) (by rw [hB.2.1]; first | exact Nat.le_of_ble_eq_true rfl | (dsimp only; omega)) (by rw [hB.2.1]; first | exact Nat.le_of_ble_eq_true rfl | (dsimp only; omega)) (by rw [hB.2.1]; first | exact Nat.le_of_ble_eq_true rfl | (dsimp only; omega)) dX7_join_3 (fun v h_3 n_3 p_3 => ?_)
  obtain ⟨z3, rfl, rfl, rfl, hz3⟩ := p_3
  replace hz3 := sh_R.nkz hk hR hz3
  try dsimp only [Option.toList, List.cons_append, List.nil_append]
  refine o_if_eq (tgt := 19) hC dX7_join_6 (by decide) (fun c_6 => ?_) (fun c_6 => ?_)
  · refine o_iconst (v := (-1 : Int32)) hC dX7_join_19 (by decide +kernel) ?_
    refine o_iret hC hB dX7_join_20 (Nat.le_of_ble_eq_true rfl) (Nat.le_of_ble_eq_true rfl) ?_
    first
    | (have e : sh_join z a b i j = (-1, z) := if_pos (Or.inl (hz3.elim (fun a => a.2) (fun a => absurd (c_6.symm.trans a.1) (by decide +kernel)))); exact ⟨_, c, rfl, Nat.le_refl _, by omega, hk, (by rw [e]; exact hR), (by rw [e]), cl_fr.rf, Or.inl ⟨rfl, rfl⟩⟩)
    | (have e : sh_join z a b i j = (-1, z) := if_pos (Or.inr (hz13.elim (fun a => a.2) (fun a => absurd (c_16.symm.trans a.1) (by decide +kernel)))); exact ⟨_, c, rfl, Nat.le_refl _, by omega, hk, (by rw [e]; exact hR), (by rw [e]), cl_fr.rf, Or.inl ⟨rfl, rfl⟩⟩)
  · refine o_aload_n hC dX7_join_9 (by rfl) ?_
    refine o_iload_n hC dX7_join_10 (by rfl) ?_
    refine o_iload hC dX7_join_11 (by rfl) ?_
    refine o_callV2 hC rl_BW_good rl_Ns_nw (by exact hB.2.2.2.2.2) YX7_hasColumn IX7_hasColumn VX7_hasColumn (mX7_93 hC) (by rw [hB.1]; exact cg_X7_hasColumn l D ids H0 _ _ x s c _ _ hc) (by exact c1) rfl rfl (Nat.le_of_ble_eq_true rfl) (by rw [hB.2.1]; first | exact Nat.le_of_ble_eq_true rfl | (dsimp only; omega)) (by rw [hB.2.1]; first | exact Nat.le_of_ble_eq_true rfl | (dsimp only; omega)) (by rw [hB.2.1]; first | exact Nat.le_of_ble_eq_true rfl | (dsimp only; omega)) (by rw [hB.2.1]; first | exact Nat.le_of_ble_eq_true rfl | (dsimp only; omega)) dX7_join_13 (fun v h_13 n_13 p_13 => ?_)
    obtain ⟨z13, rfl, rfl, rfl, hz13⟩ := p_13
    replace hz13 := sh_R.nkz hk hR hz13
    try dsimp only [Option.toList, List.cons_append, List.nil_append]
    refine o_if_ne (tgt := 21) hC dX7_join_16 (by decide) (fun c_16 => ?_) (fun c_16 => ?_)
    · have nk : ¬ (sh_nk z a i ∨ sh_nk z b j) := fun w => w.elim (hz3.elim (fun a => absurd a.1 c_6) (fun a => a.2)) (hz13.elim (fun a => absurd a.1 c_16) (fun a => a.2))
      obtain ⟨ci, hci, rfl⟩ := sh_R.co hk hR (fun w => nk (Or.inl w))
      obtain ⟨cj, hcj, rfl⟩ := sh_R.co hk hR (fun w => nk (Or.inr w))
      obtain ⟨ja, wa, hja, rfl, w1a, w2a, w3a, w4a, m1a⟩ := sh_R.nd hk hR (fun w => nk (Or.inl (Or.inl w)))
      unfold cl_nd at m1a
      obtain ⟨jb, wb, hjb, rfl, w1b, w2b, w3b, w4b, m1b⟩ := sh_R.nd hk hR (fun w => nk (Or.inr (Or.inl w)))
      unfold cl_nd at m1b
      have ew : sh_w z (nI ja) + sh_w z (nI jb) = nI (wa + wb) := by rw [w4a, w4b, nI_add]
      refine o_aload_n hC dX7_join_21 (by rfl) ?_
      refine o_getf hC (fX7_25 hC rfl) dX7_join_22 (by repeat (first | with_reducible assumption | (rw [rl_u_s]; done) | (rw [rl_u_s]; rfl) | rw [rl_u_n (by first | with_reducible assumption | omega)])) (by first | rfl | with_reducible assumption) ?_
      refine o_iload_n hC dX7_join_25 (by rfl) ?_
      refine o_aaldN (t0 := 5) (k := ja) hC rfl dX7_join_26 c4 (by omega) (by decide) ?_
      rw [c5 _ (by omega), if_pos (by omega)]
      show rl_G X _ _ _ (.ref _ :: _) _ _ _ _
      refine o_getf hC (fX7_97 hC rfl) dX7_join_27 (by repeat (first | with_reducible assumption | (rw [rl_u_s]; done) | (rw [rl_u_s]; rfl) | rw [rl_u_n (by first | with_reducible assumption | omega)])) (by first | rfl | with_reducible assumption) ?_
      refine o_aload_n hC dX7_join_30 (by rfl) ?_
      refine o_getf hC (fX7_25 hC rfl) dX7_join_31 (by repeat (first | with_reducible assumption | (rw [rl_u_s]; done) | (rw [rl_u_s]; rfl) | rw [rl_u_n (by first | with_reducible assumption | omega)])) (by first | rfl | with_reducible assumption) ?_
      refine o_iload_n hC dX7_join_34 (by rfl) ?_
      refine o_aaldN (t0 := 5) (k := jb) hC rfl dX7_join_35 c4 (by omega) (by decide) ?_
      rw [c5 _ (by omega), if_pos (by omega)]
      show rl_G X _ _ _ (.ref _ :: _) _ _ _ _
      refine o_getf hC (fX7_97 hC rfl) dX7_join_36 (by repeat (first | with_reducible assumption | (rw [rl_u_s]; done) | (rw [rl_u_s]; rfl) | rw [rl_u_n (by first | with_reducible assumption | omega)])) (by first | rfl | with_reducible assumption) ?_
      refine o_iadd hC dX7_join_39 ?_
      rw [w3a, w3b, nI_add]
      refine o_istore hC dX7_join_40 (Nat.le_of_ble_eq_true rfl) ?_
      refine o_iload hC dX7_join_42 (by rfl) ?_
      refine o_bipush (v := nI 6) hC dX7_join_44 (by decide +kernel) ?_
      refine o_icmp_le (tgt := 52) hC dX7_join_46 (by decide) (fun c_46 => ?_) (fun c_46 => ?_)
      · have hw6 : wa + wb ≤ 6 := (nI_leI (by omega) (by decide)).mp c_46
        refine o_aload_n hC dX7_join_52 (by rfl) ?_
        refine o_getf hC (fX7_78 hC rfl) dX7_join_53 (by repeat (first | with_reducible assumption | (rw [rl_u_s]; done) | (rw [rl_u_s]; rfl) | rw [rl_u_n (by first | with_reducible assumption | omega)])) (by first | rfl | with_reducible assumption) ?_
        refine o_bipush (v := nI 16) hC dX7_join_56 (by decide +kernel) ?_
        refine o_icmp_lt (tgt := 64) hC dX7_join_58 (by decide) (fun c_58 => ?_) (fun c_58 => ?_)
        · have h16 : c.2.2.1 < 16 := by
            rcases Nat.lt_or_ge c.2.2.1 16 with w | w
            · exact w
            · exact absurd c_58 (nI_nlt w (by omega))
          refine o_aload_n hC dX7_join_64 (by rfl) ?_
          refine o_iconst (v := nI 3) hC dX7_join_65 (by decide +kernel) ?_
          refine o_iload hC dX7_join_66 (by rfl) ?_
          refine o_iload_n hC dX7_join_68 (by rfl) ?_
          refine o_iload_n hC dX7_join_69 (by rfl) ?_
          refine o_callV4 hC rl_BW_good rl_Ns_nw (by exact hB.2.2.2.2.2) YX7_openNode IX7_openNode VX7_openNode (mX7_85 hC) (by rw [hB.1]; exact cg_X7_openNode l D ids H0 _ _ x L s c _ _ _ _ hk h16) (by exact c1) rfl rfl (Nat.le_of_ble_eq_true rfl) (by rw [hB.2.1]; first | exact Nat.le_of_ble_eq_true rfl | (dsimp only; omega)) (by rw [hB.2.1]; first | exact Nat.le_of_ble_eq_true rfl | (dsimp only; omega)) (by rw [hB.2.1]; first | exact Nat.le_of_ble_eq_true rfl | (dsimp only; omega)) (by rw [hB.2.1]; first | exact Nat.le_of_ble_eq_true rfl | (dsimp only; omega)) dX7_join_70 (fun v h_70 n_70 p_70 => ?_)
          obtain ⟨na, mk, N, rfl, n1, n2, hlt, o1, o2, g0, g1, g2, g3, g8, of, o4, o5, o6, o7⟩ := p_70
          have m2 : h_70 (na c.2.2.1) = some (cl_nd N c.2.2.1) := o1.1.2.2.2.2.2.2.2.2.2.1 _ hlt
          unfold cl_nd at m2
          have zz : x + 70 ≤ na c.2.2.1 := o1.1.2.2.2.2.2.2.2.2.2.2.2.1 _ hlt
          try dsimp only [Option.toList, List.cons_append, List.nil_append]
          refine o_iload_n hC dX7_join_73 (by rfl) ?_
          refine o_iload hC dX7_join_74 (by rfl) ?_
          refine o_iconst (v := nI 0) hC dX7_join_76 (by decide +kernel) ?_
          refine o_iconst (v := nI 0) hC dX7_join_77 (by decide +kernel) ?_
          refine o_callV4 hC rl_BW_good rl_Ns_nw (by exact hB.2.2.2.2.2) YX1_detail IX1_detail VX1_detail (mX7_89 hC) (by rw [hB.1]; exact ct_X1_detail l D ids H0 _ _ (na c.2.2.1) _ _ _ _ _ _ _ _ _ _ _ _ _ m2) (by exact m2) rfl rfl (Nat.le_of_ble_eq_true rfl) (by rw [hB.2.1]; first | exact Nat.le_of_ble_eq_true rfl | (dsimp only; omega)) (by rw [hB.2.1]; first | exact Nat.le_of_ble_eq_true rfl | (dsimp only; omega)) (by rw [hB.2.1]; first | exact Nat.le_of_ble_eq_true rfl | (dsimp only; omega)) (by rw [hB.2.1]; first | exact Nat.le_of_ble_eq_true rfl | (dsimp only; omega)) dX7_join_78 (fun v h_78 n_78 p_78 => ?_)
          obtain ⟨rfl, rfl, d1, d2⟩ := p_78
          have e1 := (d2 x (by omega)).trans o1.1.1
          try dsimp only [Option.toList, List.cons_append, List.nil_append]
          refine o_aload_n hC dX7_join_81 (by rfl) ?_
          refine o_dup hC dX7_join_82 rfl ?_
          refine o_getf hC (fX7_78 hC rfl) dX7_join_83 (by repeat (first | with_reducible assumption | (rw [rl_u_s]; done) | (rw [rl_u_s]; rfl) | rw [rl_u_n (by first | with_reducible assumption | omega)])) (by first | rfl | with_reducible assumption) ?_
          refine o_dup_x1 hC dX7_join_86 rfl rfl ?_
          refine o_iconst (v := nI 1) hC dX7_join_87 (by decide +kernel) ?_
          refine o_iadd hC dX7_join_88 ?_
          rw [nI_add c.2.2.1 1]
          refine o_putf hC (fX7_78 hC rfl) (fwX7 rfl rfl rfl (Or.inl rfl)) dX7_join_89 (by repeat (first | with_reducible assumption | (rw [rl_u_s]; done) | (rw [rl_u_s]; rfl) | rw [rl_u_n (by first | with_reducible assumption | omega)])) (Nat.le_of_ble_eq_true rfl) ?_
          try simp only [List.set_cons_zero, List.set_cons_succ]
          refine o_iret hC hB dX7_join_92 (Nat.le_of_ble_eq_true rfl) (Nat.le_of_ble_eq_true rfl) ?_
          (obtain ⟨r1, r2⟩ := o1.add hlt d1 d2 g8 (cl_cv.new (op := 3) (w := wa + wb) (w1 := wa) (w2 := wb) g0 g1 g2 g3 rfl rfl (by omega) ⟨by decide, hw6, fun q => absurd q (by decide), fun q => absurd q (by decide), fun _ => ⟨⟨ci, hci, rfl⟩, ⟨cj, hcj, rfl⟩, hw6⟩, fun q => absurd q (by decide)⟩ (Or.inr ⟨ja, hja, rfl⟩) (Or.inr ⟨jb, hjb, rfl⟩) (fun _ => ⟨ja, hja, rfl, by rw [o2 ja hja]; exact ⟨w3a, w2a⟩⟩) (fun _ => ⟨jb, hjb, rfl, by rw [o2 jb hjb]; exact ⟨w3b, w2b⟩⟩)); obtain ⟨r3, r4⟩ := hR.add (na := na) (mk := mk) h16 o2 g1; have e : sh_join z (nI ja) (nI jb) (nI ci) (nI cj) = sh_node z _ := ((if_neg nk).trans (if_neg (fun w => w (by rw [ew]; exact c_46)))).trans (congrArg (sh_node z) ew); exact ⟨_, _, rfl, n1, n2, r1, (by rw [e]; exact r3), (by rw [e]; exact r4.symm), of.tr r2, cl_ad.mk hlt o1.1 (fun q a b => (rl_u_n (by omega)).trans (d2 q a)) o2 g0 g2 g3 g8 o4 o5 o6 o7⟩)
        · refine o_bipush (v := (-4 : Int32)) hC dX7_join_61 (by decide +kernel) ?_
          refine o_iret hC hB dX7_join_63 (Nat.le_of_ble_eq_true rfl) (Nat.le_of_ble_eq_true rfl) ?_
          (have e : sh_join z (nI ja) (nI jb) (nI ci) (nI cj) = (-4, z) := ((if_neg nk).trans (if_neg (fun w => w (by rw [ew]; exact c_46)))).trans (sh_node_n (fun w => c_58 (by rw [hR.2.2.2.1]; exact nI_lt w (by decide)))); exact ⟨_, c, rfl, Nat.le_refl _, by omega, hk, (by rw [e]; exact hR), (by rw [e]), cl_fr.rf, Or.inl ⟨rfl, rfl⟩⟩)
      · refine o_bipush (v := (-2 : Int32)) hC dX7_join_49 (by decide +kernel) ?_
        refine o_iret hC hB dX7_join_51 (Nat.le_of_ble_eq_true rfl) (Nat.le_of_ble_eq_true rfl) ?_
        (have e : sh_join z (nI ja) (nI jb) (nI ci) (nI cj) = (-2, z) := (if_neg nk).trans (if_pos (by rw [ew]; exact c_46)); exact ⟨_, c, rfl, Nat.le_refl _, by omega, hk, (by rw [e]; exact hR), (by rw [e]), cl_fr.rf, Or.inl ⟨rfl, rfl⟩⟩)
    · refine o_iconst (v := (-1 : Int32)) hC dX7_join_19 (by decide +kernel) ?_
      refine o_iret hC hB dX7_join_20 (Nat.le_of_ble_eq_true rfl) (Nat.le_of_ble_eq_true rfl) ?_
      first
      | (have e : sh_join z a b i j = (-1, z) := if_pos (Or.inl (hz3.elim (fun a => a.2) (fun a => absurd (c_6.symm.trans a.1) (by decide +kernel)))); exact ⟨_, c, rfl, Nat.le_refl _, by omega, hk, (by rw [e]; exact hR), (by rw [e]), cl_fr.rf, Or.inl ⟨rfl, rfl⟩⟩)
      | (have e : sh_join z a b i j = (-1, z) := if_pos (Or.inr (hz13.elim (fun a => a.2) (fun a => absurd (c_16.symm.trans a.1) (by decide +kernel)))); exact ⟨_, c, rfl, Nat.le_refl _, by omega, hk, (by rw [e]; exact hR), (by rw [e]), cl_fr.rf, Or.inl ⟨rfl, rfl⟩⟩)

set_option maxHeartbeats 4000000 in
set_option maxRecDepth 100000 in
theorem cg_X7_addAlikeNode (l : Launch) (D : va_G) (ids : Nat → ClassId) (H0 : Heap) (h : rl_H) (n : Nat) (x L : Nat) (s : cl_S) (c : cl_N) (z : sh_S) (op : Nat) (a b : Int32) (hk : cl_ok ids h n x L s c) (hR : sh_R s c z) (hop : op = 4 ∨ op = 5) : rl_Met l (rl_e D ids H0) rl_BW rl_Ns yX7_addAlikeNode cX7_addAlikeNode 4 (some .int) ({ frames := 5, cells := 403, slots := 2892, locals := 102 }) [.ref x, .int (nI op), .int a, .int b] h n (fun v h' n' => ∃ (r : Int32) (c' : cl_N), v = some (.int r) ∧ n ≤ n' ∧ n' ≤ n + 403 ∧ cl_ok ids h' n' x L s c' ∧ sh_R s c' (sh_pair z a b).2 ∧ r = (sh_pair z a b).1 ∧ cl_fr h h' x L ∧ cl_ad ids h h' c c' (nI op) a b (-1) (-1) (nI 0) (nI 0)) := by
  obtain ⟨hc, k2, k3, k4, k5, k6, k7⟩ := id hk
  obtain ⟨c1, c2, c3, ⟨pn, c4, c5⟩, ⟨pt, c6, c7⟩, c8, c9, c10, c11, c12, c13, c14, c15⟩ := id hc
  refine rl_Met.of (by decide +kernel) (Nat.le_of_ble_eq_true rfl) ?_
  intro X hC hB
  show rl_G X (rl_e D ids H0) 0 [some (.ref x), some (.int (nI op)), some (.int a), some (.int b)] [] h n 0 0
  refine o_aload_n hC dX7_addAlikeNode_0 (by rfl) ?_
  refine o_iload_n hC dX7_addAlikeNode_1 (by rfl) ?_
  refine o_callV1 hC rl_BW_good rl_Ns_nw (by exact hB.2.2.2.2.2) YX7_isNode IX7_isNode VX7_isNode (mX7_100 hC) (by rw [hB.1]; exact cg_X7_isNode l D ids H0 _ _ x s c _ hc) (by exact c1) rfl rfl (Nat.le_of_ble_eq_true rfl) (by rw [hB.2.1]; first | exact Nat.le_of_ble_eq_true rfl | (dsimp only; omega)) (by rw [hB.2.1]; first | exact Nat.le_of_ble_eq_true rfl | (dsimp only; omega)) (by rw [hB.2.1]; first | exact Nat.le_of_ble_eq_true rfl | (dsimp only; omega)) (by rw [hB.2.1]; first | exact Nat.le_of_ble_eq_true rfl | (dsimp only; omega)) dX7_addAlikeNode_2 (fun v h_2 n_2 p_2 => ?_)
  obtain ⟨z2, rfl, rfl, rfl, hz2⟩ := p_2
  replace hz2 := sh_R.nnz hk hR hz2
  try dsimp only [Option.toList, List.cons_append, List.nil_append]
  refine o_if_eq (tgt := 16) hC dX7_addAlikeNode_5 (by decide) (fun c_5 => ?_) (fun c_5 => ?_)
  · refine o_iconst (v := (-1 : Int32)) hC dX7_addAlikeNode_16 (by decide +kernel) ?_
    refine o_iret hC hB dX7_addAlikeNode_17 (Nat.le_of_ble_eq_true rfl) (Nat.le_of_ble_eq_true rfl) ?_
    first
    | (have e : sh_pair z a b = (-1, z) := if_pos (Or.inl (hz2.elim (fun a => a.2) (fun a => absurd (c_5.symm.trans a.1) (by decide +kernel)))); exact ⟨_, c, rfl, Nat.le_refl _, by omega, hk, (by rw [e]; exact hR), (by rw [e]), cl_fr.rf, Or.inl ⟨rfl, rfl⟩⟩)
    | (have e : sh_pair z a b = (-1, z) := if_pos (Or.inr (hz10.elim (fun a => a.2) (fun a => absurd (c_13.symm.trans a.1) (by decide +kernel)))); exact ⟨_, c, rfl, Nat.le_refl _, by omega, hk, (by rw [e]; exact hR), (by rw [e]), cl_fr.rf, Or.inl ⟨rfl, rfl⟩⟩)
  · refine o_aload_n hC dX7_addAlikeNode_8 (by rfl) ?_
    refine o_iload_n hC dX7_addAlikeNode_9 (by rfl) ?_
    refine o_callV1 hC rl_BW_good rl_Ns_nw (by exact hB.2.2.2.2.2) YX7_isNode IX7_isNode VX7_isNode (mX7_100 hC) (by rw [hB.1]; exact cg_X7_isNode l D ids H0 _ _ x s c _ hc) (by exact c1) rfl rfl (Nat.le_of_ble_eq_true rfl) (by rw [hB.2.1]; first | exact Nat.le_of_ble_eq_true rfl | (dsimp only; omega)) (by rw [hB.2.1]; first | exact Nat.le_of_ble_eq_true rfl | (dsimp only; omega)) (by rw [hB.2.1]; first | exact Nat.le_of_ble_eq_true rfl | (dsimp only; omega)) (by rw [hB.2.1]; first | exact Nat.le_of_ble_eq_true rfl | (dsimp only; omega)) dX7_addAlikeNode_10 (fun v h_10 n_10 p_10 => ?_)
    obtain ⟨z10, rfl, rfl, rfl, hz10⟩ := p_10
    replace hz10 := sh_R.nnz hk hR hz10
    try dsimp only [Option.toList, List.cons_append, List.nil_append]
    refine o_if_ne (tgt := 18) hC dX7_addAlikeNode_13 (by decide) (fun c_13 => ?_) (fun c_13 => ?_)
    · have nk : ¬ (sh_nn z a ∨ sh_nn z b) := fun w => w.elim (hz2.elim (fun a => absurd a.1 c_5) (fun a => a.2)) (hz10.elim (fun a => absurd a.1 c_13) (fun a => a.2))
      obtain ⟨ja, wa, hja, rfl, w1a, w2a, w3a, w4a, m1a⟩ := sh_R.nd hk hR (fun w => nk (Or.inl w))
      unfold cl_nd at m1a
      obtain ⟨jb, wb, hjb, rfl, w1b, w2b, w3b, w4b, m1b⟩ := sh_R.nd hk hR (fun w => nk (Or.inr w))
      unfold cl_nd at m1b
      refine o_aload_n hC dX7_addAlikeNode_18 (by rfl) ?_
      refine o_getf hC (fX7_25 hC rfl) dX7_addAlikeNode_19 (by repeat (first | with_reducible assumption | (rw [rl_u_s]; done) | (rw [rl_u_s]; rfl) | rw [rl_u_n (by first | with_reducible assumption | omega)])) (by first | rfl | with_reducible assumption) ?_
      refine o_iload_n hC dX7_addAlikeNode_22 (by rfl) ?_
      refine o_aaldN (t0 := 5) (k := ja) hC rfl dX7_addAlikeNode_23 c4 (by omega) (by decide) ?_
      rw [c5 _ (by omega), if_pos (by omega)]
      show rl_G X _ _ _ (.ref _ :: _) _ _ _ _
      refine o_getf hC (fX7_97 hC rfl) dX7_addAlikeNode_24 (by repeat (first | with_reducible assumption | (rw [rl_u_s]; done) | (rw [rl_u_s]; rfl) | rw [rl_u_n (by first | with_reducible assumption | omega)])) (by first | rfl | with_reducible assumption) ?_
      refine o_aload_n hC dX7_addAlikeNode_27 (by rfl) ?_
      refine o_getf hC (fX7_25 hC rfl) dX7_addAlikeNode_28 (by repeat (first | with_reducible assumption | (rw [rl_u_s]; done) | (rw [rl_u_s]; rfl) | rw [rl_u_n (by first | with_reducible assumption | omega)])) (by first | rfl | with_reducible assumption) ?_
      refine o_iload_n hC dX7_addAlikeNode_31 (by rfl) ?_
      refine o_aaldN (t0 := 5) (k := jb) hC rfl dX7_addAlikeNode_32 c4 (by omega) (by decide) ?_
      rw [c5 _ (by omega), if_pos (by omega)]
      show rl_G X _ _ _ (.ref _ :: _) _ _ _ _
      refine o_getf hC (fX7_97 hC rfl) dX7_addAlikeNode_33 (by repeat (first | with_reducible assumption | (rw [rl_u_s]; done) | (rw [rl_u_s]; rfl) | rw [rl_u_n (by first | with_reducible assumption | omega)])) (by first | rfl | with_reducible assumption) ?_
      refine o_icmp_eq (tgt := 42) hC dX7_addAlikeNode_36 (by decide) (fun c_36 => ?_) (fun c_36 => ?_)
      · refine o_aload_n hC dX7_addAlikeNode_42 (by rfl) ?_
        refine o_getf hC (fX7_78 hC rfl) dX7_addAlikeNode_43 (by repeat (first | with_reducible assumption | (rw [rl_u_s]; done) | (rw [rl_u_s]; rfl) | rw [rl_u_n (by first | with_reducible assumption | omega)])) (by first | rfl | with_reducible assumption) ?_
        refine o_bipush (v := nI 16) hC dX7_addAlikeNode_46 (by decide +kernel) ?_
        refine o_icmp_lt (tgt := 54) hC dX7_addAlikeNode_48 (by decide) (fun c_48 => ?_) (fun c_48 => ?_)
        · have h16 : c.2.2.1 < 16 := by
            rcases Nat.lt_or_ge c.2.2.1 16 with w | w
            · exact w
            · exact absurd c_48 (nI_nlt w (by omega))
          refine o_aload_n hC dX7_addAlikeNode_54 (by rfl) ?_
          refine o_iload_n hC dX7_addAlikeNode_55 (by rfl) ?_
          refine o_aload_n hC dX7_addAlikeNode_56 (by rfl) ?_
          refine o_getf hC (fX7_25 hC rfl) dX7_addAlikeNode_57 (by repeat (first | with_reducible assumption | (rw [rl_u_s]; done) | (rw [rl_u_s]; rfl) | rw [rl_u_n (by first | with_reducible assumption | omega)])) (by first | rfl | with_reducible assumption) ?_
          refine o_iload_n hC dX7_addAlikeNode_60 (by rfl) ?_
          refine o_aaldN (t0 := 5) (k := ja) hC rfl dX7_addAlikeNode_61 c4 (by omega) (by decide) ?_
          rw [c5 _ (by omega), if_pos (by omega)]
          show rl_G X _ _ _ (.ref _ :: _) _ _ _ _
          refine o_getf hC (fX7_97 hC rfl) dX7_addAlikeNode_62 (by repeat (first | with_reducible assumption | (rw [rl_u_s]; done) | (rw [rl_u_s]; rfl) | rw [rl_u_n (by first | with_reducible assumption | omega)])) (by first | rfl | with_reducible assumption) ?_
          refine o_iload_n hC dX7_addAlikeNode_65 (by rfl) ?_
          refine o_iload_n hC dX7_addAlikeNode_66 (by rfl) ?_
          refine o_callV4 hC rl_BW_good rl_Ns_nw (by exact hB.2.2.2.2.2) YX7_openNode IX7_openNode VX7_openNode (mX7_85 hC) (by rw [hB.1]; exact cg_X7_openNode l D ids H0 _ _ x L s c _ _ _ _ hk h16) (by exact c1) rfl rfl (Nat.le_of_ble_eq_true rfl) (by rw [hB.2.1]; first | exact Nat.le_of_ble_eq_true rfl | (dsimp only; omega)) (by rw [hB.2.1]; first | exact Nat.le_of_ble_eq_true rfl | (dsimp only; omega)) (by rw [hB.2.1]; first | exact Nat.le_of_ble_eq_true rfl | (dsimp only; omega)) (by rw [hB.2.1]; first | exact Nat.le_of_ble_eq_true rfl | (dsimp only; omega)) dX7_addAlikeNode_67 (fun v h_67 n_67 p_67 => ?_)
          obtain ⟨na, mk, N, rfl, n1, n2, hlt, o1, o2, g0, g1, g2, g3, g8, of, o4, o5, o6, o7⟩ := p_67
          have m2 : h_67 (na c.2.2.1) = some (cl_nd N c.2.2.1) := o1.1.2.2.2.2.2.2.2.2.2.1 _ hlt
          unfold cl_nd at m2
          have zz : x + 70 ≤ na c.2.2.1 := o1.1.2.2.2.2.2.2.2.2.2.2.2.1 _ hlt
          try dsimp only [Option.toList, List.cons_append, List.nil_append]
          refine o_iconst (v := (-1 : Int32)) hC dX7_addAlikeNode_70 (by decide +kernel) ?_
          refine o_iconst (v := (-1 : Int32)) hC dX7_addAlikeNode_71 (by decide +kernel) ?_
          refine o_iconst (v := nI 0) hC dX7_addAlikeNode_72 (by decide +kernel) ?_
          refine o_iconst (v := nI 0) hC dX7_addAlikeNode_73 (by decide +kernel) ?_
          refine o_callV4 hC rl_BW_good rl_Ns_nw (by exact hB.2.2.2.2.2) YX1_detail IX1_detail VX1_detail (mX7_89 hC) (by rw [hB.1]; exact ct_X1_detail l D ids H0 _ _ (na c.2.2.1) _ _ _ _ _ _ _ _ _ _ _ _ _ m2) (by exact m2) rfl rfl (Nat.le_of_ble_eq_true rfl) (by rw [hB.2.1]; first | exact Nat.le_of_ble_eq_true rfl | (dsimp only; omega)) (by rw [hB.2.1]; first | exact Nat.le_of_ble_eq_true rfl | (dsimp only; omega)) (by rw [hB.2.1]; first | exact Nat.le_of_ble_eq_true rfl | (dsimp only; omega)) (by rw [hB.2.1]; first | exact Nat.le_of_ble_eq_true rfl | (dsimp only; omega)) dX7_addAlikeNode_74 (fun v h_74 n_74 p_74 => ?_)
          obtain ⟨rfl, rfl, d1, d2⟩ := p_74
          have e1 := (d2 x (by omega)).trans o1.1.1
          try dsimp only [Option.toList, List.cons_append, List.nil_append]
          refine o_aload_n hC dX7_addAlikeNode_77 (by rfl) ?_
          refine o_dup hC dX7_addAlikeNode_78 rfl ?_
          refine o_getf hC (fX7_78 hC rfl) dX7_addAlikeNode_79 (by repeat (first | with_reducible assumption | (rw [rl_u_s]; done) | (rw [rl_u_s]; rfl) | rw [rl_u_n (by first | with_reducible assumption | omega)])) (by first | rfl | with_reducible assumption) ?_
          refine o_dup_x1 hC dX7_addAlikeNode_82 rfl rfl ?_
          refine o_iconst (v := nI 1) hC dX7_addAlikeNode_83 (by decide +kernel) ?_
          refine o_iadd hC dX7_addAlikeNode_84 ?_
          rw [nI_add c.2.2.1 1]
          refine o_putf hC (fX7_78 hC rfl) (fwX7 rfl rfl rfl (Or.inl rfl)) dX7_addAlikeNode_85 (by repeat (first | with_reducible assumption | (rw [rl_u_s]; done) | (rw [rl_u_s]; rfl) | rw [rl_u_n (by first | with_reducible assumption | omega)])) (Nat.le_of_ble_eq_true rfl) ?_
          try simp only [List.set_cons_zero, List.set_cons_succ]
          refine o_iret hC hB dX7_addAlikeNode_88 (Nat.le_of_ble_eq_true rfl) (Nat.le_of_ble_eq_true rfl) ?_
          (obtain ⟨r1, r2⟩ := o1.add hlt d1 d2 g8 (cl_cv.new (op := op) (w := wa) (w1 := wa) (w2 := wb) g0 g1 g2 g3 rfl w3a w1a ⟨by omega, w2a, fun q => absurd q (by omega), fun q => absurd q (by omega), fun q => absurd q (by omega), fun q => absurd q (by omega)⟩ (Or.inr ⟨ja, hja, rfl⟩) (Or.inr ⟨jb, hjb, rfl⟩) (fun _ => ⟨ja, hja, rfl, by rw [o2 ja hja]; exact ⟨w3a, w2a⟩⟩) (fun _ => ⟨jb, hjb, rfl, by rw [o2 jb hjb]; exact ⟨w3b, w2b⟩⟩)); obtain ⟨r3, r4⟩ := hR.add (na := na) (mk := mk) h16 o2 g1; have e : sh_pair z (nI ja) (nI jb) = sh_node z _ := ((if_neg nk).trans (if_neg (fun w => w ((w4a.trans w3a.symm).trans (c_36.trans (w3b.trans w4b.symm)))))).trans (congrArg (sh_node z) (w4a.trans w3a.symm)); exact ⟨_, _, rfl, n1, n2, r1, (by rw [e]; exact r3), (by rw [e]; exact r4.symm), of.tr r2, cl_ad.mk hlt o1.1 (fun q a b => (rl_u_n (by omega)).trans (d2 q a)) o2 g0 g2 g3 g8 o4 o5 o6 o7⟩)
        · refine o_bipush (v := (-4 : Int32)) hC dX7_addAlikeNode_51 (by decide +kernel) ?_
          refine o_iret hC hB dX7_addAlikeNode_53 (Nat.le_of_ble_eq_true rfl) (Nat.le_of_ble_eq_true rfl) ?_
          (have e : sh_pair z (nI ja) (nI jb) = (-4, z) := ((if_neg nk).trans (if_neg (fun w => w ((w4a.trans w3a.symm).trans (c_36.trans (w3b.trans w4b.symm)))))).trans (sh_node_n (fun w => c_48 (by rw [hR.2.2.2.1]; exact nI_lt w (by decide)))); exact ⟨_, c, rfl, Nat.le_refl _, by omega, hk, (by rw [e]; exact hR), (by rw [e]), cl_fr.rf, Or.inl ⟨rfl, rfl⟩⟩)
      · refine o_bipush (v := (-2 : Int32)) hC dX7_addAlikeNode_39 (by decide +kernel) ?_
        refine o_iret hC hB dX7_addAlikeNode_41 (Nat.le_of_ble_eq_true rfl) (Nat.le_of_ble_eq_true rfl) ?_
        (have e : sh_pair z (nI ja) (nI jb) = (-2, z) := (if_neg nk).trans (if_pos (fun w => c_36 ((w3a.trans w4a.symm).trans (w.trans (w4b.trans w3b.symm))))); exact ⟨_, c, rfl, Nat.le_refl _, by omega, hk, (by rw [e]; exact hR), (by rw [e]), cl_fr.rf, Or.inl ⟨rfl, rfl⟩⟩)
    · refine o_iconst (v := (-1 : Int32)) hC dX7_addAlikeNode_16 (by decide +kernel) ?_
      refine o_iret hC hB dX7_addAlikeNode_17 (Nat.le_of_ble_eq_true rfl) (Nat.le_of_ble_eq_true rfl) ?_
      first
      | (have e : sh_pair z a b = (-1, z) := if_pos (Or.inl (hz2.elim (fun a => a.2) (fun a => absurd (c_5.symm.trans a.1) (by decide +kernel)))); exact ⟨_, c, rfl, Nat.le_refl _, by omega, hk, (by rw [e]; exact hR), (by rw [e]), cl_fr.rf, Or.inl ⟨rfl, rfl⟩⟩)
      | (have e : sh_pair z a b = (-1, z) := if_pos (Or.inr (hz10.elim (fun a => a.2) (fun a => absurd (c_13.symm.trans a.1) (by decide +kernel)))); exact ⟨_, c, rfl, Nat.le_refl _, by omega, hk, (by rw [e]; exact hR), (by rw [e]), cl_fr.rf, Or.inl ⟨rfl, rfl⟩⟩)

set_option maxHeartbeats 4000000 in
set_option maxRecDepth 100000 in
theorem cg_X7_unite (l : Launch) (D : va_G) (ids : Nat → ClassId) (H0 : Heap) (h : rl_H) (n : Nat) (x L : Nat) (s : cl_S) (c : cl_N) (z : sh_S) (a b : Int32) (hk : cl_ok ids h n x L s c) (hR : sh_R s c z) : rl_Met l (rl_e D ids H0) rl_BW rl_Ns yX7_unite cX7_unite 3 (some .int) ({ frames := 6, cells := 403, slots := 2892, locals := 125 }) [.ref x, .int a, .int b] h n (fun v h' n' => ∃ (r : Int32) (c' : cl_N), v = some (.int r) ∧ n ≤ n' ∧ n' ≤ n + 403 ∧ cl_ok ids h' n' x L s c' ∧ sh_R s c' (sh_pair z a b).2 ∧ r = (sh_pair z a b).1 ∧ cl_fr h h' x L ∧ cl_ad ids h h' c c' (nI 4) a b (-1) (-1) (nI 0) (nI 0)) := by
  obtain ⟨hc, k2, k3, k4, k5, k6, k7⟩ := id hk
  obtain ⟨c1, c2, c3, ⟨pn, c4, c5⟩, ⟨pt, c6, c7⟩, c8, c9, c10, c11, c12, c13, c14, c15⟩ := id hc
  refine rl_Met.of (by decide +kernel) (Nat.le_of_ble_eq_true rfl) ?_
  intro X hC hB
  show rl_G X (rl_e D ids H0) 0 [some (.ref x), some (.int a), some (.int b)] [] h n 0 0
  refine o_aload_n hC dX7_unite_0 (by rfl) ?_
  refine o_iconst (v := nI 4) hC dX7_unite_1 (by decide +kernel) ?_
  refine o_iload_n hC dX7_unite_2 (by rfl) ?_
  refine o_iload_n hC dX7_unite_3 (by rfl) ?_
  refine o_callV3 hC rl_BW_good rl_Ns_nw (by exact hB.2.2.2.2.2) YX7_addAlikeNode IX7_addAlikeNode VX7_addAlikeNode (mX7_113 hC) (by rw [hB.1]; exact cg_X7_addAlikeNode l D ids H0 _ _ x L s c z 4 _ _ hk hR (by decide)) (by exact c1) rfl rfl (Nat.le_of_ble_eq_true rfl) (by rw [hB.2.1]; first | exact Nat.le_of_ble_eq_true rfl | (dsimp only; omega)) (by rw [hB.2.1]; first | exact Nat.le_of_ble_eq_true rfl | (dsimp only; omega)) (by rw [hB.2.1]; first | exact Nat.le_of_ble_eq_true rfl | (dsimp only; omega)) (by rw [hB.2.1]; first | exact Nat.le_of_ble_eq_true rfl | (dsimp only; omega)) dX7_unite_4 (fun v h_4 n_4 p_4 => ?_)
  obtain ⟨r, c', rfl, q1, q2, q3, q4, q5, q6⟩ := p_4
  try dsimp only [Option.toList, List.cons_append, List.nil_append]
  refine o_iret hC hB dX7_unite_7 (Nat.le_of_ble_eq_true rfl) (Nat.le_of_ble_eq_true rfl) ?_
  exact ⟨_, _, rfl, q1, q2, q3, q4, q5, q6⟩

set_option maxHeartbeats 4000000 in
set_option maxRecDepth 100000 in
theorem cg_X7_minus (l : Launch) (D : va_G) (ids : Nat → ClassId) (H0 : Heap) (h : rl_H) (n : Nat) (x L : Nat) (s : cl_S) (c : cl_N) (z : sh_S) (a b : Int32) (hk : cl_ok ids h n x L s c) (hR : sh_R s c z) : rl_Met l (rl_e D ids H0) rl_BW rl_Ns yX7_minus cX7_minus 3 (some .int) ({ frames := 6, cells := 403, slots := 2892, locals := 125 }) [.ref x, .int a, .int b] h n (fun v h' n' => ∃ (r : Int32) (c' : cl_N), v = some (.int r) ∧ n ≤ n' ∧ n' ≤ n + 403 ∧ cl_ok ids h' n' x L s c' ∧ sh_R s c' (sh_pair z a b).2 ∧ r = (sh_pair z a b).1 ∧ cl_fr h h' x L ∧ cl_ad ids h h' c c' (nI 5) a b (-1) (-1) (nI 0) (nI 0)) := by
  obtain ⟨hc, k2, k3, k4, k5, k6, k7⟩ := id hk
  obtain ⟨c1, c2, c3, ⟨pn, c4, c5⟩, ⟨pt, c6, c7⟩, c8, c9, c10, c11, c12, c13, c14, c15⟩ := id hc
  refine rl_Met.of (by decide +kernel) (Nat.le_of_ble_eq_true rfl) ?_
  intro X hC hB
  show rl_G X (rl_e D ids H0) 0 [some (.ref x), some (.int a), some (.int b)] [] h n 0 0
  refine o_aload_n hC dX7_minus_0 (by rfl) ?_
  refine o_iconst (v := nI 5) hC dX7_minus_1 (by decide +kernel) ?_
  refine o_iload_n hC dX7_minus_2 (by rfl) ?_
  refine o_iload_n hC dX7_minus_3 (by rfl) ?_
  refine o_callV3 hC rl_BW_good rl_Ns_nw (by exact hB.2.2.2.2.2) YX7_addAlikeNode IX7_addAlikeNode VX7_addAlikeNode (mX7_113 hC) (by rw [hB.1]; exact cg_X7_addAlikeNode l D ids H0 _ _ x L s c z 5 _ _ hk hR (by decide)) (by exact c1) rfl rfl (Nat.le_of_ble_eq_true rfl) (by rw [hB.2.1]; first | exact Nat.le_of_ble_eq_true rfl | (dsimp only; omega)) (by rw [hB.2.1]; first | exact Nat.le_of_ble_eq_true rfl | (dsimp only; omega)) (by rw [hB.2.1]; first | exact Nat.le_of_ble_eq_true rfl | (dsimp only; omega)) (by rw [hB.2.1]; first | exact Nat.le_of_ble_eq_true rfl | (dsimp only; omega)) dX7_minus_4 (fun v h_4 n_4 p_4 => ?_)
  obtain ⟨r, c', rfl, q1, q2, q3, q4, q5, q6⟩ := p_4
  try dsimp only [Option.toList, List.cons_append, List.nil_append]
  refine o_iret hC hB dX7_minus_7 (Nat.le_of_ble_eq_true rfl) (Nat.le_of_ble_eq_true rfl) ?_
  exact ⟨_, _, rfl, q1, q2, q3, q4, q5, q6⟩

set_option maxHeartbeats 4000000 in
set_option maxRecDepth 100000 in
theorem cg_X7_fold (l : Launch) (D : va_G) (ids : Nat → ClassId) (H0 : Heap) (h : rl_H) (n : Nat) (x L : Nat) (s : cl_S) (c : cl_N) (z : sh_S) (q kk j kd : Int32) (hk : cl_ok ids h n x L s c) (hR : sh_R s c z) : rl_Met l (rl_e D ids H0) rl_BW rl_Ns yX7_fold cX7_fold 5 (some .int) ({ frames := 5, cells := 403, slots := 2892, locals := 102 }) [.ref x, .int q, .int kk, .int j, .int kd] h n (fun v h' n' => ∃ (r : Int32) (c' : cl_N), v = some (.int r) ∧ n ≤ n' ∧ n' ≤ n + 403 ∧ cl_ok ids h' n' x L s c' ∧ sh_R s c' (sh_fold z q kk j kd).2 ∧ r = (sh_fold z q kk j kd).1 ∧ cl_fr h h' x L ∧ cl_ad ids h h' c c' (nI 6) q (-1) kk j kd (nI 0)) := by
  obtain ⟨hc, k2, k3, k4, k5, k6, k7⟩ := id hk
  obtain ⟨c1, c2, c3, ⟨pn, c4, c5⟩, ⟨pt, c6, c7⟩, c8, c9, c10, c11, c12, c13, c14, c15⟩ := id hc
  refine rl_Met.of (by decide +kernel) (Nat.le_of_ble_eq_true rfl) ?_
  intro X hC hB
  show rl_G X (rl_e D ids H0) 0 [some (.ref x), some (.int q), some (.int kk), some (.int j), some (.int kd)] [] h n 0 0
  refine o_aload_n hC dX7_fold_0 (by rfl) ?_
  refine o_iload_n hC dX7_fold_1 (by rfl) ?_
  refine o_iload_n hC dX7_fold_2 (by rfl) ?_
  refine o_callV2 hC rl_BW_good rl_Ns_nw (by exact hB.2.2.2.2.2) YX7_hasColumn IX7_hasColumn VX7_hasColumn (mX7_93 hC) (by rw [hB.1]; exact cg_X7_hasColumn l D ids H0 _ _ x s c _ _ hc) (by exact c1) rfl rfl (Nat.le_of_ble_eq_true rfl) (by rw [hB.2.1]; first | exact Nat.le_of_ble_eq_true rfl | (dsimp only; omega)) (by rw [hB.2.1]; first | exact Nat.le_of_ble_eq_true rfl | (dsimp only; omega)) (by rw [hB.2.1]; first | exact Nat.le_of_ble_eq_true rfl | (dsimp only; omega)) (by rw [hB.2.1]; first | exact Nat.le_of_ble_eq_true rfl | (dsimp only; omega)) dX7_fold_3 (fun v h_3 n_3 p_3 => ?_)
  obtain ⟨z3, rfl, rfl, rfl, hz3⟩ := p_3
  replace hz3 := sh_R.nkz hk hR hz3
  try dsimp only [Option.toList, List.cons_append, List.nil_append]
  refine o_if_eq (tgt := 18) hC dX7_fold_6 (by decide) (fun c_6 => ?_) (fun c_6 => ?_)
  · refine o_iconst (v := (-1 : Int32)) hC dX7_fold_18 (by decide +kernel) ?_
    refine o_iret hC hB dX7_fold_19 (Nat.le_of_ble_eq_true rfl) (Nat.le_of_ble_eq_true rfl) ?_
    first
    | (have e : sh_fold z q kk j kd = (-1, z) := if_pos (Or.inl (hz3.elim (fun a => a.2) (fun a => absurd (c_6.symm.trans a.1) (by decide +kernel)))); exact ⟨_, c, rfl, Nat.le_refl _, by omega, hk, (by rw [e]; exact hR), (by rw [e]), cl_fr.rf, Or.inl ⟨rfl, rfl⟩⟩)
    | (have e : sh_fold z q kk j kd = (-1, z) := if_pos (Or.inr (hz12.elim (fun a => a.2) (fun a => absurd (c_15.symm.trans a.1) (by decide +kernel)))); exact ⟨_, c, rfl, Nat.le_refl _, by omega, hk, (by rw [e]; exact hR), (by rw [e]), cl_fr.rf, Or.inl ⟨rfl, rfl⟩⟩)
  · refine o_aload_n hC dX7_fold_9 (by rfl) ?_
    refine o_iload_n hC dX7_fold_10 (by rfl) ?_
    refine o_iload_n hC dX7_fold_11 (by rfl) ?_
    refine o_callV2 hC rl_BW_good rl_Ns_nw (by exact hB.2.2.2.2.2) YX7_hasColumn IX7_hasColumn VX7_hasColumn (mX7_93 hC) (by rw [hB.1]; exact cg_X7_hasColumn l D ids H0 _ _ x s c _ _ hc) (by exact c1) rfl rfl (Nat.le_of_ble_eq_true rfl) (by rw [hB.2.1]; first | exact Nat.le_of_ble_eq_true rfl | (dsimp only; omega)) (by rw [hB.2.1]; first | exact Nat.le_of_ble_eq_true rfl | (dsimp only; omega)) (by rw [hB.2.1]; first | exact Nat.le_of_ble_eq_true rfl | (dsimp only; omega)) (by rw [hB.2.1]; first | exact Nat.le_of_ble_eq_true rfl | (dsimp only; omega)) dX7_fold_12 (fun v h_12 n_12 p_12 => ?_)
    obtain ⟨z12, rfl, rfl, rfl, hz12⟩ := p_12
    replace hz12 := sh_R.nkz hk hR hz12
    try dsimp only [Option.toList, List.cons_append, List.nil_append]
    refine o_if_ne (tgt := 20) hC dX7_fold_15 (by decide) (fun c_15 => ?_) (fun c_15 => ?_)
    · refine o_iload hC dX7_fold_20 (by rfl) ?_
      refine o_if_lt (tgt := 31) hC dX7_fold_22 (by decide) (fun c_22 => ?_) (fun c_22 => ?_)
      · refine o_bipush (v := (-2 : Int32)) hC dX7_fold_31 (by decide +kernel) ?_
        refine o_iret hC hB dX7_fold_33 (Nat.le_of_ble_eq_true rfl) (Nat.le_of_ble_eq_true rfl) ?_
        first
        | (have e : sh_fold z q kk j kd = (-2, z) := (if_neg (fun w => w.elim (hz3.elim (fun a => absurd a.1 c_6) (fun a => a.2)) (hz12.elim (fun a => absurd a.1 c_15) (fun a => a.2)))).trans (if_pos (Or.inl c_22)); exact ⟨_, c, rfl, Nat.le_refl _, by omega, hk, (by rw [e]; exact hR), (by rw [e]), cl_fr.rf, Or.inl ⟨rfl, rfl⟩⟩)
        | (have e : sh_fold z q kk j kd = (-2, z) := (if_neg (fun w => w.elim (hz3.elim (fun a => absurd a.1 c_6) (fun a => a.2)) (hz12.elim (fun a => absurd a.1 c_15) (fun a => a.2)))).trans (if_pos (Or.inr c_28)); exact ⟨_, c, rfl, Nat.le_refl _, by omega, hk, (by rw [e]; exact hR), (by rw [e]), cl_fr.rf, Or.inl ⟨rfl, rfl⟩⟩)
      · refine o_iload hC dX7_fold_25 (by rfl) ?_
        refine o_iconst (v := nI 3) hC dX7_fold_27 (by decide +kernel) ?_
        refine o_icmp_le (tgt := 34) hC dX7_fold_28 (by decide) (fun c_28 => ?_) (fun c_28 => ?_)
        · have nk : ¬ (sh_nk z q kk ∨ sh_nk z q j) := fun w => w.elim (hz3.elim (fun a => absurd a.1 c_6) (fun a => a.2)) (hz12.elim (fun a => absurd a.1 c_15) (fun a => a.2))
          obtain ⟨ck, hck, rfl⟩ := sh_R.co hk hR (fun w => nk (Or.inl w))
          obtain ⟨cj, hcj, rfl⟩ := sh_R.co hk hR (fun w => nk (Or.inr w))
          obtain ⟨k0, hk0, rfl⟩ := nI_of2 (M := nI 3) (nI_toInt (by decide)) c_22 c_28
          obtain ⟨i, w, hj, rfl, w1, w2, w3, w4, m1⟩ := sh_R.nd hk hR (fun w => nk (Or.inl (Or.inl w)))
          unfold cl_nd at m1
          refine o_aload_n hC dX7_fold_34 (by rfl) ?_
          refine o_getf hC (fX7_78 hC rfl) dX7_fold_35 (by repeat (first | with_reducible assumption | (rw [rl_u_s]; done) | (rw [rl_u_s]; rfl) | rw [rl_u_n (by first | with_reducible assumption | omega)])) (by first | rfl | with_reducible assumption) ?_
          refine o_bipush (v := nI 16) hC dX7_fold_38 (by decide +kernel) ?_
          refine o_icmp_lt (tgt := 46) hC dX7_fold_40 (by decide) (fun c_40 => ?_) (fun c_40 => ?_)
          · have h16 : c.2.2.1 < 16 := by
              rcases Nat.lt_or_ge c.2.2.1 16 with w | w
              · exact w
              · exact absurd c_40 (nI_nlt w (by omega))
            refine o_aload_n hC dX7_fold_46 (by rfl) ?_
            refine o_bipush (v := nI 6) hC dX7_fold_47 (by decide +kernel) ?_
            refine o_iconst (v := nI 2) hC dX7_fold_49 (by decide +kernel) ?_
            refine o_iload_n hC dX7_fold_50 (by rfl) ?_
            refine o_iconst (v := (-1 : Int32)) hC dX7_fold_51 (by decide +kernel) ?_
            refine o_callV4 hC rl_BW_good rl_Ns_nw (by exact hB.2.2.2.2.2) YX7_openNode IX7_openNode VX7_openNode (mX7_85 hC) (by rw [hB.1]; exact cg_X7_openNode l D ids H0 _ _ x L s c _ _ _ _ hk h16) (by exact c1) rfl rfl (Nat.le_of_ble_eq_true rfl) (by rw [hB.2.1]; first | exact Nat.le_of_ble_eq_true rfl | (dsimp only; omega)) (by rw [hB.2.1]; first | exact Nat.le_of_ble_eq_true rfl | (dsimp only; omega)) (by rw [hB.2.1]; first | exact Nat.le_of_ble_eq_true rfl | (dsimp only; omega)) (by rw [hB.2.1]; first | exact Nat.le_of_ble_eq_true rfl | (dsimp only; omega)) dX7_fold_52 (fun v h_52 n_52 p_52 => ?_)
            obtain ⟨na, mk, N, rfl, n1, n2, hlt, o1, o2, g0, g1, g2, g3, g8, of, o4, o5, o6, o7⟩ := p_52
            have m2 : h_52 (na c.2.2.1) = some (cl_nd N c.2.2.1) := o1.1.2.2.2.2.2.2.2.2.2.1 _ hlt
            unfold cl_nd at m2
            have zz : x + 70 ≤ na c.2.2.1 := o1.1.2.2.2.2.2.2.2.2.2.2.2.1 _ hlt
            try dsimp only [Option.toList, List.cons_append, List.nil_append]
            refine o_iload_n hC dX7_fold_55 (by rfl) ?_
            refine o_iload_n hC dX7_fold_56 (by rfl) ?_
            refine o_iload hC dX7_fold_57 (by rfl) ?_
            refine o_iconst (v := nI 0) hC dX7_fold_59 (by decide +kernel) ?_
            refine o_callV4 hC rl_BW_good rl_Ns_nw (by exact hB.2.2.2.2.2) YX1_detail IX1_detail VX1_detail (mX7_89 hC) (by rw [hB.1]; exact ct_X1_detail l D ids H0 _ _ (na c.2.2.1) _ _ _ _ _ _ _ _ _ _ _ _ _ m2) (by exact m2) rfl rfl (Nat.le_of_ble_eq_true rfl) (by rw [hB.2.1]; first | exact Nat.le_of_ble_eq_true rfl | (dsimp only; omega)) (by rw [hB.2.1]; first | exact Nat.le_of_ble_eq_true rfl | (dsimp only; omega)) (by rw [hB.2.1]; first | exact Nat.le_of_ble_eq_true rfl | (dsimp only; omega)) (by rw [hB.2.1]; first | exact Nat.le_of_ble_eq_true rfl | (dsimp only; omega)) dX7_fold_60 (fun v h_60 n_60 p_60 => ?_)
            obtain ⟨rfl, rfl, d1, d2⟩ := p_60
            have e1 := (d2 x (by omega)).trans o1.1.1
            try dsimp only [Option.toList, List.cons_append, List.nil_append]
            refine o_aload_n hC dX7_fold_63 (by rfl) ?_
            refine o_dup hC dX7_fold_64 rfl ?_
            refine o_getf hC (fX7_78 hC rfl) dX7_fold_65 (by repeat (first | with_reducible assumption | (rw [rl_u_s]; done) | (rw [rl_u_s]; rfl) | rw [rl_u_n (by first | with_reducible assumption | omega)])) (by first | rfl | with_reducible assumption) ?_
            refine o_dup_x1 hC dX7_fold_68 rfl rfl ?_
            refine o_iconst (v := nI 1) hC dX7_fold_69 (by decide +kernel) ?_
            refine o_iadd hC dX7_fold_70 ?_
            rw [nI_add c.2.2.1 1]
            refine o_putf hC (fX7_78 hC rfl) (fwX7 rfl rfl rfl (Or.inl rfl)) dX7_fold_71 (by repeat (first | with_reducible assumption | (rw [rl_u_s]; done) | (rw [rl_u_s]; rfl) | rw [rl_u_n (by first | with_reducible assumption | omega)])) (Nat.le_of_ble_eq_true rfl) ?_
            try simp only [List.set_cons_zero, List.set_cons_succ]
            refine o_iret hC hB dX7_fold_74 (Nat.le_of_ble_eq_true rfl) (Nat.le_of_ble_eq_true rfl) ?_
            (obtain ⟨r1, r2⟩ := o1.add hlt d1 d2 g8 (cl_cv.new (op := 6) (w := 2) (w1 := w) (w2 := 0) g0 g1 g2 g3 rfl rfl (by decide) ⟨by decide, by decide, fun q => absurd q (by decide), fun q => absurd q (by decide), fun q => absurd q (by decide), fun _ => ⟨⟨ck, hck, rfl⟩, ⟨cj, hcj, rfl⟩, ⟨k0, hk0, rfl⟩⟩⟩ (Or.inr ⟨i, hj, rfl⟩) (Or.inl rfl) (fun _ => ⟨i, hj, rfl, by rw [o2 i hj]; exact ⟨w3, w2⟩⟩) (fun q => absurd q (by decide))); obtain ⟨r3, r4⟩ := hR.add (na := na) (mk := mk) h16 o2 g1; have e : sh_fold z (nI i) (nI ck) (nI cj) (nI k0) = sh_node z _ := ((if_neg nk).trans (if_neg (fun w => w.elim c_22 (fun w => w c_28)))); exact ⟨_, _, rfl, n1, n2, r1, (by rw [e]; exact r3), (by rw [e]; exact r4.symm), of.tr r2, cl_ad.mk hlt o1.1 (fun q a b => (rl_u_n (by omega)).trans (d2 q a)) o2 g0 g2 g3 g8 o4 o5 o6 o7⟩)
          · refine o_bipush (v := (-4 : Int32)) hC dX7_fold_43 (by decide +kernel) ?_
            refine o_iret hC hB dX7_fold_45 (Nat.le_of_ble_eq_true rfl) (Nat.le_of_ble_eq_true rfl) ?_
            (have e : sh_fold z (nI i) (nI ck) (nI cj) (nI k0) = (-4, z) := ((if_neg nk).trans (if_neg (fun w => w.elim c_22 (fun w => w c_28)))).trans (sh_node_n (fun w => c_40 (by rw [hR.2.2.2.1]; exact nI_lt w (by decide)))); exact ⟨_, c, rfl, Nat.le_refl _, by omega, hk, (by rw [e]; exact hR), (by rw [e]), cl_fr.rf, Or.inl ⟨rfl, rfl⟩⟩)
        · refine o_bipush (v := (-2 : Int32)) hC dX7_fold_31 (by decide +kernel) ?_
          refine o_iret hC hB dX7_fold_33 (Nat.le_of_ble_eq_true rfl) (Nat.le_of_ble_eq_true rfl) ?_
          first
          | (have e : sh_fold z q kk j kd = (-2, z) := (if_neg (fun w => w.elim (hz3.elim (fun a => absurd a.1 c_6) (fun a => a.2)) (hz12.elim (fun a => absurd a.1 c_15) (fun a => a.2)))).trans (if_pos (Or.inl c_22)); exact ⟨_, c, rfl, Nat.le_refl _, by omega, hk, (by rw [e]; exact hR), (by rw [e]), cl_fr.rf, Or.inl ⟨rfl, rfl⟩⟩)
          | (have e : sh_fold z q kk j kd = (-2, z) := (if_neg (fun w => w.elim (hz3.elim (fun a => absurd a.1 c_6) (fun a => a.2)) (hz12.elim (fun a => absurd a.1 c_15) (fun a => a.2)))).trans (if_pos (Or.inr c_28)); exact ⟨_, c, rfl, Nat.le_refl _, by omega, hk, (by rw [e]; exact hR), (by rw [e]), cl_fr.rf, Or.inl ⟨rfl, rfl⟩⟩)
    · refine o_iconst (v := (-1 : Int32)) hC dX7_fold_18 (by decide +kernel) ?_
      refine o_iret hC hB dX7_fold_19 (Nat.le_of_ble_eq_true rfl) (Nat.le_of_ble_eq_true rfl) ?_
      first
      | (have e : sh_fold z q kk j kd = (-1, z) := if_pos (Or.inl (hz3.elim (fun a => a.2) (fun a => absurd (c_6.symm.trans a.1) (by decide +kernel)))); exact ⟨_, c, rfl, Nat.le_refl _, by omega, hk, (by rw [e]; exact hR), (by rw [e]), cl_fr.rf, Or.inl ⟨rfl, rfl⟩⟩)
      | (have e : sh_fold z q kk j kd = (-1, z) := if_pos (Or.inr (hz12.elim (fun a => a.2) (fun a => absurd (c_15.symm.trans a.1) (by decide +kernel)))); exact ⟨_, c, rfl, Nat.le_refl _, by omega, hk, (by rw [e]; exact hR), (by rw [e]), cl_fr.rf, Or.inl ⟨rfl, rfl⟩⟩)
