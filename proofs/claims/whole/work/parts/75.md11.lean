/-! THE MODEL: count, matters, blame, told -/

set_option maxHeartbeats 4000000 in
set_option maxRecDepth 100000 in
theorem cm_X8_count (l : Launch) (D : va_G) (ids : Nat → ClassId) (H0 : Heap) (h : rl_H) (n : Nat) (m : Nat) (T : md_T) (fu : Int32) (k : Nat) (S : md_A) (z : sh_S) (q : Int32) (hu : md_un ids h m T fu k S z) : rl_Met l (rl_e D ids H0) rl_BW rl_Ns yX8_count cX8_count 4 (some .int) ({ frames := 2, cells := 0, slots := 0, locals := 48 }) [.ref m, .int q] h n (fun v h' n' => ∃ r : Int32, v = some (.int r) ∧ n' = n ∧ mdx ids h' m T z (fun S' => S' = S) (∀ q : Nat, m + 12 ≤ q → q < m + 22 → h' q = h q) ∧ rl_fr h h' m (m + 23)) := by
  obtain ⟨hq, hs, ⟨hsc, hsc4⟩, hwf, ⟨hrr, hr36⟩, ⟨hnc, hn16⟩, hnw, hpr, hnv, hwv, wrc, hrc6, hrc⟩ := id hu
  have hq0 := hq.ob (nI 0, T.2) fu k hq.2.1
  have g0 := hq.1
  obtain ⟨-, gk, ⟨⟨cl, g12⟩, ⟨tu, g13, b13⟩, ⟨im, g14⟩, ⟨te, g15, b15⟩, ⟨ne, g16⟩, ⟨la, g17⟩, ⟨hn, g18⟩, ⟨hl, g19⟩, ⟨tp, g20⟩, ⟨gr, g21, b21⟩, ⟨it, g22⟩⟩, gf⟩ := id hq
  refine rl_Met.of (by decide +kernel) (Nat.le_of_ble_eq_true rfl) ?_
  intro X hC hB
  show rl_G X (rl_e D ids H0) 0 [some (.ref m), some (.int q), none, none] [] h n 0 0
  refine o_aload_n hC dX8_count_0 (by rfl) ?_
  refine o_iconst (v := nI 0) hC dX8_count_1 (by decide +kernel) ?_
  refine o_putf hC (fX8_78 hC rfl) (fwX8 rfl rfl rfl (Or.inl rfl)) dX8_count_2 (by repeat (first | with_reducible assumption | (rw [rl_u_s]; done) | (rw [rl_u_s]; rfl) | rw [rl_u_n (by first | with_reducible assumption | omega)])) (Nat.le_of_ble_eq_true rfl) ?_
  try simp only [List.set_cons_zero, List.set_cons_succ]
  refine o_aload_n hC dX8_count_5 (by rfl) ?_
  refine o_iload_n hC dX8_count_6 (by rfl) ?_
  refine o_callV1 hC rl_BW_good rl_Ns_nw (by exact hB.2.2.2.2.2) YX8_isTuple IX8_isTuple VX8_isTuple (mX8_199 hC) (by rw [hB.1]; exact ct_X8_isTuple l D ids H0 _ _ m (m + 13) _ _ tu (by repeat (first | with_reducible assumption | (rw [rl_u_s]; done) | (rw [rl_u_s]; rfl) | rw [rl_u_n (by first | with_reducible assumption | omega)])) rfl (by repeat (first | with_reducible assumption | (rw [rl_u_s]; done) | (rw [rl_u_s]; rfl) | rw [rl_u_n (by first | with_reducible assumption | omega)]))) (by repeat (first | with_reducible assumption | (rw [rl_u_s]; done) | (rw [rl_u_s]; rfl) | rw [rl_u_n (by first | with_reducible assumption | omega)])) rfl rfl (Nat.le_of_ble_eq_true rfl) (by rw [hB.2.1]; first | exact Nat.le_of_ble_eq_true rfl | (dsimp only; omega)) (by rw [hB.2.1]; first | exact Nat.le_of_ble_eq_true rfl | (dsimp only; omega)) (by rw [hB.2.1]; first | exact Nat.le_of_ble_eq_true rfl | (dsimp only; omega)) (by rw [hB.2.1]; first | exact Nat.le_of_ble_eq_true rfl | (dsimp only; omega)) dX8_count_7 (fun v h_7 n_7 p_7 => ?_)
  obtain ⟨rfl, rfl, rfl⟩ := p_7
  try dsimp only [Option.toList, List.cons_append, List.nil_append]
  obtain ⟨t16, ht16, et16⟩ := b13 16 (by decide)
  by_cases hr : q < 0 ∨ tu 16 ≤ q
  · rw [if_pos hr]
    refine o_if_ne (tgt := 15) hC dX8_count_10 (by decide) (fun c_10 => ?_) (fun c_10 => ?_)
    · exact absurd rfl c_10
    · refine o_iconst (v := (-1 : Int32)) hC dX8_count_13 (by decide +kernel) ?_
      refine o_iret hC hB dX8_count_14 (Nat.le_of_ble_eq_true rfl) (Nat.le_of_ble_eq_true rfl) ?_
      exact ⟨_, rfl, rfl, ⟨_, _, _, S, hu.dp (hq0) rfl rfl rfl rfl ⟨wrc, hrc6, hrc⟩, rfl, rfl, fun q a b => by first | exact rl_u_n (by omega) | exact (rl_u_n (by omega)).trans (rl_u_n (by omega)) | exact (dst q a b).trans (rl_u_n (by omega))⟩, (hq0).fr⟩
  · rw [if_neg hr]
    obtain ⟨t, ht0, rfl⟩ := nI_of_lt (k := t16) (by omega) (fun e => hr (Or.inl e)) (fun e => hr (Or.inr (by rw [et16]; exact e)))
    have ht : t < 80 := by omega
    obtain ⟨g00, gk0, -, gf0⟩ := id hq0
    refine o_if_ne (tgt := 15) hC dX8_count_10 (by decide) (fun c_10 => ?_) (fun c_10 => ?_)
    · refine o_aload_n hC dX8_count_15 (by rfl) ?_
      refine o_iload_n hC dX8_count_16 (by rfl) ?_
      refine o_callV1 hC rl_BW_good rl_Ns_nw (by exact hB.2.2.2.2.2) YX8_stand IX8_stand VX8_stand (mX8_213 hC) (by rw [hB.1]; exact cm_X8_stand l D ids H0 _ _ m _ _ _ t z.2.2.1 hq0.rf ht hrr hr36) (by exact hq0.1) rfl rfl (Nat.le_of_ble_eq_true rfl) (by rw [hB.2.1]; first | exact Nat.le_of_ble_eq_true rfl | (dsimp only; omega)) (by rw [hB.2.1]; first | exact Nat.le_of_ble_eq_true rfl | (dsimp only; omega)) (by rw [hB.2.1]; first | exact Nat.le_of_ble_eq_true rfl | (dsimp only; omega)) (by rw [hB.2.1]; first | exact Nat.le_of_ble_eq_true rfl | (dsimp only; omega)) dX8_count_17 (fun v h_17 n_17 p_17 => ?_)
      obtain ⟨r17, im2, rfl, rfl, im36, hst, q17, dst⟩ := p_17
      have hq2 := hq0.tr q17
      obtain ⟨g02, gk2, -, gf2⟩ := id hq2
      try dsimp only [Option.toList, List.cons_append, List.nil_append]
      refine o_if_ne (tgt := 26) hC dX8_count_20 (by decide) (fun c_20 => ?_) (fun c_20 => ?_)
      · have im16 : im2 ≤ 16 := hst.elim (fun e => absurd e c_20) (fun e => e.2)
        refine o_iconst (v := nI 0) hC dX8_count_26 (by decide +kernel) ?_
        refine o_istore_n hC dX8_count_27 (Nat.le_of_ble_eq_true rfl) ?_
        refine o_iconst (v := nI 0) hC dX8_count_28 (by decide +kernel) ?_
        refine o_istore_n hC dX8_count_29 (Nat.le_of_ble_eq_true rfl) ?_
        have loop : ∀ (mm sn : Nat) (c : Int32), sn + mm = 65536 → rl_G X (rl_e D ids H0) 30 [some (.ref m), some (.int (nI t)), some (.int c), some (.int (nI sn))] [] h_17 n_17 0 0 := by
          intro mm
          induction mm with
          | zero =>
            intro sn c hm
            have e0 : sn = 65536 := by omega
            subst e0
            refine o_iload_n hC dX8_count_30 (by rfl) ?_
            refine o_iconst (v := nI 1) hC dX8_count_31 (by decide +kernel) ?_
            refine o_aload_n hC dX8_count_32 (by rfl) ?_
            refine o_getf hC (fX8_210 hC rfl) dX8_count_33 (by repeat (first | with_reducible assumption | (rw [rl_u_s]; done) | (rw [rl_u_s]; rfl) | rw [rl_u_n (by first | with_reducible assumption | omega)])) (by first | rfl | with_reducible assumption) ?_
            refine o_ishl hC dX8_count_36 ?_
            refine o_icmp_ge (tgt := 67) hC dX8_count_37 (by decide) (fun c_37 => ?_) (fun c_37 => ?_)
            · refine o_iload_n hC dX8_count_67 (by rfl) ?_
              refine o_iret hC hB dX8_count_68 (Nat.le_of_ble_eq_true rfl) (Nat.le_of_ble_eq_true rfl) ?_
              exact ⟨_, rfl, rfl, ⟨_, _, _, S, hu.dp (hq2) rfl rfl rfl rfl ⟨wrc, hrc6, hrc⟩, rfl, rfl, fun q a b => by first | exact rl_u_n (by omega) | exact (rl_u_n (by omega)).trans (rl_u_n (by omega)) | exact (dst q a b).trans (rl_u_n (by omega))⟩, (hq2).fr⟩
            · exact absurd (md_shl16 im2 im16) c_37
          | succ mm ih =>
            intro sn c hm
            refine o_iload_n hC dX8_count_30 (by rfl) ?_
            refine o_iconst (v := nI 1) hC dX8_count_31 (by decide +kernel) ?_
            refine o_aload_n hC dX8_count_32 (by rfl) ?_
            refine o_getf hC (fX8_210 hC rfl) dX8_count_33 (by repeat (first | with_reducible assumption | (rw [rl_u_s]; done) | (rw [rl_u_s]; rfl) | rw [rl_u_n (by first | with_reducible assumption | omega)])) (by first | rfl | with_reducible assumption) ?_
            refine o_ishl hC dX8_count_36 ?_
            refine o_icmp_ge (tgt := 67) hC dX8_count_37 (by decide) (fun c_37 => ?_) (fun c_37 => ?_)
            · refine o_iload_n hC dX8_count_67 (by rfl) ?_
              refine o_iret hC hB dX8_count_68 (Nat.le_of_ble_eq_true rfl) (Nat.le_of_ble_eq_true rfl) ?_
              exact ⟨_, rfl, rfl, ⟨_, _, _, S, hu.dp (hq2) rfl rfl rfl rfl ⟨wrc, hrc6, hrc⟩, rfl, rfl, fun q a b => by first | exact rl_u_n (by omega) | exact (rl_u_n (by omega)).trans (rl_u_n (by omega)) | exact (dst q a b).trans (rl_u_n (by omega))⟩, (hq2).fr⟩
            · refine o_iload_n hC dX8_count_40 (by rfl) ?_
              refine o_aload_n hC dX8_count_41 (by rfl) ?_
              refine o_iload_n hC dX8_count_42 (by rfl) ?_
              refine o_aload_n hC dX8_count_43 (by rfl) ?_
              refine o_iload_n hC dX8_count_44 (by rfl) ?_
              refine o_callV1 hC rl_BW_good rl_Ns_nw (by exact hB.2.2.2.2.2) YX8_rowsOf IX8_rowsOf VX8_rowsOf (mX8_216 hC) (by rw [hB.1]; exact cm_X8_rowsOf l D ids H0 _ _ m _ _ _ im2 _ hq2.rf rfl im36) (by exact hq2.1) rfl rfl (Nat.le_of_ble_eq_true rfl) (by rw [hB.2.1]; first | exact Nat.le_of_ble_eq_true rfl | (dsimp only; omega)) (by rw [hB.2.1]; first | exact Nat.le_of_ble_eq_true rfl | (dsimp only; omega)) (by rw [hB.2.1]; first | exact Nat.le_of_ble_eq_true rfl | (dsimp only; omega)) (by rw [hB.2.1]; first | exact Nat.le_of_ble_eq_true rfl | (dsimp only; omega)) dX8_count_45 (fun v h_45 n_45 p_45 => ?_)
              obtain ⟨r45, rfl, rfl, rfl⟩ := p_45
              try dsimp only [Option.toList, List.cons_append, List.nil_append]
              refine o_callV2 hC rl_BW_good rl_Ns_nw (by exact hB.2.2.2.2.2) YX8_isSo IX8_isSo VX8_isSo (mX8_206 hC) (by rw [hB.1]; exact cm_X8_isSo l D ids H0 _ _ m _ _ _ t _ hq2.rf ht) (by exact hq2.1) rfl rfl (Nat.le_of_ble_eq_true rfl) (by rw [hB.2.1]; first | exact Nat.le_of_ble_eq_true rfl | (dsimp only; omega)) (by rw [hB.2.1]; first | exact Nat.le_of_ble_eq_true rfl | (dsimp only; omega)) (by rw [hB.2.1]; first | exact Nat.le_of_ble_eq_true rfl | (dsimp only; omega)) (by rw [hB.2.1]; first | exact Nat.le_of_ble_eq_true rfl | (dsimp only; omega)) dX8_count_48 (fun v h_48 n_48 p_48 => ?_)
              obtain ⟨r48, rfl, rfl, rfl⟩ := p_48
              try dsimp only [Option.toList, List.cons_append, List.nil_append]
              refine o_if_eq (tgt := 58) hC dX8_count_51 (by decide) (fun c_51 => ?_) (fun c_51 => ?_)
              · refine o_iconst (v := nI 0) hC dX8_count_58 (by decide +kernel) ?_
                refine o_iadd hC dX8_count_59 ?_
                refine o_istore_n hC dX8_count_60 (Nat.le_of_ble_eq_true rfl) ?_
                refine o_iinc hC dX8_count_61 (by rfl) (rl_inc _) (Nat.le_of_ble_eq_true rfl) ?_
                refine o_goto (tgt := 30) hC dX8_count_64 (by decide) ?_
                exact ih (sn + 1) _ (by omega)
              · refine o_iconst (v := nI 1) hC dX8_count_54 (by decide +kernel) ?_
                refine o_goto (tgt := 59) hC dX8_count_55 (by decide) ?_
                refine o_iadd hC dX8_count_59 ?_
                refine o_istore_n hC dX8_count_60 (Nat.le_of_ble_eq_true rfl) ?_
                refine o_iinc hC dX8_count_61 (by rfl) (rl_inc _) (Nat.le_of_ble_eq_true rfl) ?_
                refine o_goto (tgt := 30) hC dX8_count_64 (by decide) ?_
                exact ih (sn + 1) _ (by omega)
        exact loop 65536 0 _ (by omega)
      · refine o_bipush (v := (-4 : Int32)) hC dX8_count_23 (by decide +kernel) ?_
        refine o_iret hC hB dX8_count_25 (Nat.le_of_ble_eq_true rfl) (Nat.le_of_ble_eq_true rfl) ?_
        first
        | exact ⟨_, rfl, rfl, ⟨_, _, _, S, hu.dp (hq2) rfl rfl rfl rfl ⟨wrc, hrc6, hrc⟩, rfl, rfl, fun q a b => by first | exact rl_u_n (by omega) | exact (rl_u_n (by omega)).trans (rl_u_n (by omega)) | exact (dst q a b).trans (rl_u_n (by omega))⟩, (hq2).fr⟩
        | exact ⟨_, rfl, rfl, ⟨_, _, _, S, hu.dp (hq0) rfl rfl rfl rfl ⟨wrc, hrc6, hrc⟩, rfl, rfl, fun q a b => by first | exact rl_u_n (by omega) | exact (rl_u_n (by omega)).trans (rl_u_n (by omega)) | exact (dst q a b).trans (rl_u_n (by omega))⟩, (hq0).fr⟩
    · exact absurd c_10 (by decide +kernel)

set_option maxHeartbeats 4000000 in
set_option maxRecDepth 100000 in
theorem cm_X8_matters (l : Launch) (D : va_G) (ids : Nat → ClassId) (H0 : Heap) (h : rl_H) (n : Nat) (m : Nat) (T : md_T) (fu : Int32) (k : Nat) (S : md_A) (z : sh_S) (q r : Int32) (hu : md_un ids h m T fu k S z) : rl_Met l (rl_e D ids H0) rl_BW rl_Ns yX8_matters cX8_matters 6 (some .int) ({ frames := 2, cells := 0, slots := 0, locals := 48 }) [.ref m, .int q, .int r] h n (fun v h' n' => ∃ r : Int32, v = some (.int r) ∧ n' = n ∧ mdx ids h' m T z (fun S' => S' = S) (∀ q : Nat, m + 12 ≤ q → q < m + 22 → h' q = h q) ∧ rl_fr h h' m (m + 23)) := by
  obtain ⟨hq, hs, ⟨hsc, hsc4⟩, hwf, ⟨hrr, hr36⟩, ⟨hnc, hn16⟩, hnw, hpr, hnv, hwv, wrc, hrc6, hrc⟩ := id hu
  have hq0 := hq.ob (nI 0, T.2) fu k hq.2.1
  have g0 := hq.1
  obtain ⟨-, gk, ⟨⟨cl, g12⟩, ⟨tu, g13, b13⟩, ⟨im, g14⟩, ⟨te, g15, b15⟩, ⟨ne, g16⟩, ⟨la, g17⟩, ⟨hn, g18⟩, ⟨hl, g19⟩, ⟨tp, g20⟩, ⟨gr, g21, b21⟩, ⟨it, g22⟩⟩, gf⟩ := id hq
  refine rl_Met.of (by decide +kernel) (Nat.le_of_ble_eq_true rfl) ?_
  intro X hC hB
  show rl_G X (rl_e D ids H0) 0 [some (.ref m), some (.int q), some (.int r), none, none, none] [] h n 0 0
  refine o_aload_n hC dX8_matters_0 (by rfl) ?_
  refine o_iconst (v := nI 0) hC dX8_matters_1 (by decide +kernel) ?_
  refine o_putf hC (fX8_78 hC rfl) (fwX8 rfl rfl rfl (Or.inl rfl)) dX8_matters_2 (by repeat (first | with_reducible assumption | (rw [rl_u_s]; done) | (rw [rl_u_s]; rfl) | rw [rl_u_n (by first | with_reducible assumption | omega)])) (Nat.le_of_ble_eq_true rfl) ?_
  try simp only [List.set_cons_zero, List.set_cons_succ]
  refine o_aload_n hC dX8_matters_5 (by rfl) ?_
  refine o_iload_n hC dX8_matters_6 (by rfl) ?_
  refine o_callV1 hC rl_BW_good rl_Ns_nw (by exact hB.2.2.2.2.2) YX8_isTuple IX8_isTuple VX8_isTuple (mX8_199 hC) (by rw [hB.1]; exact ct_X8_isTuple l D ids H0 _ _ m (m + 13) _ _ tu (by repeat (first | with_reducible assumption | (rw [rl_u_s]; done) | (rw [rl_u_s]; rfl) | rw [rl_u_n (by first | with_reducible assumption | omega)])) rfl (by repeat (first | with_reducible assumption | (rw [rl_u_s]; done) | (rw [rl_u_s]; rfl) | rw [rl_u_n (by first | with_reducible assumption | omega)]))) (by repeat (first | with_reducible assumption | (rw [rl_u_s]; done) | (rw [rl_u_s]; rfl) | rw [rl_u_n (by first | with_reducible assumption | omega)])) rfl rfl (Nat.le_of_ble_eq_true rfl) (by rw [hB.2.1]; first | exact Nat.le_of_ble_eq_true rfl | (dsimp only; omega)) (by rw [hB.2.1]; first | exact Nat.le_of_ble_eq_true rfl | (dsimp only; omega)) (by rw [hB.2.1]; first | exact Nat.le_of_ble_eq_true rfl | (dsimp only; omega)) (by rw [hB.2.1]; first | exact Nat.le_of_ble_eq_true rfl | (dsimp only; omega)) dX8_matters_7 (fun v h_7 n_7 p_7 => ?_)
  obtain ⟨rfl, rfl, rfl⟩ := p_7
  try dsimp only [Option.toList, List.cons_append, List.nil_append]
  obtain ⟨t16, ht16, et16⟩ := b13 16 (by decide)
  by_cases hr : q < 0 ∨ tu 16 ≤ q
  · rw [if_pos hr]
    refine o_if_eq (tgt := 25) hC dX8_matters_10 (by decide) (fun c_10 => ?_) (fun c_10 => ?_)
    · refine o_iconst (v := (-1 : Int32)) hC dX8_matters_25 (by decide +kernel) ?_
      refine o_iret hC hB dX8_matters_26 (Nat.le_of_ble_eq_true rfl) (Nat.le_of_ble_eq_true rfl) ?_
      exact ⟨_, rfl, rfl, ⟨_, _, _, S, hu.dp (hq0) rfl rfl rfl rfl ⟨wrc, hrc6, hrc⟩, rfl, rfl, fun q a b => by first | exact rl_u_n (by omega) | exact (rl_u_n (by omega)).trans (rl_u_n (by omega)) | exact (dst q a b).trans (rl_u_n (by omega))⟩, (hq0).fr⟩
    · exact absurd rfl c_10
  · rw [if_neg hr]
    obtain ⟨t, ht0, rfl⟩ := nI_of_lt (k := t16) (by omega) (fun e => hr (Or.inl e)) (fun e => hr (Or.inr (by rw [et16]; exact e)))
    have ht : t < 80 := by omega
    obtain ⟨g00, gk0, -, gf0⟩ := id hq0
    refine o_if_eq (tgt := 25) hC dX8_matters_10 (by decide) (fun c_10 => ?_) (fun c_10 => ?_)
    · refine o_iconst (v := (-1 : Int32)) hC dX8_matters_25 (by decide +kernel) ?_
      refine o_iret hC hB dX8_matters_26 (Nat.le_of_ble_eq_true rfl) (Nat.le_of_ble_eq_true rfl) ?_
      first
      | exact ⟨_, rfl, rfl, ⟨_, _, _, S, hu.dp (hq2) rfl rfl rfl rfl ⟨wrc, hrc6, hrc⟩, rfl, rfl, fun q a b => by first | exact rl_u_n (by omega) | exact (rl_u_n (by omega)).trans (rl_u_n (by omega)) | exact (dst q a b).trans (rl_u_n (by omega))⟩, (hq2).fr⟩
      | exact ⟨_, rfl, rfl, ⟨_, _, _, S, hu.dp (hq0) rfl rfl rfl rfl ⟨wrc, hrc6, hrc⟩, rfl, rfl, fun q a b => by first | exact rl_u_n (by omega) | exact (rl_u_n (by omega)).trans (rl_u_n (by omega)) | exact (dst q a b).trans (rl_u_n (by omega))⟩, (hq0).fr⟩
    · refine o_iload_n hC dX8_matters_13 (by rfl) ?_
      refine o_if_lt (tgt := 25) hC dX8_matters_14 (by decide) (fun c_14 => ?_) (fun c_14 => ?_)
      · refine o_iconst (v := (-1 : Int32)) hC dX8_matters_25 (by decide +kernel) ?_
        refine o_iret hC hB dX8_matters_26 (Nat.le_of_ble_eq_true rfl) (Nat.le_of_ble_eq_true rfl) ?_
        first
        | exact ⟨_, rfl, rfl, ⟨_, _, _, S, hu.dp (hq2) rfl rfl rfl rfl ⟨wrc, hrc6, hrc⟩, rfl, rfl, fun q a b => by first | exact rl_u_n (by omega) | exact (rl_u_n (by omega)).trans (rl_u_n (by omega)) | exact (dst q a b).trans (rl_u_n (by omega))⟩, (hq2).fr⟩
        | exact ⟨_, rfl, rfl, ⟨_, _, _, S, hu.dp (hq0) rfl rfl rfl rfl ⟨wrc, hrc6, hrc⟩, rfl, rfl, fun q a b => by first | exact rl_u_n (by omega) | exact (rl_u_n (by omega)).trans (rl_u_n (by omega)) | exact (dst q a b).trans (rl_u_n (by omega))⟩, (hq0).fr⟩
      · refine o_iload_n hC dX8_matters_17 (by rfl) ?_
        refine o_aload_n hC dX8_matters_18 (by rfl) ?_
        refine o_getf hC (fX8_112 hC rfl) dX8_matters_19 (by repeat (first | with_reducible assumption | (rw [rl_u_s]; done) | (rw [rl_u_s]; rfl) | rw [rl_u_n (by first | with_reducible assumption | omega)])) (by first | rfl | with_reducible assumption) ?_
        refine o_icmp_lt (tgt := 27) hC dX8_matters_22 (by decide) (fun c_22 => ?_) (fun c_22 => ?_)
        · refine o_aload_n hC dX8_matters_27 (by rfl) ?_
          refine o_iload_n hC dX8_matters_28 (by rfl) ?_
          refine o_callV1 hC rl_BW_good rl_Ns_nw (by exact hB.2.2.2.2.2) YX8_stand IX8_stand VX8_stand (mX8_213 hC) (by rw [hB.1]; exact cm_X8_stand l D ids H0 _ _ m _ _ _ t z.2.2.1 hq0.rf ht hrr hr36) (by exact hq0.1) rfl rfl (Nat.le_of_ble_eq_true rfl) (by rw [hB.2.1]; first | exact Nat.le_of_ble_eq_true rfl | (dsimp only; omega)) (by rw [hB.2.1]; first | exact Nat.le_of_ble_eq_true rfl | (dsimp only; omega)) (by rw [hB.2.1]; first | exact Nat.le_of_ble_eq_true rfl | (dsimp only; omega)) (by rw [hB.2.1]; first | exact Nat.le_of_ble_eq_true rfl | (dsimp only; omega)) dX8_matters_29 (fun v h_29 n_29 p_29 => ?_)
          obtain ⟨r29, im2, rfl, rfl, im36, hst, q29, dst⟩ := p_29
          have hq2 := hq0.tr q29
          obtain ⟨g02, gk2, -, gf2⟩ := id hq2
          try dsimp only [Option.toList, List.cons_append, List.nil_append]
          refine o_if_ne (tgt := 38) hC dX8_matters_32 (by decide) (fun c_32 => ?_) (fun c_32 => ?_)
          · have im16 : im2 ≤ 16 := hst.elim (fun e => absurd e c_32) (fun e => e.2)
            refine o_iconst (v := nI 0) hC dX8_matters_38 (by decide +kernel) ?_
            refine o_istore_n hC dX8_matters_39 (Nat.le_of_ble_eq_true rfl) ?_
            have loop : ∀ (mm sn : Nat) (o4 : Option Value), sn + mm = 65536 → rl_G X (rl_e D ids H0) 40 [some (.ref m), some (.int (nI t)), some (.int r), some (.int (nI sn)), o4, none] [] h_29 n_29 0 0 := by
              intro mm
              induction mm with
              | zero =>
                intro sn o4 hm
                have e0 : sn = 65536 := by omega
                subst e0
                refine o_iload_n hC dX8_matters_40 (by rfl) ?_
                refine o_iconst (v := nI 1) hC dX8_matters_41 (by decide +kernel) ?_
                refine o_aload_n hC dX8_matters_42 (by rfl) ?_
                refine o_getf hC (fX8_210 hC rfl) dX8_matters_43 (by repeat (first | with_reducible assumption | (rw [rl_u_s]; done) | (rw [rl_u_s]; rfl) | rw [rl_u_n (by first | with_reducible assumption | omega)])) (by first | rfl | with_reducible assumption) ?_
                refine o_ishl hC dX8_matters_46 ?_
                refine o_icmp_ge (tgt := 94) hC dX8_matters_47 (by decide) (fun c_47 => ?_) (fun c_47 => ?_)
                · refine o_iconst (v := nI 0) hC dX8_matters_94 (by decide +kernel) ?_
                  refine o_iret hC hB dX8_matters_95 (Nat.le_of_ble_eq_true rfl) (Nat.le_of_ble_eq_true rfl) ?_
                  exact ⟨_, rfl, rfl, ⟨_, _, _, S, hu.dp (hq2) rfl rfl rfl rfl ⟨wrc, hrc6, hrc⟩, rfl, rfl, fun q a b => by first | exact rl_u_n (by omega) | exact (rl_u_n (by omega)).trans (rl_u_n (by omega)) | exact (dst q a b).trans (rl_u_n (by omega))⟩, (hq2).fr⟩
                · exact absurd (md_shl16 im2 im16) c_47
              | succ mm ih =>
                intro sn o4 hm
                refine o_iload_n hC dX8_matters_40 (by rfl) ?_
                refine o_iconst (v := nI 1) hC dX8_matters_41 (by decide +kernel) ?_
                refine o_aload_n hC dX8_matters_42 (by rfl) ?_
                refine o_getf hC (fX8_210 hC rfl) dX8_matters_43 (by repeat (first | with_reducible assumption | (rw [rl_u_s]; done) | (rw [rl_u_s]; rfl) | rw [rl_u_n (by first | with_reducible assumption | omega)])) (by first | rfl | with_reducible assumption) ?_
                refine o_ishl hC dX8_matters_46 ?_
                refine o_icmp_ge (tgt := 94) hC dX8_matters_47 (by decide) (fun c_47 => ?_) (fun c_47 => ?_)
                · refine o_iconst (v := nI 0) hC dX8_matters_94 (by decide +kernel) ?_
                  refine o_iret hC hB dX8_matters_95 (Nat.le_of_ble_eq_true rfl) (Nat.le_of_ble_eq_true rfl) ?_
                  exact ⟨_, rfl, rfl, ⟨_, _, _, S, hu.dp (hq2) rfl rfl rfl rfl ⟨wrc, hrc6, hrc⟩, rfl, rfl, fun q a b => by first | exact rl_u_n (by omega) | exact (rl_u_n (by omega)).trans (rl_u_n (by omega)) | exact (dst q a b).trans (rl_u_n (by omega))⟩, (hq2).fr⟩
                · refine o_aload_n hC dX8_matters_50 (by rfl) ?_
                  refine o_iload_n hC dX8_matters_51 (by rfl) ?_
                  refine o_callV1 hC rl_BW_good rl_Ns_nw (by exact hB.2.2.2.2.2) YX8_rowsOf IX8_rowsOf VX8_rowsOf (mX8_216 hC) (by rw [hB.1]; exact cm_X8_rowsOf l D ids H0 _ _ m _ _ _ im2 _ hq2.rf rfl im36) (by exact hq2.1) rfl rfl (Nat.le_of_ble_eq_true rfl) (by rw [hB.2.1]; first | exact Nat.le_of_ble_eq_true rfl | (dsimp only; omega)) (by rw [hB.2.1]; first | exact Nat.le_of_ble_eq_true rfl | (dsimp only; omega)) (by rw [hB.2.1]; first | exact Nat.le_of_ble_eq_true rfl | (dsimp only; omega)) (by rw [hB.2.1]; first | exact Nat.le_of_ble_eq_true rfl | (dsimp only; omega)) dX8_matters_52 (fun v h_52 n_52 p_52 => ?_)
                  obtain ⟨r52, rfl, rfl, rfl⟩ := p_52
                  try dsimp only [Option.toList, List.cons_append, List.nil_append]
                  refine o_lstore hC dX8_matters_55 (Nat.le_of_ble_eq_true rfl) ?_
                  refine o_aload_n hC dX8_matters_57 (by rfl) ?_
                  refine o_iload_n hC dX8_matters_58 (by rfl) ?_
                  refine o_lload hC dX8_matters_59 (by rfl) ?_
                  refine o_lconst (v := 1) hC dX8_matters_61 (by decide +kernel) ?_
                  refine o_iload_n hC dX8_matters_62 (by rfl) ?_
                  refine o_lshl hC dX8_matters_63 ?_
                  refine o_ldc2 hC nX8_85 dX8_matters_64 ?_
                  refine o_lxor hC dX8_matters_67 ?_
                  refine o_land hC dX8_matters_68 ?_
                  refine o_callV2 hC rl_BW_good rl_Ns_nw (by exact hB.2.2.2.2.2) YX8_isSo IX8_isSo VX8_isSo (mX8_206 hC) (by rw [hB.1]; exact cm_X8_isSo l D ids H0 _ _ m _ _ _ t _ hq2.rf ht) (by exact hq2.1) rfl rfl (Nat.le_of_ble_eq_true rfl) (by rw [hB.2.1]; first | exact Nat.le_of_ble_eq_true rfl | (dsimp only; omega)) (by rw [hB.2.1]; first | exact Nat.le_of_ble_eq_true rfl | (dsimp only; omega)) (by rw [hB.2.1]; first | exact Nat.le_of_ble_eq_true rfl | (dsimp only; omega)) (by rw [hB.2.1]; first | exact Nat.le_of_ble_eq_true rfl | (dsimp only; omega)) dX8_matters_69 (fun v h_69 n_69 p_69 => ?_)
                  obtain ⟨r69, rfl, rfl, rfl⟩ := p_69
                  try dsimp only [Option.toList, List.cons_append, List.nil_append]
                  refine o_aload_n hC dX8_matters_72 (by rfl) ?_
                  refine o_iload_n hC dX8_matters_73 (by rfl) ?_
                  refine o_lload hC dX8_matters_74 (by rfl) ?_
                  refine o_lconst (v := 1) hC dX8_matters_76 (by decide +kernel) ?_
                  refine o_iload_n hC dX8_matters_77 (by rfl) ?_
                  refine o_lshl hC dX8_matters_78 ?_
                  refine o_lor hC dX8_matters_79 ?_
                  refine o_callV2 hC rl_BW_good rl_Ns_nw (by exact hB.2.2.2.2.2) YX8_isSo IX8_isSo VX8_isSo (mX8_206 hC) (by rw [hB.1]; exact cm_X8_isSo l D ids H0 _ _ m _ _ _ t _ hq2.rf ht) (by exact hq2.1) rfl rfl (Nat.le_of_ble_eq_true rfl) (by rw [hB.2.1]; first | exact Nat.le_of_ble_eq_true rfl | (dsimp only; omega)) (by rw [hB.2.1]; first | exact Nat.le_of_ble_eq_true rfl | (dsimp only; omega)) (by rw [hB.2.1]; first | exact Nat.le_of_ble_eq_true rfl | (dsimp only; omega)) (by rw [hB.2.1]; first | exact Nat.le_of_ble_eq_true rfl | (dsimp only; omega)) dX8_matters_80 (fun v h_80 n_80 p_80 => ?_)
                  obtain ⟨r80, rfl, rfl, rfl⟩ := p_80
                  try dsimp only [Option.toList, List.cons_append, List.nil_append]
                  refine o_icmp_eq (tgt := 88) hC dX8_matters_83 (by decide) (fun c_83 => ?_) (fun c_83 => ?_)
                  · refine o_iinc hC dX8_matters_88 (by rfl) (rl_inc _) (Nat.le_of_ble_eq_true rfl) ?_
                    refine o_goto (tgt := 40) hC dX8_matters_91 (by decide) ?_
                    exact ih (sn + 1) _ (by omega)
                  · refine o_iconst (v := nI 1) hC dX8_matters_86 (by decide +kernel) ?_
                    refine o_iret hC hB dX8_matters_87 (Nat.le_of_ble_eq_true rfl) (Nat.le_of_ble_eq_true rfl) ?_
                    exact ⟨_, rfl, rfl, ⟨_, _, _, S, hu.dp (hq2) rfl rfl rfl rfl ⟨wrc, hrc6, hrc⟩, rfl, rfl, fun q a b => by first | exact rl_u_n (by omega) | exact (rl_u_n (by omega)).trans (rl_u_n (by omega)) | exact (dst q a b).trans (rl_u_n (by omega))⟩, (hq2).fr⟩
            exact loop 65536 0 _ (by omega)
          · refine o_bipush (v := (-4 : Int32)) hC dX8_matters_35 (by decide +kernel) ?_
            refine o_iret hC hB dX8_matters_37 (Nat.le_of_ble_eq_true rfl) (Nat.le_of_ble_eq_true rfl) ?_
            first
            | exact ⟨_, rfl, rfl, ⟨_, _, _, S, hu.dp (hq2) rfl rfl rfl rfl ⟨wrc, hrc6, hrc⟩, rfl, rfl, fun q a b => by first | exact rl_u_n (by omega) | exact (rl_u_n (by omega)).trans (rl_u_n (by omega)) | exact (dst q a b).trans (rl_u_n (by omega))⟩, (hq2).fr⟩
            | exact ⟨_, rfl, rfl, ⟨_, _, _, S, hu.dp (hq0) rfl rfl rfl rfl ⟨wrc, hrc6, hrc⟩, rfl, rfl, fun q a b => by first | exact rl_u_n (by omega) | exact (rl_u_n (by omega)).trans (rl_u_n (by omega)) | exact (dst q a b).trans (rl_u_n (by omega))⟩, (hq0).fr⟩
        · refine o_iconst (v := (-1 : Int32)) hC dX8_matters_25 (by decide +kernel) ?_
          refine o_iret hC hB dX8_matters_26 (Nat.le_of_ble_eq_true rfl) (Nat.le_of_ble_eq_true rfl) ?_
          first
          | exact ⟨_, rfl, rfl, ⟨_, _, _, S, hu.dp (hq2) rfl rfl rfl rfl ⟨wrc, hrc6, hrc⟩, rfl, rfl, fun q a b => by first | exact rl_u_n (by omega) | exact (rl_u_n (by omega)).trans (rl_u_n (by omega)) | exact (dst q a b).trans (rl_u_n (by omega))⟩, (hq2).fr⟩
          | exact ⟨_, rfl, rfl, ⟨_, _, _, S, hu.dp (hq0) rfl rfl rfl rfl ⟨wrc, hrc6, hrc⟩, rfl, rfl, fun q a b => by first | exact rl_u_n (by omega) | exact (rl_u_n (by omega)).trans (rl_u_n (by omega)) | exact (dst q a b).trans (rl_u_n (by omega))⟩, (hq0).fr⟩

set_option maxHeartbeats 4000000 in
set_option maxRecDepth 100000 in
theorem cm_X8_blame (l : Launch) (D : va_G) (ids : Nat → ClassId) (H0 : Heap) (h : rl_H) (n : Nat) (m : Nat) (T : md_T) (fu : Int32) (k : Nat) (S : md_A) (z : sh_S) (q : Int32) (hu : md_un ids h m T fu k S z) : rl_Met l (rl_e D ids H0) rl_BW rl_Ns yX8_blame cX8_blame 8 (some .int) ({ frames := 2, cells := 0, slots := 0, locals := 48 }) [.ref m, .int q] h n (fun v h' n' => ∃ r : Int32, v = some (.int r) ∧ n' = n ∧ mdx ids h' m T z (fun S' => S' = S) (∀ q : Nat, m + 12 ≤ q → q < m + 22 → h' q = h q) ∧ rl_fr h h' m (m + 23)) := by
  obtain ⟨hq, hs, ⟨hsc, hsc4⟩, hwf, ⟨hrr, hr36⟩, ⟨hnc, hn16⟩, hnw, hpr, hnv, hwv, wrc, hrc6, hrc⟩ := id hu
  have hq0 := hq.ob (nI 0, T.2) fu k hq.2.1
  have g0 := hq.1
  obtain ⟨-, gk, ⟨⟨cl, g12⟩, ⟨tu, g13, b13⟩, ⟨im, g14⟩, ⟨te, g15, b15⟩, ⟨ne, g16⟩, ⟨la, g17⟩, ⟨hn, g18⟩, ⟨hl, g19⟩, ⟨tp, g20⟩, ⟨gr, g21, b21⟩, ⟨it, g22⟩⟩, gf⟩ := id hq
  refine rl_Met.of (by decide +kernel) (Nat.le_of_ble_eq_true rfl) ?_
  intro X hC hB
  show rl_G X (rl_e D ids H0) 0 [some (.ref m), some (.int q), none, none, none, none, none, none] [] h n 0 0
  refine o_aload_n hC dX8_blame_0 (by rfl) ?_
  refine o_iconst (v := nI 0) hC dX8_blame_1 (by decide +kernel) ?_
  refine o_putf hC (fX8_78 hC rfl) (fwX8 rfl rfl rfl (Or.inl rfl)) dX8_blame_2 (by repeat (first | with_reducible assumption | (rw [rl_u_s]; done) | (rw [rl_u_s]; rfl) | rw [rl_u_n (by first | with_reducible assumption | omega)])) (Nat.le_of_ble_eq_true rfl) ?_
  try simp only [List.set_cons_zero, List.set_cons_succ]
  refine o_aload_n hC dX8_blame_5 (by rfl) ?_
  refine o_iload_n hC dX8_blame_6 (by rfl) ?_
  refine o_callV1 hC rl_BW_good rl_Ns_nw (by exact hB.2.2.2.2.2) YX8_isTuple IX8_isTuple VX8_isTuple (mX8_199 hC) (by rw [hB.1]; exact ct_X8_isTuple l D ids H0 _ _ m (m + 13) _ _ tu (by repeat (first | with_reducible assumption | (rw [rl_u_s]; done) | (rw [rl_u_s]; rfl) | rw [rl_u_n (by first | with_reducible assumption | omega)])) rfl (by repeat (first | with_reducible assumption | (rw [rl_u_s]; done) | (rw [rl_u_s]; rfl) | rw [rl_u_n (by first | with_reducible assumption | omega)]))) (by repeat (first | with_reducible assumption | (rw [rl_u_s]; done) | (rw [rl_u_s]; rfl) | rw [rl_u_n (by first | with_reducible assumption | omega)])) rfl rfl (Nat.le_of_ble_eq_true rfl) (by rw [hB.2.1]; first | exact Nat.le_of_ble_eq_true rfl | (dsimp only; omega)) (by rw [hB.2.1]; first | exact Nat.le_of_ble_eq_true rfl | (dsimp only; omega)) (by rw [hB.2.1]; first | exact Nat.le_of_ble_eq_true rfl | (dsimp only; omega)) (by rw [hB.2.1]; first | exact Nat.le_of_ble_eq_true rfl | (dsimp only; omega)) dX8_blame_7 (fun v h_7 n_7 p_7 => ?_)
  obtain ⟨rfl, rfl, rfl⟩ := p_7
  try dsimp only [Option.toList, List.cons_append, List.nil_append]
  obtain ⟨t16, ht16, et16⟩ := b13 16 (by decide)
  by_cases hr : q < 0 ∨ tu 16 ≤ q
  · rw [if_pos hr]
    refine o_if_ne (tgt := 15) hC dX8_blame_10 (by decide) (fun c_10 => ?_) (fun c_10 => ?_)
    · exact absurd rfl c_10
    · refine o_iconst (v := (-1 : Int32)) hC dX8_blame_13 (by decide +kernel) ?_
      refine o_iret hC hB dX8_blame_14 (Nat.le_of_ble_eq_true rfl) (Nat.le_of_ble_eq_true rfl) ?_
      exact ⟨_, rfl, rfl, ⟨_, _, _, S, hu.dp (hq0) rfl rfl rfl rfl ⟨wrc, hrc6, hrc⟩, rfl, rfl, fun q a b => by first | exact rl_u_n (by omega) | exact (rl_u_n (by omega)).trans (rl_u_n (by omega)) | exact (dst q a b).trans (rl_u_n (by omega))⟩, (hq0).fr⟩
  · rw [if_neg hr]
    obtain ⟨t, ht0, rfl⟩ := nI_of_lt (k := t16) (by omega) (fun e => hr (Or.inl e)) (fun e => hr (Or.inr (by rw [et16]; exact e)))
    have ht : t < 80 := by omega
    obtain ⟨g00, gk0, -, gf0⟩ := id hq0
    refine o_if_ne (tgt := 15) hC dX8_blame_10 (by decide) (fun c_10 => ?_) (fun c_10 => ?_)
    · refine o_aload_n hC dX8_blame_15 (by rfl) ?_
      refine o_iload_n hC dX8_blame_16 (by rfl) ?_
      refine o_callV1 hC rl_BW_good rl_Ns_nw (by exact hB.2.2.2.2.2) YX8_stand IX8_stand VX8_stand (mX8_213 hC) (by rw [hB.1]; exact cm_X8_stand l D ids H0 _ _ m _ _ _ t z.2.2.1 hq0.rf ht hrr hr36) (by exact hq0.1) rfl rfl (Nat.le_of_ble_eq_true rfl) (by rw [hB.2.1]; first | exact Nat.le_of_ble_eq_true rfl | (dsimp only; omega)) (by rw [hB.2.1]; first | exact Nat.le_of_ble_eq_true rfl | (dsimp only; omega)) (by rw [hB.2.1]; first | exact Nat.le_of_ble_eq_true rfl | (dsimp only; omega)) (by rw [hB.2.1]; first | exact Nat.le_of_ble_eq_true rfl | (dsimp only; omega)) dX8_blame_17 (fun v h_17 n_17 p_17 => ?_)
      obtain ⟨r17, im2, rfl, rfl, im36, hst, q17, dst⟩ := p_17
      have hq2 := hq0.tr q17
      obtain ⟨g02, gk2, -, gf2⟩ := id hq2
      try dsimp only [Option.toList, List.cons_append, List.nil_append]
      refine o_if_ne (tgt := 26) hC dX8_blame_20 (by decide) (fun c_20 => ?_) (fun c_20 => ?_)
      · have im16 : im2 ≤ 16 := hst.elim (fun e => absurd e c_20) (fun e => e.2)
        refine o_aload_n hC dX8_blame_26 (by rfl) ?_
        refine o_iload_n hC dX8_blame_27 (by rfl) ?_
        refine o_aload_n hC dX8_blame_28 (by rfl) ?_
        refine o_getf hC (fX8_115 hC rfl) dX8_blame_29 (by repeat (first | with_reducible assumption | (rw [rl_u_s]; done) | (rw [rl_u_s]; rfl) | rw [rl_u_n (by first | with_reducible assumption | omega)])) (by first | rfl | with_reducible assumption) ?_
        refine o_callV2 hC rl_BW_good rl_Ns_nw (by exact hB.2.2.2.2.2) YX8_isSo IX8_isSo VX8_isSo (mX8_206 hC) (by rw [hB.1]; exact cm_X8_isSo l D ids H0 _ _ m _ _ _ t _ hq2.rf ht) (by exact hq2.1) rfl rfl (Nat.le_of_ble_eq_true rfl) (by rw [hB.2.1]; first | exact Nat.le_of_ble_eq_true rfl | (dsimp only; omega)) (by rw [hB.2.1]; first | exact Nat.le_of_ble_eq_true rfl | (dsimp only; omega)) (by rw [hB.2.1]; first | exact Nat.le_of_ble_eq_true rfl | (dsimp only; omega)) (by rw [hB.2.1]; first | exact Nat.le_of_ble_eq_true rfl | (dsimp only; omega)) dX8_blame_32 (fun v h_32 n_32 p_32 => ?_)
        obtain ⟨r32, rfl, rfl, rfl⟩ := p_32
        try dsimp only [Option.toList, List.cons_append, List.nil_append]
        refine o_istore_n hC dX8_blame_35 (Nat.le_of_ble_eq_true rfl) ?_
        refine o_iconst (v := (-1 : Int32)) hC dX8_blame_36 (by decide +kernel) ?_
        refine o_istore_n hC dX8_blame_37 (Nat.le_of_ble_eq_true rfl) ?_
        refine o_iconst (v := nI 0) hC dX8_blame_38 (by decide +kernel) ?_
        refine o_istore hC dX8_blame_39 (Nat.le_of_ble_eq_true rfl) ?_
        have loop : ∀ (mm sn : Nat) (c : Int32) (o5 : Option Value) (o7 : Option Value), sn + mm = 65536 → rl_G X (rl_e D ids H0) 41 [some (.ref m), some (.int (nI t)), some (.int r32), some (.int c), some (.int (nI sn)), o5, none, o7] [] h_32 n_32 0 0 := by
          intro mm
          induction mm with
          | zero =>
            intro sn c o5 o7 hm
            have e0 : sn = 65536 := by omega
            subst e0
            refine o_iload hC dX8_blame_41 (by rfl) ?_
            refine o_iconst (v := nI 1) hC dX8_blame_43 (by decide +kernel) ?_
            refine o_aload_n hC dX8_blame_44 (by rfl) ?_
            refine o_getf hC (fX8_210 hC rfl) dX8_blame_45 (by repeat (first | with_reducible assumption | (rw [rl_u_s]; done) | (rw [rl_u_s]; rfl) | rw [rl_u_n (by first | with_reducible assumption | omega)])) (by first | rfl | with_reducible assumption) ?_
            refine o_ishl hC dX8_blame_48 ?_
            refine o_icmp_ge (tgt := 128) hC dX8_blame_49 (by decide) (fun c_49 => ?_) (fun c_49 => ?_)
            · refine o_iload_n hC dX8_blame_128 (by rfl) ?_
              refine o_iret hC hB dX8_blame_129 (Nat.le_of_ble_eq_true rfl) (Nat.le_of_ble_eq_true rfl) ?_
              exact ⟨_, rfl, rfl, ⟨_, _, _, S, hu.dp (hq2) rfl rfl rfl rfl ⟨wrc, hrc6, hrc⟩, rfl, rfl, fun q a b => by first | exact rl_u_n (by omega) | exact (rl_u_n (by omega)).trans (rl_u_n (by omega)) | exact (dst q a b).trans (rl_u_n (by omega))⟩, (hq2).fr⟩
            · exact absurd (md_shl16 im2 im16) c_49
          | succ mm ih =>
            intro sn c o5 o7 hm
            refine o_iload hC dX8_blame_41 (by rfl) ?_
            refine o_iconst (v := nI 1) hC dX8_blame_43 (by decide +kernel) ?_
            refine o_aload_n hC dX8_blame_44 (by rfl) ?_
            refine o_getf hC (fX8_210 hC rfl) dX8_blame_45 (by repeat (first | with_reducible assumption | (rw [rl_u_s]; done) | (rw [rl_u_s]; rfl) | rw [rl_u_n (by first | with_reducible assumption | omega)])) (by first | rfl | with_reducible assumption) ?_
            refine o_ishl hC dX8_blame_48 ?_
            refine o_icmp_ge (tgt := 128) hC dX8_blame_49 (by decide) (fun c_49 => ?_) (fun c_49 => ?_)
            · refine o_iload_n hC dX8_blame_128 (by rfl) ?_
              refine o_iret hC hB dX8_blame_129 (Nat.le_of_ble_eq_true rfl) (Nat.le_of_ble_eq_true rfl) ?_
              exact ⟨_, rfl, rfl, ⟨_, _, _, S, hu.dp (hq2) rfl rfl rfl rfl ⟨wrc, hrc6, hrc⟩, rfl, rfl, fun q a b => by first | exact rl_u_n (by omega) | exact (rl_u_n (by omega)).trans (rl_u_n (by omega)) | exact (dst q a b).trans (rl_u_n (by omega))⟩, (hq2).fr⟩
            · refine o_aload_n hC dX8_blame_52 (by rfl) ?_
              refine o_iload hC dX8_blame_53 (by rfl) ?_
              refine o_callV1 hC rl_BW_good rl_Ns_nw (by exact hB.2.2.2.2.2) YX8_rowsOf IX8_rowsOf VX8_rowsOf (mX8_216 hC) (by rw [hB.1]; exact cm_X8_rowsOf l D ids H0 _ _ m _ _ _ im2 _ hq2.rf rfl im36) (by exact hq2.1) rfl rfl (Nat.le_of_ble_eq_true rfl) (by rw [hB.2.1]; first | exact Nat.le_of_ble_eq_true rfl | (dsimp only; omega)) (by rw [hB.2.1]; first | exact Nat.le_of_ble_eq_true rfl | (dsimp only; omega)) (by rw [hB.2.1]; first | exact Nat.le_of_ble_eq_true rfl | (dsimp only; omega)) (by rw [hB.2.1]; first | exact Nat.le_of_ble_eq_true rfl | (dsimp only; omega)) dX8_blame_55 (fun v h_55 n_55 p_55 => ?_)
              obtain ⟨r55, rfl, rfl, rfl⟩ := p_55
              try dsimp only [Option.toList, List.cons_append, List.nil_append]
              refine o_lstore hC dX8_blame_58 (Nat.le_of_ble_eq_true rfl) ?_
              refine o_lload hC dX8_blame_60 (by rfl) ?_
              refine o_aload_n hC dX8_blame_62 (by rfl) ?_
              refine o_getf hC (fX8_115 hC rfl) dX8_blame_63 (by repeat (first | with_reducible assumption | (rw [rl_u_s]; done) | (rw [rl_u_s]; rfl) | rw [rl_u_n (by first | with_reducible assumption | omega)])) (by first | rfl | with_reducible assumption) ?_
              refine o_ldc2 hC nX8_85 dX8_blame_66 ?_
              refine o_lxor hC dX8_blame_69 ?_
              refine o_land hC dX8_blame_70 ?_
              refine o_lconst (v := 0) hC dX8_blame_71 (by decide +kernel) ?_
              refine o_lcmp hC dX8_blame_72 ?_
              refine o_if_ne (tgt := 122) hC dX8_blame_73 (by decide) (fun c_73 => ?_) (fun c_73 => ?_)
              · refine o_iinc hC dX8_blame_122 (by rfl) (rl_inc _) (Nat.le_of_ble_eq_true rfl) ?_
                refine o_goto (tgt := 41) hC dX8_blame_125 (by decide) ?_
                exact ih (sn + 1) _ _ _ (by omega)
              · refine o_aload_n hC dX8_blame_76 (by rfl) ?_
                refine o_iload_n hC dX8_blame_77 (by rfl) ?_
                refine o_aload_n hC dX8_blame_78 (by rfl) ?_
                refine o_getf hC (fX8_115 hC rfl) dX8_blame_79 (by repeat (first | with_reducible assumption | (rw [rl_u_s]; done) | (rw [rl_u_s]; rfl) | rw [rl_u_n (by first | with_reducible assumption | omega)])) (by first | rfl | with_reducible assumption) ?_
                refine o_lload hC dX8_blame_82 (by rfl) ?_
                refine o_ldc2 hC nX8_85 dX8_blame_84 ?_
                refine o_lxor hC dX8_blame_87 ?_
                refine o_land hC dX8_blame_88 ?_
                refine o_callV2 hC rl_BW_good rl_Ns_nw (by exact hB.2.2.2.2.2) YX8_isSo IX8_isSo VX8_isSo (mX8_206 hC) (by rw [hB.1]; exact cm_X8_isSo l D ids H0 _ _ m _ _ _ t _ hq2.rf ht) (by exact hq2.1) rfl rfl (Nat.le_of_ble_eq_true rfl) (by rw [hB.2.1]; first | exact Nat.le_of_ble_eq_true rfl | (dsimp only; omega)) (by rw [hB.2.1]; first | exact Nat.le_of_ble_eq_true rfl | (dsimp only; omega)) (by rw [hB.2.1]; first | exact Nat.le_of_ble_eq_true rfl | (dsimp only; omega)) (by rw [hB.2.1]; first | exact Nat.le_of_ble_eq_true rfl | (dsimp only; omega)) dX8_blame_89 (fun v h_89 n_89 p_89 => ?_)
                obtain ⟨r89, rfl, rfl, rfl⟩ := p_89
                try dsimp only [Option.toList, List.cons_append, List.nil_append]
                refine o_iload_n hC dX8_blame_92 (by rfl) ?_
                refine o_icmp_eq (tgt := 122) hC dX8_blame_93 (by decide) (fun c_93 => ?_) (fun c_93 => ?_)
                · refine o_iinc hC dX8_blame_122 (by rfl) (rl_inc _) (Nat.le_of_ble_eq_true rfl) ?_
                  refine o_goto (tgt := 41) hC dX8_blame_125 (by decide) ?_
                  exact ih (sn + 1) _ _ _ (by omega)
                · refine o_iload hC dX8_blame_96 (by rfl) ?_
                  refine o_i2l hC dX8_blame_98 ?_
                  refine o_callS1 hC rl_BW_good rl_Ns_nw (by exact hB.2.2.2.2.2) YX8_ones SX8_ones (mX8_220 hC) (by rw [hB.1]; exact cm_X8_ones l D ids H0 _ _ _) (Nat.le_of_ble_eq_true rfl) (by rw [hB.2.1]; first | exact Nat.le_of_ble_eq_true rfl | (dsimp only; omega)) (by rw [hB.2.1]; first | exact Nat.le_of_ble_eq_true rfl | (dsimp only; omega)) (by rw [hB.2.1]; first | exact Nat.le_of_ble_eq_true rfl | (dsimp only; omega)) (by rw [hB.2.1]; first | exact Nat.le_of_ble_eq_true rfl | (dsimp only; omega)) dX8_blame_99 (fun v h_99 n_99 p_99 => ?_)
                  obtain ⟨r99, rfl, rfl, rfl⟩ := p_99
                  try dsimp only [Option.toList, List.cons_append, List.nil_append]
                  refine o_istore hC dX8_blame_102 (Nat.le_of_ble_eq_true rfl) ?_
                  refine o_iload_n hC dX8_blame_104 (by rfl) ?_
                  refine o_iconst (v := (-1 : Int32)) hC dX8_blame_105 (by decide +kernel) ?_
                  refine o_icmp_eq (tgt := 115) hC dX8_blame_106 (by decide) (fun c_106 => ?_) (fun c_106 => ?_)
                  · refine o_iload hC dX8_blame_115 (by rfl) ?_
                    refine o_goto (tgt := 121) hC dX8_blame_117 (by decide) ?_
                    refine o_istore_n hC dX8_blame_121 (Nat.le_of_ble_eq_true rfl) ?_
                    refine o_iinc hC dX8_blame_122 (by rfl) (rl_inc _) (Nat.le_of_ble_eq_true rfl) ?_
                    refine o_goto (tgt := 41) hC dX8_blame_125 (by decide) ?_
                    exact ih (sn + 1) _ _ _ (by omega)
                  · refine o_iload hC dX8_blame_109 (by rfl) ?_
                    refine o_iload_n hC dX8_blame_111 (by rfl) ?_
                    refine o_icmp_ge (tgt := 120) hC dX8_blame_112 (by decide) (fun c_112 => ?_) (fun c_112 => ?_)
                    · refine o_iload_n hC dX8_blame_120 (by rfl) ?_
                      refine o_istore_n hC dX8_blame_121 (Nat.le_of_ble_eq_true rfl) ?_
                      refine o_iinc hC dX8_blame_122 (by rfl) (rl_inc _) (Nat.le_of_ble_eq_true rfl) ?_
                      refine o_goto (tgt := 41) hC dX8_blame_125 (by decide) ?_
                      exact ih (sn + 1) _ _ _ (by omega)
                    · refine o_iload hC dX8_blame_115 (by rfl) ?_
                      refine o_goto (tgt := 121) hC dX8_blame_117 (by decide) ?_
                      refine o_istore_n hC dX8_blame_121 (Nat.le_of_ble_eq_true rfl) ?_
                      refine o_iinc hC dX8_blame_122 (by rfl) (rl_inc _) (Nat.le_of_ble_eq_true rfl) ?_
                      refine o_goto (tgt := 41) hC dX8_blame_125 (by decide) ?_
                      exact ih (sn + 1) _ _ _ (by omega)
        exact loop 65536 0 _ _ _ (by omega)
      · refine o_bipush (v := (-4 : Int32)) hC dX8_blame_23 (by decide +kernel) ?_
        refine o_iret hC hB dX8_blame_25 (Nat.le_of_ble_eq_true rfl) (Nat.le_of_ble_eq_true rfl) ?_
        first
        | exact ⟨_, rfl, rfl, ⟨_, _, _, S, hu.dp (hq2) rfl rfl rfl rfl ⟨wrc, hrc6, hrc⟩, rfl, rfl, fun q a b => by first | exact rl_u_n (by omega) | exact (rl_u_n (by omega)).trans (rl_u_n (by omega)) | exact (dst q a b).trans (rl_u_n (by omega))⟩, (hq2).fr⟩
        | exact ⟨_, rfl, rfl, ⟨_, _, _, S, hu.dp (hq0) rfl rfl rfl rfl ⟨wrc, hrc6, hrc⟩, rfl, rfl, fun q a b => by first | exact rl_u_n (by omega) | exact (rl_u_n (by omega)).trans (rl_u_n (by omega)) | exact (dst q a b).trans (rl_u_n (by omega))⟩, (hq0).fr⟩
    · exact absurd c_10 (by decide +kernel)

set_option maxHeartbeats 4000000 in
set_option maxRecDepth 100000 in
theorem cm_X8_told (l : Launch) (D : va_G) (ids : Nat → ClassId) (H0 : Heap) (h : rl_H) (n : Nat) (m : Nat) (T : md_T) (fu : Int32) (k : Nat) (S : md_A) (z : sh_S) (w : Int32) (hu : md_un ids h m T fu k S z) : rl_Met l (rl_e D ids H0) rl_BW rl_Ns yX8_told cX8_told 4 (some .int) ({ frames := 2, cells := 0, slots := 0, locals := 48 }) [.ref m, .int w] h n (fun v h' n' => ∃ r : Int32, v = some (.int r) ∧ n' = n ∧ mdx ids h' m T z (fun S' => S' = S) (∀ q : Nat, m + 12 ≤ q → q < m + 22 → h' q = h q) ∧ rl_fr h h' m (m + 23)) := by
  obtain ⟨hq, hs, ⟨hsc, hsc4⟩, hwf, ⟨hrr, hr36⟩, ⟨hnc, hn16⟩, hnw, hpr, hnv, hwv, wrc, hrc6, hrc⟩ := id hu
  have hq0 := hq.ob (nI 0, T.2) fu k hq.2.1
  have g0 := hq.1
  obtain ⟨-, gk, ⟨⟨cl, g12⟩, ⟨tu, g13, b13⟩, ⟨im, g14⟩, ⟨te, g15, b15⟩, ⟨ne, g16⟩, ⟨la, g17⟩, ⟨hn, g18⟩, ⟨hl, g19⟩, ⟨tp, g20⟩, ⟨gr, g21, b21⟩, ⟨it, g22⟩⟩, gf⟩ := id hq
  refine rl_Met.of (by decide +kernel) (Nat.le_of_ble_eq_true rfl) ?_
  intro X hC hB
  show rl_G X (rl_e D ids H0) 0 [some (.ref m), some (.int w), none, none] [] h n 0 0
  refine o_aload_n hC dX8_told_0 (by rfl) ?_
  refine o_iconst (v := nI 0) hC dX8_told_1 (by decide +kernel) ?_
  refine o_putf hC (fX8_78 hC rfl) (fwX8 rfl rfl rfl (Or.inl rfl)) dX8_told_2 (by repeat (first | with_reducible assumption | (rw [rl_u_s]; done) | (rw [rl_u_s]; rfl) | rw [rl_u_n (by first | with_reducible assumption | omega)])) (Nat.le_of_ble_eq_true rfl) ?_
  try simp only [List.set_cons_zero, List.set_cons_succ]
  refine o_iconst (v := nI 0) hC dX8_told_5 (by decide +kernel) ?_
  refine o_istore_n hC dX8_told_6 (Nat.le_of_ble_eq_true rfl) ?_
  refine o_iload_n hC dX8_told_7 (by rfl) ?_
  by_cases hw : w < 0 ∨ nI 5 < w
  · refine o_tableOut (tgt := 120) hC dX8_told_8 (rl_out (by decide) hw) (by decide) ?_
    refine o_bipush (v := (-2 : Int32)) hC dX8_told_120 (by decide +kernel) ?_
    refine o_iret hC hB dX8_told_122 (Nat.le_of_ble_eq_true rfl) (Nat.le_of_ble_eq_true rfl) ?_
    exact ⟨_, rfl, rfl, ⟨_, _, _, S, hu.dp (hq0) rfl rfl rfl rfl ⟨wrc, hrc6, hrc⟩, rfl, rfl, fun q a b => by first | exact rl_u_n (by omega) | exact (rl_u_n (by omega)).trans (rl_u_n (by omega)) | exact (dst q a b).trans (rl_u_n (by omega))⟩, (hq0).fr⟩
  · obtain ⟨j, hj, rfl⟩ := rl_inn (by decide) hw
    rcases (show j = 0 ∨ j = 1 ∨ j = 2 ∨ j = 3 ∨ j = 4 ∨ j = 5 by omega) with rfl | rfl | rfl | rfl | rfl | rfl
    · refine o_tableIn (off := 40) (tgt := 48) hC dX8_told_8 (by decide +kernel) (by decide +kernel) (by decide +kernel) (by decide) ?_
      refine o_aload_n hC dX8_told_48 (by rfl) ?_
      refine o_getf hC (fX8_109 hC rfl) dX8_told_49 (by repeat (first | with_reducible assumption | (rw [rl_u_s]; done) | (rw [rl_u_s]; rfl) | rw [rl_u_n (by first | with_reducible assumption | omega)])) (by first | rfl | with_reducible assumption) ?_
      refine o_iret hC hB dX8_told_52 (Nat.le_of_ble_eq_true rfl) (Nat.le_of_ble_eq_true rfl) ?_
      exact ⟨_, rfl, rfl, ⟨_, _, _, S, hu.dp (hq0) rfl rfl rfl rfl ⟨wrc, hrc6, hrc⟩, rfl, rfl, fun q a b => by first | exact rl_u_n (by omega) | exact (rl_u_n (by omega)).trans (rl_u_n (by omega)) | exact (dst q a b).trans (rl_u_n (by omega))⟩, (hq0).fr⟩
    · refine o_tableIn (off := 45) (tgt := 53) hC dX8_told_8 (by decide +kernel) (by decide +kernel) (by decide +kernel) (by decide) ?_
      refine o_aload_n hC dX8_told_53 (by rfl) ?_
      refine o_getf hC (fX8_112 hC rfl) dX8_told_54 (by repeat (first | with_reducible assumption | (rw [rl_u_s]; done) | (rw [rl_u_s]; rfl) | rw [rl_u_n (by first | with_reducible assumption | omega)])) (by first | rfl | with_reducible assumption) ?_
      refine o_iret hC hB dX8_told_57 (Nat.le_of_ble_eq_true rfl) (Nat.le_of_ble_eq_true rfl) ?_
      exact ⟨_, rfl, rfl, ⟨_, _, _, S, hu.dp (hq0) rfl rfl rfl rfl ⟨wrc, hrc6, hrc⟩, rfl, rfl, fun q a b => by first | exact rl_u_n (by omega) | exact (rl_u_n (by omega)).trans (rl_u_n (by omega)) | exact (dst q a b).trans (rl_u_n (by omega))⟩, (hq0).fr⟩
    · refine o_tableIn (off := 50) (tgt := 58) hC dX8_told_8 (by decide +kernel) (by decide +kernel) (by decide +kernel) (by decide) ?_
      refine o_aload_n hC dX8_told_58 (by rfl) ?_
      refine o_getf hC (fX8_119 hC rfl) dX8_told_59 (by repeat (first | with_reducible assumption | (rw [rl_u_s]; done) | (rw [rl_u_s]; rfl) | rw [rl_u_n (by first | with_reducible assumption | omega)])) (by first | rfl | with_reducible assumption) ?_
      refine o_iret hC hB dX8_told_62 (Nat.le_of_ble_eq_true rfl) (Nat.le_of_ble_eq_true rfl) ?_
      exact ⟨_, rfl, rfl, ⟨_, _, _, S, hu.dp (hq0) rfl rfl rfl rfl ⟨wrc, hrc6, hrc⟩, rfl, rfl, fun q a b => by first | exact rl_u_n (by omega) | exact (rl_u_n (by omega)).trans (rl_u_n (by omega)) | exact (dst q a b).trans (rl_u_n (by omega))⟩, (hq0).fr⟩
    · refine o_tableIn (off := 55) (tgt := 63) hC dX8_told_8 (by decide +kernel) (by decide +kernel) (by decide +kernel) (by decide) ?_
      refine o_aload_n hC dX8_told_63 (by rfl) ?_
      refine o_getf hC (fX8_46 hC rfl) dX8_told_64 (by repeat (first | with_reducible assumption | (rw [rl_u_s]; done) | (rw [rl_u_s]; rfl) | rw [rl_u_n (by first | with_reducible assumption | omega)])) (by first | rfl | with_reducible assumption) ?_
      refine o_bipush (v := nI 16) hC dX8_told_67 (by decide +kernel) ?_
      refine o_ialdN (t0 := 0) hC rfl dX8_told_69 (by repeat (first | with_reducible assumption | (rw [rl_u_s]; done) | (rw [rl_u_s]; rfl) | rw [rl_u_n (by first | with_reducible assumption | omega)])) (by omega) (by decide) ?_
      refine o_iret hC hB dX8_told_70 (Nat.le_of_ble_eq_true rfl) (Nat.le_of_ble_eq_true rfl) ?_
      exact ⟨_, rfl, rfl, ⟨_, _, _, S, hu.dp (hq0) rfl rfl rfl rfl ⟨wrc, hrc6, hrc⟩, rfl, rfl, fun q a b => by first | exact rl_u_n (by omega) | exact (rl_u_n (by omega)).trans (rl_u_n (by omega)) | exact (dst q a b).trans (rl_u_n (by omega))⟩, (hq0).fr⟩
    · refine o_tableIn (off := 63) (tgt := 71) hC dX8_told_8 (by decide +kernel) (by decide +kernel) (by decide +kernel) (by decide) ?_
      refine o_iconst (v := nI 0) hC dX8_told_71 (by decide +kernel) ?_
      refine o_istore_n hC dX8_told_72 (Nat.le_of_ble_eq_true rfl) ?_
      have loop : ∀ (mm t : Nat) (c : Int32), t + mm = 80 → rl_G X (rl_e D ids H0) 73 [some (.ref m), some (.int (nI 4)), some (.int c), some (.int (nI t))] [] (rl_u h m (md_ob m (nI 0, T.2) fu k)) n 0 0 := by
        intro mm
        induction mm with
        | zero =>
          intro t c hm
          refine o_iload_n hC dX8_told_73 (by rfl) ?_
          refine o_aload_n hC dX8_told_74 (by rfl) ?_
          refine o_getf hC (fX8_46 hC rfl) dX8_told_75 (by repeat (first | with_reducible assumption | (rw [rl_u_s]; done) | (rw [rl_u_s]; rfl) | rw [rl_u_n (by first | with_reducible assumption | omega)])) (by first | rfl | with_reducible assumption) ?_
          refine o_bipush (v := nI 16) hC dX8_told_78 (by decide +kernel) ?_
          obtain ⟨t16, ht16, et16⟩ := b13 16 (by decide)
          refine o_ialdN (t0 := 0) (k := 16) hC rfl dX8_told_80 (by repeat (first | with_reducible assumption | (rw [rl_u_s]; done) | (rw [rl_u_s]; rfl) | rw [rl_u_n (by first | with_reducible assumption | omega)])) (by decide) (by decide) ?_
          rw [et16]
          refine o_icmp_ge (tgt := 110) hC dX8_told_81 (by decide) (fun c_81 => ?_) (fun c_81 => ?_)
          · refine o_iload_n hC dX8_told_110 (by rfl) ?_
            refine o_iret hC hB dX8_told_111 (Nat.le_of_ble_eq_true rfl) (Nat.le_of_ble_eq_true rfl) ?_
            exact ⟨_, rfl, rfl, ⟨_, _, _, S, hu.dp (hq0) rfl rfl rfl rfl ⟨wrc, hrc6, hrc⟩, rfl, rfl, fun q a b => by first | exact rl_u_n (by omega) | exact (rl_u_n (by omega)).trans (rl_u_n (by omega)) | exact (dst q a b).trans (rl_u_n (by omega))⟩, (hq0).fr⟩
          · exact absurd (nI_le (by omega) (by omega)) c_81
        | succ mm ih =>
          intro t c hm
          refine o_iload_n hC dX8_told_73 (by rfl) ?_
          refine o_aload_n hC dX8_told_74 (by rfl) ?_
          refine o_getf hC (fX8_46 hC rfl) dX8_told_75 (by repeat (first | with_reducible assumption | (rw [rl_u_s]; done) | (rw [rl_u_s]; rfl) | rw [rl_u_n (by first | with_reducible assumption | omega)])) (by first | rfl | with_reducible assumption) ?_
          refine o_bipush (v := nI 16) hC dX8_told_78 (by decide +kernel) ?_
          obtain ⟨t16, ht16, et16⟩ := b13 16 (by decide)
          refine o_ialdN (t0 := 0) (k := 16) hC rfl dX8_told_80 (by repeat (first | with_reducible assumption | (rw [rl_u_s]; done) | (rw [rl_u_s]; rfl) | rw [rl_u_n (by first | with_reducible assumption | omega)])) (by decide) (by decide) ?_
          rw [et16]
          refine o_icmp_ge (tgt := 110) hC dX8_told_81 (by decide) (fun c_81 => ?_) (fun c_81 => ?_)
          · refine o_iload_n hC dX8_told_110 (by rfl) ?_
            refine o_iret hC hB dX8_told_111 (Nat.le_of_ble_eq_true rfl) (Nat.le_of_ble_eq_true rfl) ?_
            exact ⟨_, rfl, rfl, ⟨_, _, _, S, hu.dp (hq0) rfl rfl rfl rfl ⟨wrc, hrc6, hrc⟩, rfl, rfl, fun q a b => by first | exact rl_u_n (by omega) | exact (rl_u_n (by omega)).trans (rl_u_n (by omega)) | exact (dst q a b).trans (rl_u_n (by omega))⟩, (hq0).fr⟩
          · refine o_iload_n hC dX8_told_84 (by rfl) ?_
            refine o_aload_n hC dX8_told_85 (by rfl) ?_
            refine o_iload_n hC dX8_told_86 (by rfl) ?_
            refine o_aload_n hC dX8_told_87 (by rfl) ?_
            refine o_getf hC (fX8_115 hC rfl) dX8_told_88 (by repeat (first | with_reducible assumption | (rw [rl_u_s]; done) | (rw [rl_u_s]; rfl) | rw [rl_u_n (by first | with_reducible assumption | omega)])) (by first | rfl | with_reducible assumption) ?_
            refine o_callV2 hC rl_BW_good rl_Ns_nw (by exact hB.2.2.2.2.2) YX8_isSo IX8_isSo VX8_isSo (mX8_206 hC) (by rw [hB.1]; exact cm_X8_isSo l D ids H0 _ _ m _ _ _ t _ hq0.rf (by omega)) (by exact hq0.1) rfl rfl (Nat.le_of_ble_eq_true rfl) (by rw [hB.2.1]; first | exact Nat.le_of_ble_eq_true rfl | (dsimp only; omega)) (by rw [hB.2.1]; first | exact Nat.le_of_ble_eq_true rfl | (dsimp only; omega)) (by rw [hB.2.1]; first | exact Nat.le_of_ble_eq_true rfl | (dsimp only; omega)) (by rw [hB.2.1]; first | exact Nat.le_of_ble_eq_true rfl | (dsimp only; omega)) dX8_told_91 (fun v h_91 n_91 p_91 => ?_)
            obtain ⟨r91, rfl, rfl, rfl⟩ := p_91
            try dsimp only [Option.toList, List.cons_append, List.nil_append]
            refine o_if_eq (tgt := 101) hC dX8_told_94 (by decide) (fun c_94 => ?_) (fun c_94 => ?_)
            · refine o_iconst (v := nI 0) hC dX8_told_101 (by decide +kernel) ?_
              refine o_iadd hC dX8_told_102 ?_
              refine o_istore_n hC dX8_told_103 (Nat.le_of_ble_eq_true rfl) ?_
              refine o_iinc hC dX8_told_104 (by rfl) (rl_inc _) (Nat.le_of_ble_eq_true rfl) ?_
              refine o_goto (tgt := 73) hC dX8_told_107 (by decide) ?_
              exact ih (t + 1) _ (by omega)
            · refine o_iconst (v := nI 1) hC dX8_told_97 (by decide +kernel) ?_
              refine o_goto (tgt := 102) hC dX8_told_98 (by decide) ?_
              refine o_iadd hC dX8_told_102 ?_
              refine o_istore_n hC dX8_told_103 (Nat.le_of_ble_eq_true rfl) ?_
              refine o_iinc hC dX8_told_104 (by rfl) (rl_inc _) (Nat.le_of_ble_eq_true rfl) ?_
              refine o_goto (tgt := 73) hC dX8_told_107 (by decide) ?_
              exact ih (t + 1) _ (by omega)
      exact loop 80 0 _ (by omega)
    · refine o_tableIn (off := 104) (tgt := 112) hC dX8_told_8 (by decide +kernel) (by decide +kernel) (by decide +kernel) (by decide) ?_
      refine o_aload_n hC dX8_told_112 (by rfl) ?_
      refine o_getf hC (fX8_115 hC rfl) dX8_told_113 (by repeat (first | with_reducible assumption | (rw [rl_u_s]; done) | (rw [rl_u_s]; rfl) | rw [rl_u_n (by first | with_reducible assumption | omega)])) (by first | rfl | with_reducible assumption) ?_
      refine o_callS1 hC rl_BW_good rl_Ns_nw (by exact hB.2.2.2.2.2) YX8_ones SX8_ones (mX8_220 hC) (by rw [hB.1]; exact cm_X8_ones l D ids H0 _ _ _) (Nat.le_of_ble_eq_true rfl) (by rw [hB.2.1]; first | exact Nat.le_of_ble_eq_true rfl | (dsimp only; omega)) (by rw [hB.2.1]; first | exact Nat.le_of_ble_eq_true rfl | (dsimp only; omega)) (by rw [hB.2.1]; first | exact Nat.le_of_ble_eq_true rfl | (dsimp only; omega)) (by rw [hB.2.1]; first | exact Nat.le_of_ble_eq_true rfl | (dsimp only; omega)) dX8_told_116 (fun v h_116 n_116 p_116 => ?_)
      obtain ⟨r116, rfl, rfl, rfl⟩ := p_116
      try dsimp only [Option.toList, List.cons_append, List.nil_append]
      refine o_iret hC hB dX8_told_119 (Nat.le_of_ble_eq_true rfl) (Nat.le_of_ble_eq_true rfl) ?_
      exact ⟨_, rfl, rfl, ⟨_, _, _, S, hu.dp (hq0) rfl rfl rfl rfl ⟨wrc, hrc6, hrc⟩, rfl, rfl, fun q a b => by first | exact rl_u_n (by omega) | exact (rl_u_n (by omega)).trans (rl_u_n (by omega)) | exact (dst q a b).trans (rl_u_n (by omega))⟩, (hq0).fr⟩
