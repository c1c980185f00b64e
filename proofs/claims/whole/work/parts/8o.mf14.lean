/-! THE MODEL, functionally: what looks at THE RESULT -/

set_option maxHeartbeats 4000000 in
set_option maxRecDepth 100000 in
theorem cf_X8_first (l : Launch) (D : va_G) (ids : Nat → ClassId) (H0 : Heap) (h : rl_H) (n : Nat) (m : Nat) (T : md_T) (fu : Int32) (k : Nat) (A : md_D) (t : Nat) (x : Int64) (W : List tT) (hq : mf ids h h m T fu k A) (ht : t < 80) (hw : mws A (1280 + t) W) : rl_Met l (rl_e D ids H0) rl_BW rl_Ns yX8_first cX8_first 6 (some .int) ({ frames := 0, cells := 0, slots := 0, locals := 0 }) [.ref m, .int (nI t), .long x] h n (fun v h' n' => v = some (.int (wfh x W 0)) ∧ h' = h ∧ n' = n) := by
  obtain ⟨hm0, g12, g13, g14, g15, g16, g17, g18, g19, g20, g21, g22⟩ := id hq
  have g0 := hm0.1
  have gk := hm0.2.1
  have b13 := hq.b13
  have b15 := hq.b15
  have b21 := hq.b21
  have w12 := hw.2.1
  refine rl_Met.of (by decide +kernel) (Nat.le_of_ble_eq_true rfl) ?_
  intro X hC hB
  have loop : ∀ (mm i : Nat), i + mm = W.length → wfh x W 0 = wfh x (W.drop i) i → rl_G X (rl_e D ids H0) 10 [some (.ref m), some (.int (nI t)), some (.long x), none, some (.int (nI (1280 + t))), some (.int (nI i))] [] h n 0 0 := by
    intro mm
    induction mm with
    | zero =>
      intro i hm he
      refine o_iload hC dX8_first_10 (by rfl) ?_
      refine o_aload_n hC dX8_first_12 (by rfl) ?_
      refine o_getf hC (fX8_53 hC rfl) dX8_first_13 (by repeat (first | with_reducible assumption | (rw [rl_u_s]; done) | (rw [rl_u_s]; rfl) | rw [rl_u_n (by first | with_reducible assumption | omega)])) (by first | rfl | with_reducible assumption) ?_
      refine o_iload hC dX8_first_16 (by rfl) ?_
      refine o_ialdN (t0 := 0) (k := 1280 + t) hC rfl dX8_first_18 (by repeat (first | with_reducible assumption | (rw [rl_u_s]; done) | (rw [rl_u_s]; rfl) | rw [rl_u_n (by first | with_reducible assumption | omega)])) (by omega) (by decide) ?_
      rw [hw.1]
      refine o_icmp_ge (tgt := 75) hC dX8_first_19 (by decide) (fun c_19 => ?_) (fun c_19 => ?_)
      · refine o_iconst (v := (-1 : Int32)) hC dX8_first_75 (by decide +kernel) ?_
        refine o_iret hC hB dX8_first_76 (Nat.le_of_ble_eq_true rfl) (Nat.le_of_ble_eq_true rfl) ?_
        exact ⟨by rw [he, List.drop_eq_nil_of_le (by omega)]; rfl, rfl, rfl⟩
      · exact absurd (nI_le (by omega) (by omega)) c_19
    | succ mm ih =>
      intro i hm he
      have hil : i < W.length := by omega
      rw [drop_s hil, mws_fn hw hil] at he
      refine o_iload hC dX8_first_10 (by rfl) ?_
      refine o_aload_n hC dX8_first_12 (by rfl) ?_
      refine o_getf hC (fX8_53 hC rfl) dX8_first_13 (by repeat (first | with_reducible assumption | (rw [rl_u_s]; done) | (rw [rl_u_s]; rfl) | rw [rl_u_n (by first | with_reducible assumption | omega)])) (by first | rfl | with_reducible assumption) ?_
      refine o_iload hC dX8_first_16 (by rfl) ?_
      refine o_ialdN (t0 := 0) (k := 1280 + t) hC rfl dX8_first_18 (by repeat (first | with_reducible assumption | (rw [rl_u_s]; done) | (rw [rl_u_s]; rfl) | rw [rl_u_n (by first | with_reducible assumption | omega)])) (by omega) (by decide) ?_
      rw [hw.1]
      refine o_icmp_ge (tgt := 75) hC dX8_first_19 (by decide) (fun c_19 => ?_) (fun c_19 => ?_)
      · refine o_iconst (v := (-1 : Int32)) hC dX8_first_75 (by decide +kernel) ?_
        refine o_iret hC hB dX8_first_76 (Nat.le_of_ble_eq_true rfl) (Nat.le_of_ble_eq_true rfl) ?_
        exact absurd c_19 (nI_ge (by omega) (by omega))
      · refine o_aload_n hC dX8_first_22 (by rfl) ?_
        refine o_getf hC (fX8_56 hC rfl) dX8_first_23 (by repeat (first | with_reducible assumption | (rw [rl_u_s]; done) | (rw [rl_u_s]; rfl) | rw [rl_u_n (by first | with_reducible assumption | omega)])) (by first | rfl | with_reducible assumption) ?_
        refine o_bipush (v := nI 12) hC dX8_first_26 (by decide +kernel) ?_
        refine o_iload hC dX8_first_28 (by rfl) ?_
        refine o_imul hC dX8_first_30 ?_
        try rw [nI_mul]
        refine o_iload hC dX8_first_31 (by rfl) ?_
        refine o_iadd hC dX8_first_33 ?_
        try rw [nI_add]
        refine o_laldN (t0 := 1) hC rfl dX8_first_34 (by repeat (first | with_reducible assumption | (rw [rl_u_s]; done) | (rw [rl_u_s]; rfl) | rw [rl_u_n (by first | with_reducible assumption | omega)])) (by omega) (by decide) ?_
        refine o_lload_n hC dX8_first_35 (by rfl) ?_
        refine o_ldc2 hC nX8_85 dX8_first_36 ?_
        refine o_lxor hC dX8_first_39 ?_
        refine o_land hC dX8_first_40 ?_
        refine o_lconst (v := 0) hC dX8_first_41 (by decide +kernel) ?_
        refine o_lcmp hC dX8_first_42 ?_
        refine o_if_ne (tgt := 69) hC dX8_first_43 (by decide) (fun c_43 => ?_) (fun c_43 => ?_)
        · refine o_iinc hC dX8_first_69 (by rfl) (rl_inc _) (Nat.le_of_ble_eq_true rfl) ?_
          refine o_goto (tgt := 10) hC dX8_first_72 (by decide) ?_
          refine ih (i + 1) (by omega) (he.trans ?_)
          refine if_neg (c := A.2.2.2.2.1 (12 * (1280 + t) + i) &&& (x ^^^ (-1)) = 0 ∧ A.2.2.2.2.2.1 (12 * (1280 + t) + i) &&& x = 0) (fun w => ?_)
          first
          | exact c_43 ((lg_cmp_eq _ _).mpr w.1)
          | exact c_63 ((lg_cmp_eq _ _).mpr w.2)
        · refine o_aload_n hC dX8_first_46 (by rfl) ?_
          refine o_getf hC (fX8_60 hC rfl) dX8_first_47 (by repeat (first | with_reducible assumption | (rw [rl_u_s]; done) | (rw [rl_u_s]; rfl) | rw [rl_u_n (by first | with_reducible assumption | omega)])) (by first | rfl | with_reducible assumption) ?_
          refine o_bipush (v := nI 12) hC dX8_first_50 (by decide +kernel) ?_
          refine o_iload hC dX8_first_52 (by rfl) ?_
          refine o_imul hC dX8_first_54 ?_
          try rw [nI_mul]
          refine o_iload hC dX8_first_55 (by rfl) ?_
          refine o_iadd hC dX8_first_57 ?_
          try rw [nI_add]
          refine o_laldN (t0 := 1) hC rfl dX8_first_58 (by repeat (first | with_reducible assumption | (rw [rl_u_s]; done) | (rw [rl_u_s]; rfl) | rw [rl_u_n (by first | with_reducible assumption | omega)])) (by omega) (by decide) ?_
          refine o_lload_n hC dX8_first_59 (by rfl) ?_
          refine o_land hC dX8_first_60 ?_
          refine o_lconst (v := 0) hC dX8_first_61 (by decide +kernel) ?_
          refine o_lcmp hC dX8_first_62 ?_
          refine o_if_ne (tgt := 69) hC dX8_first_63 (by decide) (fun c_63 => ?_) (fun c_63 => ?_)
          · refine o_iinc hC dX8_first_69 (by rfl) (rl_inc _) (Nat.le_of_ble_eq_true rfl) ?_
            refine o_goto (tgt := 10) hC dX8_first_72 (by decide) ?_
            refine ih (i + 1) (by omega) (he.trans ?_)
            refine if_neg (c := A.2.2.2.2.1 (12 * (1280 + t) + i) &&& (x ^^^ (-1)) = 0 ∧ A.2.2.2.2.2.1 (12 * (1280 + t) + i) &&& x = 0) (fun w => ?_)
            first
            | exact c_43 ((lg_cmp_eq _ _).mpr w.1)
            | exact c_63 ((lg_cmp_eq _ _).mpr w.2)
          · refine o_iload hC dX8_first_66 (by rfl) ?_
            refine o_iret hC hB dX8_first_68 (Nat.le_of_ble_eq_true rfl) (Nat.le_of_ble_eq_true rfl) ?_
            refine ⟨?_, rfl, rfl⟩
            rw [he]
            exact (congrArg (fun z => some (Value.int z)) (if_pos (c := A.2.2.2.2.1 (12 * (1280 + t) + i) &&& (x ^^^ (-1)) = 0 ∧ A.2.2.2.2.2.1 (12 * (1280 + t) + i) &&& x = 0) ⟨(lg_cmp_eq _ _).mp (by first | exact c_43 | exact Classical.not_not.mp c_43), (lg_cmp_eq _ _).mp (by first | exact c_63 | exact Classical.not_not.mp c_63)⟩)).symm
  show rl_G X (rl_e D ids H0) 0 [some (.ref m), some (.int (nI t)), some (.long x), none, none, none] [] h n 0 0
  refine o_sipush (v := nI 1280) hC dX8_first_0 (by decide +kernel) ?_
  refine o_iload_n hC dX8_first_3 (by rfl) ?_
  refine o_iadd hC dX8_first_4 ?_
  try rw [nI_add]
  refine o_istore hC dX8_first_5 (Nat.le_of_ble_eq_true rfl) ?_
  refine o_iconst (v := nI 0) hC dX8_first_7 (by decide +kernel) ?_
  refine o_istore hC dX8_first_8 (Nat.le_of_ble_eq_true rfl) ?_
  exact loop W.length 0 (by omega) rfl

set_option maxHeartbeats 4000000 in
set_option maxRecDepth 100000 in
theorem cf_X8_isSo (l : Launch) (D : va_G) (ids : Nat → ClassId) (H0 : Heap) (h : rl_H) (n : Nat) (m : Nat) (T : md_T) (fu : Int32) (k : Nat) (A : md_D) (t : Nat) (x : Int64) (W : List tT) (hq : mf ids h h m T fu k A) (ht : t < 80) (hw : mws A (1280 + t) W) : rl_Met l (rl_e D ids H0) rl_BW rl_Ns yX8_isSo cX8_isSo 4 (some .boolean) ({ frames := 1, cells := 0, slots := 0, locals := 25 }) [.ref m, .int (nI t), .long x] h n (fun v h' n' => v = some (.int (if wfh x W 0 = -1 then nI 0 else nI 1)) ∧ h' = h ∧ n' = n) := by
  obtain ⟨hm0, g12, g13, g14, g15, g16, g17, g18, g19, g20, g21, g22⟩ := id hq
  have g0 := hm0.1
  have gk := hm0.2.1
  have b13 := hq.b13
  have b15 := hq.b15
  have b21 := hq.b21
  refine rl_Met.of (by decide +kernel) (Nat.le_of_ble_eq_true rfl) ?_
  intro X hC hB
  show rl_G X (rl_e D ids H0) 0 [some (.ref m), some (.int (nI t)), some (.long x), none] [] h n 0 0
  refine o_aload_n hC dX8_isSo_0 (by rfl) ?_
  refine o_iload_n hC dX8_isSo_1 (by rfl) ?_
  refine o_lload_n hC dX8_isSo_2 (by rfl) ?_
  refine o_callV2 hC rl_BW_good rl_Ns_nw (by exact hB.2.2.2.2.2) YX8_first IX8_first VX8_first (mX8_202 hC) (by rw [hB.1]; exact cf_X8_first l D ids H0 _ _ m T _ _ _ t x W hq ht hw) (by exact g0) rfl rfl (Nat.le_of_ble_eq_true rfl) (by rw [hB.2.1]; first | exact Nat.le_of_ble_eq_true rfl | (dsimp only; omega)) (by rw [hB.2.1]; first | exact Nat.le_of_ble_eq_true rfl | (dsimp only; omega)) (by rw [hB.2.1]; first | exact Nat.le_of_ble_eq_true rfl | (dsimp only; omega)) (by rw [hB.2.1]; first | exact Nat.le_of_ble_eq_true rfl | (dsimp only; omega)) dX8_isSo_3 (fun v h_3 n_3 p_3 => ?_)
  obtain ⟨rfl, rfl, rfl⟩ := p_3
  try dsimp only [Option.toList, List.cons_append, List.nil_append]
  refine o_iconst (v := (-1 : Int32)) hC dX8_isSo_6 (by decide +kernel) ?_
  refine o_icmp_eq (tgt := 14) hC dX8_isSo_7 (by decide) (fun c_7 => ?_) (fun c_7 => ?_)
  · refine o_iconst (v := nI 0) hC dX8_isSo_14 (by decide +kernel) ?_
    refine o_zret hC hB dX8_isSo_15 (by first | rfl | decide +kernel) (Nat.le_of_ble_eq_true rfl) (Nat.le_of_ble_eq_true rfl) ?_
    first
    | exact ⟨by rw [if_pos c_7], rfl, rfl⟩
    | exact ⟨by rw [if_neg c_7], rfl, rfl⟩
  · refine o_iconst (v := nI 1) hC dX8_isSo_10 (by decide +kernel) ?_
    refine o_goto (tgt := 15) hC dX8_isSo_11 (by decide) ?_
    refine o_zret hC hB dX8_isSo_15 (by first | rfl | decide +kernel) (Nat.le_of_ble_eq_true rfl) (Nat.le_of_ble_eq_true rfl) ?_
    first
    | exact ⟨by rw [if_pos c_7], rfl, rfl⟩
    | exact ⟨by rw [if_neg c_7], rfl, rfl⟩

set_option maxHeartbeats 4000000 in
set_option maxRecDepth 100000 in
theorem cf_X8_ways (l : Launch) (D : va_G) (ids : Nat → ClassId) (H0 : Heap) (h : rl_H) (n : Nat) (m : Nat) (T : md_T) (fu : Int32) (k : Nat) (A : md_D) (S : md_A) (z : sh_S) (res : List arow) (rw : Nat) (q : Int32) (hq : mf ids h h m T fu k A) (hu : md_un ids h m T fu k S z) (hr : mrs A T res rw)  : rl_Met l (rl_e D ids H0) rl_BW rl_Ns yX8_ways cX8_ways 2 (some .int) ({ frames := 1, cells := 0, slots := 0, locals := 21 }) [.ref m, .int q] h n (fun v h' n' => ∃ r : Int32, v = some (.int r) ∧ n' = n ∧ mf ids h h' m (nI 0, T.2) fu k A ∧ ((¬ (∃ t : Nat, t < res.length ∧ q = nI t) ∧ r = -1) ∨ ∃ t : Nat, t < res.length ∧ q = nI t ∧ r = nI (ark res t).2.length)) := by
  obtain ⟨hm0, g12, g13, g14, g15, g16, g17, g18, g19, g20, g21, g22⟩ := id hq
  have g0 := hm0.1
  have gk := hm0.2.1
  have b13 := hq.b13
  have b15 := hq.b15
  have b21 := hq.b21
  have hq0 := hq.ob (nI 0, T.2) fu k gk
  have r80 := hr.2.1.2.2
  have h16 := hr.1.1
  refine rl_Met.of (by decide +kernel) (Nat.le_of_ble_eq_true rfl) ?_
  intro X hC hB
  show rl_G X (rl_e D ids H0) 0 [some (.ref m), some (.int q)] [] h n 0 0
  refine o_aload_n hC dX8_ways_0 (by rfl) ?_
  refine o_iconst (v := nI 0) hC dX8_ways_1 (by decide +kernel) ?_
  refine o_putf hC (fX8_78 hC rfl) (fwX8 rfl rfl rfl (Or.inl rfl)) dX8_ways_2 (by repeat (first | with_reducible assumption | (rw [rl_u_s]; done) | (rw [rl_u_s]; rfl) | rw [rl_u_n (by first | with_reducible assumption | omega)])) (Nat.le_of_ble_eq_true rfl) ?_
  try simp only [List.set_cons_zero, List.set_cons_succ]
  refine o_aload_n hC dX8_ways_5 (by rfl) ?_
  refine o_iload_n hC dX8_ways_6 (by rfl) ?_
  refine o_callV1 hC rl_BW_good rl_Ns_nw (by exact hB.2.2.2.2.2) YX8_isTuple IX8_isTuple VX8_isTuple (mX8_199 hC) (by rw [hB.1]; exact ct_X8_isTuple l D ids H0 _ _ m (m + 13) _ _ A.2.1 (by repeat (first | with_reducible assumption | (rw [rl_u_s]; done) | (rw [rl_u_s]; rfl) | rw [rl_u_n (by first | with_reducible assumption | omega)])) rfl (by repeat (first | with_reducible assumption | (rw [rl_u_s]; done) | (rw [rl_u_s]; rfl) | rw [rl_u_n (by first | with_reducible assumption | omega)]))) (by repeat (first | with_reducible assumption | (rw [rl_u_s]; done) | (rw [rl_u_s]; rfl) | rw [rl_u_n (by first | with_reducible assumption | omega)])) rfl rfl (Nat.le_of_ble_eq_true rfl) (by rw [hB.2.1]; first | exact Nat.le_of_ble_eq_true rfl | (dsimp only; omega)) (by rw [hB.2.1]; first | exact Nat.le_of_ble_eq_true rfl | (dsimp only; omega)) (by rw [hB.2.1]; first | exact Nat.le_of_ble_eq_true rfl | (dsimp only; omega)) (by rw [hB.2.1]; first | exact Nat.le_of_ble_eq_true rfl | (dsimp only; omega)) dX8_ways_7 (fun v h_7 n_7 p_7 => ?_)
  obtain ⟨rfl, rfl, rfl⟩ := p_7
  try dsimp only [Option.toList, List.cons_append, List.nil_append]
  by_cases hr9 : q < 0 ∨ A.2.1 16 ≤ q
  · rw [if_pos hr9]
    have nin : ¬ (∃ t : Nat, t < res.length ∧ q = nI t) := fun ⟨t, ht, e⟩ => hr9.elim (fun u => absurd u (by rw [e]; exact nI_pos (by omega))) (fun u => absurd u (by rw [h16, e]; exact nI_ge ht (by omega)))
    refine o_if_eq (tgt := 26) hC dX8_ways_10 (by decide) (fun c_10 => ?_) (fun c_10 => ?_)
    · refine o_iconst (v := (-1 : Int32)) hC dX8_ways_26 (by decide +kernel) ?_
      refine o_iret hC hB dX8_ways_27 (Nat.le_of_ble_eq_true rfl) (Nat.le_of_ble_eq_true rfl) ?_
      exact ⟨_, rfl, rfl, hq0, Or.inl ⟨nin, rfl⟩⟩
    · exact absurd rfl c_10
  · rw [if_neg hr9]
    obtain ⟨t, htl, rfl⟩ := nI_of_lt (k := res.length) (by omega) (fun e => hr9 (Or.inl e)) (fun e => hr9 (Or.inr (by rw [h16]; exact e)))
    have ht : t < 80 := by omega
    have hrw := hr.1.2 t htl
    have hws : mws A (1280 + t) (ark res t).2 := hrw.2
    have g00 := hq0.1.1
    refine o_if_eq (tgt := 26) hC dX8_ways_10 (by decide) (fun c_10 => ?_) (fun c_10 => ?_)
    · exact absurd c_10 (by decide +kernel)
    · refine o_aload_n hC dX8_ways_13 (by rfl) ?_
      refine o_getf hC (fX8_53 hC rfl) dX8_ways_14 (by repeat (first | with_reducible assumption | (rw [rl_u_s]; done) | (rw [rl_u_s]; rfl) | rw [rl_u_n (by first | with_reducible assumption | omega)])) (by first | rfl | with_reducible assumption) ?_
      refine o_sipush (v := nI 1280) hC dX8_ways_17 (by decide +kernel) ?_
      refine o_iload_n hC dX8_ways_20 (by rfl) ?_
      refine o_iadd hC dX8_ways_21 ?_
      try rw [nI_add]
      refine o_ialdN (t0 := 0) (k := 1280 + t) hC rfl dX8_ways_22 (by repeat (first | with_reducible assumption | (rw [rl_u_s]; done) | (rw [rl_u_s]; rfl) | rw [rl_u_n (by first | with_reducible assumption | omega)])) (by omega) (by decide) ?_
      rw [hws.1]
      refine o_goto (tgt := 27) hC dX8_ways_23 (by decide) ?_
      refine o_iret hC hB dX8_ways_27 (Nat.le_of_ble_eq_true rfl) (Nat.le_of_ble_eq_true rfl) ?_
      exact ⟨_, rfl, rfl, hq0, Or.inr ⟨t, htl, rfl, rfl⟩⟩

set_option maxHeartbeats 4000000 in
set_option maxRecDepth 100000 in
theorem cf_X8_holds (l : Launch) (D : va_G) (ids : Nat → ClassId) (H0 : Heap) (h : rl_H) (n : Nat) (m : Nat) (T : md_T) (fu : Int32) (k : Nat) (A : md_D) (S : md_A) (z : sh_S) (res : List arow) (rw : Nat) (q : Int32) (hq : mf ids h h m T fu k A) (hu : md_un ids h m T fu k S z) (hr : mrs A T res rw)  : rl_Met l (rl_e D ids H0) rl_BW rl_Ns yX8_holds cX8_holds 2 (some .int) ({ frames := 2, cells := 0, slots := 0, locals := 48 }) [.ref m, .int q] h n (fun v h' n' => ∃ r : Int32, v = some (.int r) ∧ n' = n ∧ mf ids h h' m (nI 0, T.2) fu k A ∧ ((¬ (∃ t : Nat, t < res.length ∧ q = nI t) ∧ r = -1) ∨ ∃ t : Nat, t < res.length ∧ q = nI t ∧ r = (if wfh T.2.2.2.1 (ark res t).2 0 = -1 then nI 0 else nI 1))) := by
  obtain ⟨hm0, g12, g13, g14, g15, g16, g17, g18, g19, g20, g21, g22⟩ := id hq
  have g0 := hm0.1
  have gk := hm0.2.1
  have b13 := hq.b13
  have b15 := hq.b15
  have b21 := hq.b21
  have hq0 := hq.ob (nI 0, T.2) fu k gk
  have r80 := hr.2.1.2.2
  have h16 := hr.1.1
  refine rl_Met.of (by decide +kernel) (Nat.le_of_ble_eq_true rfl) ?_
  intro X hC hB
  show rl_G X (rl_e D ids H0) 0 [some (.ref m), some (.int q)] [] h n 0 0
  refine o_aload_n hC dX8_holds_0 (by rfl) ?_
  refine o_iconst (v := nI 0) hC dX8_holds_1 (by decide +kernel) ?_
  refine o_putf hC (fX8_78 hC rfl) (fwX8 rfl rfl rfl (Or.inl rfl)) dX8_holds_2 (by repeat (first | with_reducible assumption | (rw [rl_u_s]; done) | (rw [rl_u_s]; rfl) | rw [rl_u_n (by first | with_reducible assumption | omega)])) (Nat.le_of_ble_eq_true rfl) ?_
  try simp only [List.set_cons_zero, List.set_cons_succ]
  refine o_aload_n hC dX8_holds_5 (by rfl) ?_
  refine o_iload_n hC dX8_holds_6 (by rfl) ?_
  refine o_callV1 hC rl_BW_good rl_Ns_nw (by exact hB.2.2.2.2.2) YX8_isTuple IX8_isTuple VX8_isTuple (mX8_199 hC) (by rw [hB.1]; exact ct_X8_isTuple l D ids H0 _ _ m (m + 13) _ _ A.2.1 (by repeat (first | with_reducible assumption | (rw [rl_u_s]; done) | (rw [rl_u_s]; rfl) | rw [rl_u_n (by first | with_reducible assumption | omega)])) rfl (by repeat (first | with_reducible assumption | (rw [rl_u_s]; done) | (rw [rl_u_s]; rfl) | rw [rl_u_n (by first | with_reducible assumption | omega)]))) (by repeat (first | with_reducible assumption | (rw [rl_u_s]; done) | (rw [rl_u_s]; rfl) | rw [rl_u_n (by first | with_reducible assumption | omega)])) rfl rfl (Nat.le_of_ble_eq_true rfl) (by rw [hB.2.1]; first | exact Nat.le_of_ble_eq_true rfl | (dsimp only; omega)) (by rw [hB.2.1]; first | exact Nat.le_of_ble_eq_true rfl | (dsimp only; omega)) (by rw [hB.2.1]; first | exact Nat.le_of_ble_eq_true rfl | (dsimp only; omega)) (by rw [hB.2.1]; first | exact Nat.le_of_ble_eq_true rfl | (dsimp only; omega)) dX8_holds_7 (fun v h_7 n_7 p_7 => ?_)
  obtain ⟨rfl, rfl, rfl⟩ := p_7
  try dsimp only [Option.toList, List.cons_append, List.nil_append]
  by_cases hr9 : q < 0 ∨ A.2.1 16 ≤ q
  · rw [if_pos hr9]
    have nin : ¬ (∃ t : Nat, t < res.length ∧ q = nI t) := fun ⟨t, ht, e⟩ => hr9.elim (fun u => absurd u (by rw [e]; exact nI_pos (by omega))) (fun u => absurd u (by rw [h16, e]; exact nI_ge ht (by omega)))
    refine o_if_ne (tgt := 17) hC dX8_holds_10 (by decide) (fun c_10 => ?_) (fun c_10 => ?_)
    · exact absurd rfl c_10
    · refine o_iconst (v := (-1 : Int32)) hC dX8_holds_13 (by decide +kernel) ?_
      refine o_goto (tgt := 34) hC dX8_holds_14 (by decide) ?_
      refine o_iret hC hB dX8_holds_34 (Nat.le_of_ble_eq_true rfl) (Nat.le_of_ble_eq_true rfl) ?_
      exact ⟨_, rfl, rfl, hq0, Or.inl ⟨nin, rfl⟩⟩
  · rw [if_neg hr9]
    obtain ⟨t, htl, rfl⟩ := nI_of_lt (k := res.length) (by omega) (fun e => hr9 (Or.inl e)) (fun e => hr9 (Or.inr (by rw [h16]; exact e)))
    have ht : t < 80 := by omega
    have hrw := hr.1.2 t htl
    have hws : mws A (1280 + t) (ark res t).2 := hrw.2
    have g00 := hq0.1.1
    refine o_if_ne (tgt := 17) hC dX8_holds_10 (by decide) (fun c_10 => ?_) (fun c_10 => ?_)
    · refine o_aload_n hC dX8_holds_17 (by rfl) ?_
      refine o_iload_n hC dX8_holds_18 (by rfl) ?_
      refine o_aload_n hC dX8_holds_19 (by rfl) ?_
      refine o_getf hC (fX8_115 hC rfl) dX8_holds_20 (by repeat (first | with_reducible assumption | (rw [rl_u_s]; done) | (rw [rl_u_s]; rfl) | rw [rl_u_n (by first | with_reducible assumption | omega)])) (by first | rfl | with_reducible assumption) ?_
      refine o_callV2 hC rl_BW_good rl_Ns_nw (by exact hB.2.2.2.2.2) YX8_isSo IX8_isSo VX8_isSo (mX8_206 hC) (by rw [hB.1]; exact cf_X8_isSo l D ids H0 _ _ m _ _ _ _ t _ _ hq0.rf ht hws) (by exact hq0.1.1) rfl rfl (Nat.le_of_ble_eq_true rfl) (by rw [hB.2.1]; first | exact Nat.le_of_ble_eq_true rfl | (dsimp only; omega)) (by rw [hB.2.1]; first | exact Nat.le_of_ble_eq_true rfl | (dsimp only; omega)) (by rw [hB.2.1]; first | exact Nat.le_of_ble_eq_true rfl | (dsimp only; omega)) (by rw [hB.2.1]; first | exact Nat.le_of_ble_eq_true rfl | (dsimp only; omega)) dX8_holds_23 (fun v h_23 n_23 p_23 => ?_)
      obtain ⟨rfl, rfl, rfl⟩ := p_23
      try dsimp only [Option.toList, List.cons_append, List.nil_append]
      refine o_if_eq (tgt := 33) hC dX8_holds_26 (by decide) (fun c_26 => ?_) (fun c_26 => ?_)
      · refine o_iconst (v := nI 0) hC dX8_holds_33 (by decide +kernel) ?_
        refine o_iret hC hB dX8_holds_34 (Nat.le_of_ble_eq_true rfl) (Nat.le_of_ble_eq_true rfl) ?_
        by_cases e9 : wfh T.2.2.2.1 (ark res t).2 0 = -1
        · rw [if_pos e9] at c_26
          first
          | exact absurd rfl c_26
          | exact ⟨_, rfl, rfl, hq0, Or.inr ⟨t, htl, rfl, by rw [if_pos e9]⟩⟩
        · rw [if_neg e9] at c_26
          first
          | exact absurd c_26 (by decide +kernel)
          | exact ⟨_, rfl, rfl, hq0, Or.inr ⟨t, htl, rfl, by rw [if_neg e9]⟩⟩
      · refine o_iconst (v := nI 1) hC dX8_holds_29 (by decide +kernel) ?_
        refine o_goto (tgt := 34) hC dX8_holds_30 (by decide) ?_
        refine o_iret hC hB dX8_holds_34 (Nat.le_of_ble_eq_true rfl) (Nat.le_of_ble_eq_true rfl) ?_
        by_cases e9 : wfh T.2.2.2.1 (ark res t).2 0 = -1
        · rw [if_pos e9] at c_26
          first
          | exact absurd rfl c_26
          | exact ⟨_, rfl, rfl, hq0, Or.inr ⟨t, htl, rfl, by rw [if_pos e9]⟩⟩
        · rw [if_neg e9] at c_26
          first
          | exact absurd c_26 (by decide +kernel)
          | exact ⟨_, rfl, rfl, hq0, Or.inr ⟨t, htl, rfl, by rw [if_neg e9]⟩⟩
    · exact absurd c_10 (by decide +kernel)

set_option maxHeartbeats 4000000 in
set_option maxRecDepth 100000 in
theorem cf_X8_made (l : Launch) (D : va_G) (ids : Nat → ClassId) (H0 : Heap) (h : rl_H) (n : Nat) (m : Nat) (T : md_T) (fu : Int32) (k : Nat) (A : md_D) (S : md_A) (z : sh_S) (res : List arow) (rw : Nat) (q : Int32) (hq : mf ids h h m T fu k A) (hu : md_un ids h m T fu k S z) (hr : mrs A T res rw)  : rl_Met l (rl_e D ids H0) rl_BW rl_Ns yX8_made cX8_made 2 (some .int) ({ frames := 1, cells := 0, slots := 0, locals := 25 }) [.ref m, .int q] h n (fun v h' n' => ∃ r : Int32, v = some (.int r) ∧ n' = n ∧ mf ids h h' m (nI 0, T.2) fu k A ∧ ((¬ (∃ t : Nat, t < res.length ∧ q = nI t) ∧ r = -1) ∨ ∃ t : Nat, t < res.length ∧ q = nI t ∧ r = wfh T.2.2.2.1 (ark res t).2 0)) := by
  obtain ⟨hm0, g12, g13, g14, g15, g16, g17, g18, g19, g20, g21, g22⟩ := id hq
  have g0 := hm0.1
  have gk := hm0.2.1
  have b13 := hq.b13
  have b15 := hq.b15
  have b21 := hq.b21
  have hq0 := hq.ob (nI 0, T.2) fu k gk
  have r80 := hr.2.1.2.2
  have h16 := hr.1.1
  refine rl_Met.of (by decide +kernel) (Nat.le_of_ble_eq_true rfl) ?_
  intro X hC hB
  show rl_G X (rl_e D ids H0) 0 [some (.ref m), some (.int q)] [] h n 0 0
  refine o_aload_n hC dX8_made_0 (by rfl) ?_
  refine o_iconst (v := nI 0) hC dX8_made_1 (by decide +kernel) ?_
  refine o_putf hC (fX8_78 hC rfl) (fwX8 rfl rfl rfl (Or.inl rfl)) dX8_made_2 (by repeat (first | with_reducible assumption | (rw [rl_u_s]; done) | (rw [rl_u_s]; rfl) | rw [rl_u_n (by first | with_reducible assumption | omega)])) (Nat.le_of_ble_eq_true rfl) ?_
  try simp only [List.set_cons_zero, List.set_cons_succ]
  refine o_aload_n hC dX8_made_5 (by rfl) ?_
  refine o_iload_n hC dX8_made_6 (by rfl) ?_
  refine o_callV1 hC rl_BW_good rl_Ns_nw (by exact hB.2.2.2.2.2) YX8_isTuple IX8_isTuple VX8_isTuple (mX8_199 hC) (by rw [hB.1]; exact ct_X8_isTuple l D ids H0 _ _ m (m + 13) _ _ A.2.1 (by repeat (first | with_reducible assumption | (rw [rl_u_s]; done) | (rw [rl_u_s]; rfl) | rw [rl_u_n (by first | with_reducible assumption | omega)])) rfl (by repeat (first | with_reducible assumption | (rw [rl_u_s]; done) | (rw [rl_u_s]; rfl) | rw [rl_u_n (by first | with_reducible assumption | omega)]))) (by repeat (first | with_reducible assumption | (rw [rl_u_s]; done) | (rw [rl_u_s]; rfl) | rw [rl_u_n (by first | with_reducible assumption | omega)])) rfl rfl (Nat.le_of_ble_eq_true rfl) (by rw [hB.2.1]; first | exact Nat.le_of_ble_eq_true rfl | (dsimp only; omega)) (by rw [hB.2.1]; first | exact Nat.le_of_ble_eq_true rfl | (dsimp only; omega)) (by rw [hB.2.1]; first | exact Nat.le_of_ble_eq_true rfl | (dsimp only; omega)) (by rw [hB.2.1]; first | exact Nat.le_of_ble_eq_true rfl | (dsimp only; omega)) dX8_made_7 (fun v h_7 n_7 p_7 => ?_)
  obtain ⟨rfl, rfl, rfl⟩ := p_7
  try dsimp only [Option.toList, List.cons_append, List.nil_append]
  by_cases hr9 : q < 0 ∨ A.2.1 16 ≤ q
  · rw [if_pos hr9]
    have nin : ¬ (∃ t : Nat, t < res.length ∧ q = nI t) := fun ⟨t, ht, e⟩ => hr9.elim (fun u => absurd u (by rw [e]; exact nI_pos (by omega))) (fun u => absurd u (by rw [h16, e]; exact nI_ge ht (by omega)))
    refine o_if_ne (tgt := 17) hC dX8_made_10 (by decide) (fun c_10 => ?_) (fun c_10 => ?_)
    · exact absurd rfl c_10
    · refine o_iconst (v := (-1 : Int32)) hC dX8_made_13 (by decide +kernel) ?_
      refine o_goto (tgt := 26) hC dX8_made_14 (by decide) ?_
      refine o_iret hC hB dX8_made_26 (Nat.le_of_ble_eq_true rfl) (Nat.le_of_ble_eq_true rfl) ?_
      exact ⟨_, rfl, rfl, hq0, Or.inl ⟨nin, rfl⟩⟩
  · rw [if_neg hr9]
    obtain ⟨t, htl, rfl⟩ := nI_of_lt (k := res.length) (by omega) (fun e => hr9 (Or.inl e)) (fun e => hr9 (Or.inr (by rw [h16]; exact e)))
    have ht : t < 80 := by omega
    have hrw := hr.1.2 t htl
    have hws : mws A (1280 + t) (ark res t).2 := hrw.2
    have g00 := hq0.1.1
    refine o_if_ne (tgt := 17) hC dX8_made_10 (by decide) (fun c_10 => ?_) (fun c_10 => ?_)
    · refine o_aload_n hC dX8_made_17 (by rfl) ?_
      refine o_iload_n hC dX8_made_18 (by rfl) ?_
      refine o_aload_n hC dX8_made_19 (by rfl) ?_
      refine o_getf hC (fX8_115 hC rfl) dX8_made_20 (by repeat (first | with_reducible assumption | (rw [rl_u_s]; done) | (rw [rl_u_s]; rfl) | rw [rl_u_n (by first | with_reducible assumption | omega)])) (by first | rfl | with_reducible assumption) ?_
      refine o_callV2 hC rl_BW_good rl_Ns_nw (by exact hB.2.2.2.2.2) YX8_first IX8_first VX8_first (mX8_202 hC) (by rw [hB.1]; exact cf_X8_first l D ids H0 _ _ m _ _ _ _ t _ _ hq0.rf ht hws) (by exact hq0.1.1) rfl rfl (Nat.le_of_ble_eq_true rfl) (by rw [hB.2.1]; first | exact Nat.le_of_ble_eq_true rfl | (dsimp only; omega)) (by rw [hB.2.1]; first | exact Nat.le_of_ble_eq_true rfl | (dsimp only; omega)) (by rw [hB.2.1]; first | exact Nat.le_of_ble_eq_true rfl | (dsimp only; omega)) (by rw [hB.2.1]; first | exact Nat.le_of_ble_eq_true rfl | (dsimp only; omega)) dX8_made_23 (fun v h_23 n_23 p_23 => ?_)
      obtain ⟨rfl, rfl, rfl⟩ := p_23
      try dsimp only [Option.toList, List.cons_append, List.nil_append]
      refine o_iret hC hB dX8_made_26 (Nat.le_of_ble_eq_true rfl) (Nat.le_of_ble_eq_true rfl) ?_
      exact ⟨_, rfl, rfl, hq0, Or.inr ⟨t, htl, rfl, rfl⟩⟩
    · exact absurd c_10 (by decide +kernel)
