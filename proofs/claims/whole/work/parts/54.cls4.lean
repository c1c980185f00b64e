/-! RowLineage in every state: drop -/
/-- result and present are others -/
theorem cl_at.rp {ids : Nat → ClassId} {h : rl_H} {x : Nat} {s : cl_S} {c : cl_N} (H : cl_at ids h x s c) (rs : Int32) (pr : Int64) : cl_at ids (rl_u h x (.inr (7, [.ref (x + 1), .ref (x + 41), .ref (x + 63), .ref (x + 64), .ref (x + 65), .ref (x + 67), .int (nI c.2.2.1), .int rs, .long pr]))) x s (c.1, c.2.1, c.2.2.1, c.2.2.2.1, rs, pr) := by
  obtain ⟨c1, c2, ⟨gp, c3⟩, ⟨pn, c4, c5⟩, ⟨pt, c6, c7⟩, c8, c9, c10, c11, c12, c13, c14, c15⟩ := H
  refine ⟨rl_u_s, c2.eqv (fun q a b => rl_u_n (by omega)), ⟨gp, c3.eqv (fun q a b => rl_u_n (by omega))⟩, ⟨pn, (rl_u_n (by omega)).trans c4, c5⟩, ⟨pt, (rl_u_n (by omega)).trans c6, c7⟩, (rl_u_n (by omega)).trans c8, c9.eqv (fun q a b => rl_u_n (by omega)), c10, c11, fun k hk => (rl_u_n (show c.1 k ≠ x by have := c14 k hk; omega)).trans (c12 k hk), fun k hk => ?_, c14, c15⟩
  obtain ⟨wd, hw⟩ := c13 k hk
  exact ⟨wd, hw.eqv (fun q a b => rl_u_n (by have := c14 k hk; have a : c.1 k + 1 ≤ q := a; omega))⟩
/-- what present is behind a drop -/
def dp_pr (pr : Int64) (q on : Int32) : Int64 := if on = 0 then pr ||| (1 : Int64) <<< (q.toInt64 &&& 63) else pr &&& (((1 : Int64) <<< (q.toInt64 &&& 63)) ^^^ (-1))

set_option maxHeartbeats 4000000 in
set_option maxRecDepth 100000 in
theorem cg_X7_drop (l : Launch) (D : va_G) (ids : Nat → ClassId) (H0 : Heap) (h : rl_H) (n : Nat) (x : Nat) (s : cl_S) (c : cl_N) (q on : Int32) (hc : cl_at ids h x s c) : rl_Met l (rl_e D ids H0) rl_BW rl_Ns yX7_drop cX7_drop 5 (some .int) ({ frames := 1, cells := 0, slots := 0, locals := 21 }) [.ref x, .int q, .int on] h n (fun v h' n' => ∃ z : Int32, v = some (.int z) ∧ n' = n ∧ (((q < 0 ∨ nI s.2.2.2.2 ≤ q) ∧ z = -1 ∧ h' = h) ∨ (¬ (q < 0 ∨ nI s.2.2.2.2 ≤ q) ∧ z = (if (dp_pr c.2.2.2.2.2 q on) = c.2.2.2.2.2 then nI 0 else nI 1) ∧ cl_at ids h' x s (c.1, c.2.1, c.2.2.1, c.2.2.2.1, c.2.2.2.2.1, (dp_pr c.2.2.2.2.2 q on)) ∧ ∀ k, k ≠ x → h' k = h k))) := by
  obtain ⟨c1, c2, c3, ⟨pn, c4, c5⟩, ⟨pt, c6, c7⟩, c8, c9, c10, c11, c12, c13, c14, c15⟩ := id hc
  refine rl_Met.of (by decide +kernel) (Nat.le_of_ble_eq_true rfl) ?_
  intro X hC hB
  show rl_G X (rl_e D ids H0) 0 [some (.ref x), some (.int q), some (.int on), none, none] [] h n 0 0
  refine o_aload_n hC dX7_drop_0 (by rfl) ?_
  refine o_getf hC (fX7_10 hC rfl) dX7_drop_1 (by repeat (first | with_reducible assumption | (rw [rl_u_s]; done) | (rw [rl_u_s]; rfl) | rw [rl_u_n (by first | with_reducible assumption | omega)])) (by first | rfl | with_reducible assumption) ?_
  refine o_iload_n hC dX7_drop_4 (by rfl) ?_
  refine o_callV1 hC rl_BW_good rl_Ns_nw (by exact hB.2.2.2.2.2) YX3_isRow IX3_isRow VX3_isRow (mX7_178 hC) (by rw [hB.1]; exact ct_X3_isRow l D ids H0 _ _ (x + 1) _ _ _ _ _ _ c2) (by exact c2.1) rfl rfl (Nat.le_of_ble_eq_true rfl) (by rw [hB.2.1]; first | exact Nat.le_of_ble_eq_true rfl | (dsimp only; omega)) (by rw [hB.2.1]; first | exact Nat.le_of_ble_eq_true rfl | (dsimp only; omega)) (by rw [hB.2.1]; first | exact Nat.le_of_ble_eq_true rfl | (dsimp only; omega)) (by rw [hB.2.1]; first | exact Nat.le_of_ble_eq_true rfl | (dsimp only; omega)) dX7_drop_5 (fun v h_5 n_5 p_5 => ?_)
  obtain ⟨rfl, rfl, rfl⟩ := p_5
  try dsimp only [Option.toList, List.cons_append, List.nil_append]
  by_cases hr : q < 0 ∨ nI s.2.2.2.2 ≤ q
  · rw [if_pos hr]
    refine o_if_ne (tgt := 13) hC dX7_drop_8 (by decide) (fun c_8 => ?_) (fun c_8 => ?_)
    · exact absurd rfl c_8
    · refine o_iconst (v := (-1 : Int32)) hC dX7_drop_11 (by decide +kernel) ?_
      refine o_iret hC hB dX7_drop_12 (Nat.le_of_ble_eq_true rfl) (Nat.le_of_ble_eq_true rfl) ?_
      exact ⟨_, rfl, rfl, Or.inl ⟨hr, rfl, rfl⟩⟩
  · rw [if_neg hr]
    refine o_if_ne (tgt := 13) hC dX7_drop_8 (by decide) (fun c_8 => ?_) (fun c_8 => ?_)
    · refine o_aload_n hC dX7_drop_13 (by rfl) ?_
      refine o_getf hC (fX7_71 hC rfl) dX7_drop_14 (by repeat (first | with_reducible assumption | (rw [rl_u_s]; done) | (rw [rl_u_s]; rfl) | rw [rl_u_n (by first | with_reducible assumption | omega)])) (by first | rfl | with_reducible assumption) ?_
      refine o_lstore_n hC dX7_drop_17 (Nat.le_of_ble_eq_true rfl) ?_
      refine o_aload_n hC dX7_drop_18 (by rfl) ?_
      refine o_iload_n hC dX7_drop_19 (by rfl) ?_
      refine o_if_eq (tgt := 38) hC dX7_drop_20 (by decide) (fun c_20 => ?_) (fun c_20 => ?_)
      · refine o_aload_n hC dX7_drop_38 (by rfl) ?_
        refine o_getf hC (fX7_71 hC rfl) dX7_drop_39 (by repeat (first | with_reducible assumption | (rw [rl_u_s]; done) | (rw [rl_u_s]; rfl) | rw [rl_u_n (by first | with_reducible assumption | omega)])) (by first | rfl | with_reducible assumption) ?_
        refine o_lconst (v := 1) hC dX7_drop_42 (by decide +kernel) ?_
        refine o_iload_n hC dX7_drop_43 (by rfl) ?_
        refine o_lshl hC dX7_drop_44 ?_
        refine o_lor hC dX7_drop_45 ?_
        refine o_putf hC (fX7_71 hC rfl) (fwX7 rfl rfl rfl (Or.inl rfl)) dX7_drop_46 (by repeat (first | with_reducible assumption | (rw [rl_u_s]; done) | (rw [rl_u_s]; rfl) | rw [rl_u_n (by first | with_reducible assumption | omega)])) (Nat.le_of_ble_eq_true rfl) ?_
        try simp only [List.set_cons_zero, List.set_cons_succ]
        refine o_aload_n hC dX7_drop_49 (by rfl) ?_
        refine o_getf hC (fX7_71 hC rfl) dX7_drop_50 (by repeat (first | with_reducible assumption | (rw [rl_u_s]; done) | (rw [rl_u_s]; rfl) | rw [rl_u_n (by first | with_reducible assumption | omega)])) (by first | rfl | with_reducible assumption) ?_
        refine o_lload_n hC dX7_drop_53 (by rfl) ?_
        refine o_lcmp hC dX7_drop_54 ?_
        refine o_if_ne (tgt := 62) hC dX7_drop_55 (by decide) (fun c_55 => ?_) (fun c_55 => ?_)
        · refine o_iconst (v := nI 1) hC dX7_drop_62 (by decide +kernel) ?_
          refine o_iret hC hB dX7_drop_63 (Nat.le_of_ble_eq_true rfl) (Nat.le_of_ble_eq_true rfl) ?_
          first
          | (have e : (dp_pr c.2.2.2.2.2 q on) = _ := if_pos c_20
             refine ⟨_, rfl, rfl, Or.inr ⟨hr, ?_, ?_, fun k hk => rl_u_n hk⟩⟩
             · rw [e]
               first | rw [if_pos ((lg_cmp_eq _ _).mp c_55)] | rw [if_neg (fun z => c_55 ((lg_cmp_eq _ _).mpr z))]
             · rw [e]
               exact hc.rp _ _)
          | (have e : (dp_pr c.2.2.2.2.2 q on) = _ := if_neg c_20
             refine ⟨_, rfl, rfl, Or.inr ⟨hr, ?_, ?_, fun k hk => rl_u_n hk⟩⟩
             · rw [e]
               first | rw [if_pos ((lg_cmp_eq _ _).mp c_55)] | rw [if_neg (fun z => c_55 ((lg_cmp_eq _ _).mpr z))]
             · rw [e]
               exact hc.rp _ _)
        · refine o_iconst (v := nI 0) hC dX7_drop_58 (by decide +kernel) ?_
          refine o_goto (tgt := 63) hC dX7_drop_59 (by decide) ?_
          refine o_iret hC hB dX7_drop_63 (Nat.le_of_ble_eq_true rfl) (Nat.le_of_ble_eq_true rfl) ?_
          first
          | (have e : (dp_pr c.2.2.2.2.2 q on) = _ := if_pos c_20
             refine ⟨_, rfl, rfl, Or.inr ⟨hr, ?_, ?_, fun k hk => rl_u_n hk⟩⟩
             · rw [e]
               first | rw [if_pos ((lg_cmp_eq _ _).mp c_55)] | rw [if_neg (fun z => c_55 ((lg_cmp_eq _ _).mpr z))]
             · rw [e]
               exact hc.rp _ _)
          | (have e : (dp_pr c.2.2.2.2.2 q on) = _ := if_neg c_20
             refine ⟨_, rfl, rfl, Or.inr ⟨hr, ?_, ?_, fun k hk => rl_u_n hk⟩⟩
             · rw [e]
               first | rw [if_pos ((lg_cmp_eq _ _).mp c_55)] | rw [if_neg (fun z => c_55 ((lg_cmp_eq _ _).mpr z))]
             · rw [e]
               exact hc.rp _ _)
      · refine o_aload_n hC dX7_drop_23 (by rfl) ?_
        refine o_getf hC (fX7_71 hC rfl) dX7_drop_24 (by repeat (first | with_reducible assumption | (rw [rl_u_s]; done) | (rw [rl_u_s]; rfl) | rw [rl_u_n (by first | with_reducible assumption | omega)])) (by first | rfl | with_reducible assumption) ?_
        refine o_lconst (v := 1) hC dX7_drop_27 (by decide +kernel) ?_
        refine o_iload_n hC dX7_drop_28 (by rfl) ?_
        refine o_lshl hC dX7_drop_29 ?_
        refine o_ldc2 hC nX7_181 dX7_drop_30 ?_
        refine o_lxor hC dX7_drop_33 ?_
        refine o_land hC dX7_drop_34 ?_
        refine o_goto (tgt := 46) hC dX7_drop_35 (by decide) ?_
        refine o_putf hC (fX7_71 hC rfl) (fwX7 rfl rfl rfl (Or.inl rfl)) dX7_drop_46 (by repeat (first | with_reducible assumption | (rw [rl_u_s]; done) | (rw [rl_u_s]; rfl) | rw [rl_u_n (by first | with_reducible assumption | omega)])) (Nat.le_of_ble_eq_true rfl) ?_
        try simp only [List.set_cons_zero, List.set_cons_succ]
        refine o_aload_n hC dX7_drop_49 (by rfl) ?_
        refine o_getf hC (fX7_71 hC rfl) dX7_drop_50 (by repeat (first | with_reducible assumption | (rw [rl_u_s]; done) | (rw [rl_u_s]; rfl) | rw [rl_u_n (by first | with_reducible assumption | omega)])) (by first | rfl | with_reducible assumption) ?_
        refine o_lload_n hC dX7_drop_53 (by rfl) ?_
        refine o_lcmp hC dX7_drop_54 ?_
        refine o_if_ne (tgt := 62) hC dX7_drop_55 (by decide) (fun c_55 => ?_) (fun c_55 => ?_)
        · refine o_iconst (v := nI 1) hC dX7_drop_62 (by decide +kernel) ?_
          refine o_iret hC hB dX7_drop_63 (Nat.le_of_ble_eq_true rfl) (Nat.le_of_ble_eq_true rfl) ?_
          first
          | (have e : (dp_pr c.2.2.2.2.2 q on) = _ := if_pos c_20
             refine ⟨_, rfl, rfl, Or.inr ⟨hr, ?_, ?_, fun k hk => rl_u_n hk⟩⟩
             · rw [e]
               first | rw [if_pos ((lg_cmp_eq _ _).mp c_55)] | rw [if_neg (fun z => c_55 ((lg_cmp_eq _ _).mpr z))]
             · rw [e]
               exact hc.rp _ _)
          | (have e : (dp_pr c.2.2.2.2.2 q on) = _ := if_neg c_20
             refine ⟨_, rfl, rfl, Or.inr ⟨hr, ?_, ?_, fun k hk => rl_u_n hk⟩⟩
             · rw [e]
               first | rw [if_pos ((lg_cmp_eq _ _).mp c_55)] | rw [if_neg (fun z => c_55 ((lg_cmp_eq _ _).mpr z))]
             · rw [e]
               exact hc.rp _ _)
        · refine o_iconst (v := nI 0) hC dX7_drop_58 (by decide +kernel) ?_
          refine o_goto (tgt := 63) hC dX7_drop_59 (by decide) ?_
          refine o_iret hC hB dX7_drop_63 (Nat.le_of_ble_eq_true rfl) (Nat.le_of_ble_eq_true rfl) ?_
          first
          | (have e : (dp_pr c.2.2.2.2.2 q on) = _ := if_pos c_20
             refine ⟨_, rfl, rfl, Or.inr ⟨hr, ?_, ?_, fun k hk => rl_u_n hk⟩⟩
             · rw [e]
               first | rw [if_pos ((lg_cmp_eq _ _).mp c_55)] | rw [if_neg (fun z => c_55 ((lg_cmp_eq _ _).mpr z))]
             · rw [e]
               exact hc.rp _ _)
          | (have e : (dp_pr c.2.2.2.2.2 q on) = _ := if_neg c_20
             refine ⟨_, rfl, rfl, Or.inr ⟨hr, ?_, ?_, fun k hk => rl_u_n hk⟩⟩
             · rw [e]
               first | rw [if_pos ((lg_cmp_eq _ _).mp c_55)] | rw [if_neg (fun z => c_55 ((lg_cmp_eq _ _).mpr z))]
             · rw [e]
               exact hc.rp _ _)
    · exact absurd c_8 (by decide +kernel)
