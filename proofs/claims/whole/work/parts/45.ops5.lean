/-! Operators by shapes: fillCols, the groups -/
/-- the group is another -/
theorem op_sh.gr {ids : Nat → ClassId} {h h' : rl_H} {o so : Nat} {gp gp' : Nat → Option Nat} (H : op_sh ids h o so gp) (hk : h' (o + 8) = some (.inl (ids 3, 4, .inr (.inr (.inr (.inr gp')))))) (he : ∀ q, o ≤ q → q < o + 22 → q ≠ o + 8 → h' q = h q) : op_sh ids h' o so gp' := by
  obtain ⟨h1, h2, h3, ⟨tp, h4, h5⟩, h6, ⟨kc, h7⟩, h8⟩ := H
  exact ⟨by rw [he o (by omega) (by omega) (by omega)]; exact h1, h2.eqv (fun q a b => he q (by omega) (by omega) (by omega)), h3.eqv (fun q a b => he q (by omega) (by omega) (by omega)), ⟨tp, by rw [he (o + 7) (by omega) (by omega) (by omega)]; exact h4, h5⟩, hk, ⟨kc, by rw [he (o + 9) (by omega) (by omega) (by omega)]; exact h7⟩, fun m hm => (h8 m hm).eqv (fun q a b => he q (by omega) (by omega) (by omega))⟩
/-- the draft and one of the turned are others -/
theorem op_sh.tu {ids : Nat → ClassId} {h h' : rl_H} {o so m : Nat} {gp : Nat → Option Nat} (H : op_sh ids h o so gp) (hm : m < 4) (hd : dr_ok ids h' (o + 1)) (hw : ws_ok ids h' (o + 10 + 3 * m)) (he : ∀ q, (q < o + 1 ∨ o + 4 ≤ q) → (q < o + 10 + 3 * m ∨ o + 10 + 3 * m + 3 ≤ q) → h' q = h q) : op_sh ids h' o so gp := by
  obtain ⟨h1, h2, h3, ⟨tp, h4, h5⟩, h6, ⟨kc, h7⟩, h8⟩ := H
  refine ⟨by rw [he o (by omega) (by omega)]; exact h1, hd, h3.eqv (fun q a b => he q (by omega) (by omega)), ⟨tp, by rw [he (o + 7) (by omega) (by omega)]; exact h4, h5⟩, by rw [he (o + 8) (by omega) (by omega)]; exact h6, ⟨kc, by rw [he (o + 9) (by omega) (by omega)]; exact h7⟩, fun j hj => ?_⟩
  by_cases q : j = m
  · subst q
    exact hw
  · exact (h8 j hj).eqv (fun q a b => he q (by omega) (by omega))

set_option maxHeartbeats 4000000 in
set_option maxRecDepth 100000 in
theorem ct_X2_fillCols (l : Launch) (D : va_G) (ids : Nat → ClassId) (H0 : Heap) (h : rl_H) (n : Nat) (o so a a1 sz1 wd wd1 : Nat) (gp : Nat → Option Nat) (P1 : Nat → Nat) (S1 : tb_S) (nd w N : Nat) (f0 f2 f3 f4 f5 f6 f8 : Int32) (ho : op_sh ids h o so gp) (ht : tb_ok ids h a wd) (hi : tb_at ids h a1 sz1 wd1 P1 S1) (hoa : o + 22 ≤ a ∨ a + 402 ≤ o) (hoi : o + 22 ≤ a1 ∨ a1 + 402 ≤ o) (hia : a1 + 402 ≤ a ∨ a + 402 ≤ a1) (hnd : h nd = some (.inr (1, [.int f0, .int (nI w), .int f2, .int f3, .int f4, .int f5, .int f6, .int (nI N), .int f8]))) (hw6 : w ≤ 6) (hN : N < 2147483648) (hdg : ∀ c, c < w → 1 ≤ N / 10 ^ c % 10 ∧ N / 10 ^ c % 10 ≤ 6) (hno : nd < o ∨ o + 22 ≤ nd) (hna : nd < a ∨ a + 402 ≤ nd) : rl_Met l (rl_e D ids H0) rl_BW rl_Ns yX2_fillCols cX2_fillCols 7 (some .boolean) ({ frames := 4, cells := 0, slots := 0, locals := 149 }) [.ref o, .ref nd, .ref a1, .ref a] h n (fun v h' n' => ∃ x : Int32, v = some (.int x) ∧ n' = n ∧ (x = nI 0 ∨ x = nI 1) ∧ (∃ gp' : Nat → Option Nat, op_sh ids h' o so gp') ∧ tb_ok ids h' a wd ∧ rl_g2 h h' o (o + 22) a (a + 402)) := by
  refine rl_Met.of (by decide +kernel) (Nat.le_of_ble_eq_true rfl) ?_
  intro X hC hB
  have loop : ∀ (m t : Nat) (o5 o6 : Option Value) (h1 : rl_H) (gp1 : Nat → Option Nat), t + m = sz1 → op_sh ids h1 o so gp1 → tb_ok ids h1 a wd → rl_g2 h h1 o (o + 22) a (a + 402) → rl_G X (rl_e D ids H0) 3 [some (.ref o), some (.ref nd), some (.ref a1), some (.ref a), some (.int (nI t)), o5, o6] [] h1 n 0 0 := by
    intro m
    induction m with
    | zero =>
      intro t o5 o6 h1 gp1 hm ho1 ht1 hf
      obtain ⟨t1, ⟨tf, t2, t3⟩, t4, t5, t6, t7⟩ := hi.eqv (h' := h1) (fun q q1 q2 => hf q (by omega) (by omega))
      refine o_iload hC dX2_fillCols_3 (by rfl) ?_
      refine o_aload_n hC dX2_fillCols_5 (by rfl) ?_
      refine o_getf hC (fX2_103 hC rfl) dX2_fillCols_6 (by repeat (first | with_reducible assumption | (rw [rl_u_s]; done) | (rw [rl_u_s]; rfl) | rw [rl_u_n (by first | with_reducible assumption | omega)])) (by first | rfl | with_reducible assumption) ?_
      refine o_icmp_ge (tgt := 98) hC dX2_fillCols_9 (by decide) (fun c_9 => ?_) (fun c_9 => ?_)
      · refine o_iconst (v := nI 1) hC dX2_fillCols_98 (by decide +kernel) ?_
        refine o_zret hC hB dX2_fillCols_99 (by first | rfl | decide +kernel) (Nat.le_of_ble_eq_true rfl) (Nat.le_of_ble_eq_true rfl) ?_
        exact ⟨_, rfl, rfl, Or.inr rfl, ⟨_, ho1⟩, ht1, hf⟩
      · exact absurd (nI_le (by omega) (by omega)) c_9
    | succ m ih =>
      intro t o5 o6 h9 gp9 hm ho9 ht9 hf9
      have loop2 : ∀ (m2 c R : Nat) (h1 : rl_H) (gp1 : Nat → Option Nat), c + m2 = w → R = N / 10 ^ c → op_sh ids h1 o so gp1 → tb_ok ids h1 a wd → rl_g2 h h1 o (o + 22) a (a + 402) → rl_G X (rl_e D ids H0) 21 [some (.ref o), some (.ref nd), some (.ref a1), some (.ref a), some (.int (nI t)), some (.int (nI R)), some (.int (nI c))] [] h1 n 0 0 := by
        intro m2
        induction m2 with
        | zero =>
          intro c R h1 gp1 hm2 hR ho1 ht1 hf
          obtain ⟨t1, ⟨tf, t2, t3⟩, t4, t5, t6, t7⟩ := hi.eqv (h' := h1) (fun q q1 q2 => hf q (by omega) (by omega))
          obtain ⟨o0, ⟨ds, od⟩, ⟨mf, mg, mk, om⟩, ⟨tp, o7, o7b⟩, o8, ⟨kc, o9⟩, ot⟩ := id ho1
          have n1 := (hf nd (by omega) (by omega)).trans hnd
          have hb := t4 t (by omega)
          obtain ⟨e1, e2, e3⟩ := t5 (P1 t) hb
          obtain ⟨sz0, P0, S0, ht0⟩ := id ht1
          refine o_iload hC dX2_fillCols_21 (by rfl) ?_
          refine o_aload_n hC dX2_fillCols_23 (by rfl) ?_
          refine o_getf hC (fX2_39 hC rfl) dX2_fillCols_24 (by repeat (first | with_reducible assumption | (rw [rl_u_s]; done) | (rw [rl_u_s]; rfl) | rw [rl_u_n (by first | with_reducible assumption | omega)])) (by first | rfl | with_reducible assumption) ?_
          refine o_icmp_ge (tgt := 68) hC dX2_fillCols_27 (by decide) (fun c_27 => ?_) (fun c_27 => ?_)
          · refine o_aload_n hC dX2_fillCols_68 (by rfl) ?_
            refine o_aload_n hC dX2_fillCols_69 (by rfl) ?_
            refine o_aload_n hC dX2_fillCols_70 (by rfl) ?_
            refine o_getf hC (fX2_35 hC rfl) dX2_fillCols_71 (by repeat (first | with_reducible assumption | (rw [rl_u_s]; done) | (rw [rl_u_s]; rfl) | rw [rl_u_n (by first | with_reducible assumption | omega)])) (by first | rfl | with_reducible assumption) ?_
            refine o_aload_n hC dX2_fillCols_74 (by rfl) ?_
            refine o_getf hC (fX2_106 hC rfl) dX2_fillCols_75 (by repeat (first | with_reducible assumption | (rw [rl_u_s]; done) | (rw [rl_u_s]; rfl) | rw [rl_u_n (by first | with_reducible assumption | omega)])) (by first | rfl | with_reducible assumption) ?_
            refine o_iload hC dX2_fillCols_78 (by rfl) ?_
            refine o_aaldN (t0 := 3) hC rfl dX2_fillCols_80 (by repeat (first | with_reducible assumption | (rw [rl_u_s]; done) | (rw [rl_u_s]; rfl) | rw [rl_u_n (by first | with_reducible assumption | omega)])) (by omega) (by decide) ?_
            rw [t3 _ (by omega)]
            show rl_G X _ _ _ (.ref _ :: _) _ _ _ _
            refine o_getf hC (fX2_116 hC rfl) dX2_fillCols_81 (by repeat (first | with_reducible assumption | (rw [rl_u_s]; done) | (rw [rl_u_s]; rfl) | rw [rl_u_n (by first | with_reducible assumption | omega)])) (by first | rfl | with_reducible assumption) ?_
            refine o_callV3 hC rl_BW_good rl_Ns_nw (by exact hB.2.2.2.2.2) YX2_put IX2_put VX2_put (mX2_99 hC) (by rw [hB.1]; exact ct_X2_put l D ids H0 _ _ o so a (a1 + 2 + 5 * P1 t + 2) (o + 9) sz0 wd _ _ P0 S0 _ _ _ ho1 ht0 o9 e3 (by omega) (by omega) (by omega) (by omega)) (by exact ho1.1) rfl rfl (Nat.le_of_ble_eq_true rfl) (by rw [hB.2.1]; first | exact Nat.le_of_ble_eq_true rfl | (dsimp only; omega)) (by rw [hB.2.1]; first | exact Nat.le_of_ble_eq_true rfl | (dsimp only; omega)) (by rw [hB.2.1]; first | exact Nat.le_of_ble_eq_true rfl | (dsimp only; omega)) (by rw [hB.2.1]; first | exact Nat.le_of_ble_eq_true rfl | (dsimp only; omega)) dX2_fillCols_84 (fun v h_84 n_84 p_84 => ?_)
            obtain ⟨x, rfl, rfl, q0, q1, q2, q3⟩ := p_84
            try dsimp only [Option.toList, List.cons_append, List.nil_append]
            refine o_if_ne (tgt := 92) hC dX2_fillCols_87 (by decide) (fun c_87 => ?_) (fun c_87 => ?_)
            · refine o_iinc hC dX2_fillCols_92 (by rfl) (rl_inc _) (Nat.le_of_ble_eq_true rfl) ?_
              refine o_goto (tgt := 3) hC dX2_fillCols_95 (by decide) ?_
              exact ih (t + 1) _ _ _ _ (by omega) q1 q2 (hf.tr (q3.wd (by omega) (by omega) (Nat.le_refl _) (Nat.le_refl _)))
            · refine o_iconst (v := nI 0) hC dX2_fillCols_90 (by decide +kernel) ?_
              refine o_zret hC hB dX2_fillCols_91 (by first | rfl | decide +kernel) (Nat.le_of_ble_eq_true rfl) (Nat.le_of_ble_eq_true rfl) ?_
              exact ⟨_, rfl, rfl, Or.inl rfl, ⟨_, q1⟩, q2, hf.tr (q3.wd (by omega) (by omega) (Nat.le_refl _) (Nat.le_refl _))⟩
          · exact absurd (nI_le (by omega) (by omega)) c_27
        | succ m2 ih2 =>
          intro c R h1 gp1 hm2 hR ho1 ht1 hf
          obtain ⟨t1, ⟨tf, t2, t3⟩, t4, t5, t6, t7⟩ := hi.eqv (h' := h1) (fun q q1 q2 => hf q (by omega) (by omega))
          obtain ⟨o0, ⟨ds, od⟩, ⟨mf, mg, mk, om⟩, ⟨tp, o7, o7b⟩, o8, ⟨kc, o9⟩, ot⟩ := id ho1
          have n1 := (hf nd (by omega) (by omega)).trans hnd
          have hb := t4 t (by omega)
          obtain ⟨e1, e2, e3⟩ := t5 (P1 t) hb
          have hR0 : R < 2147483648 := by
            rw [hR]
            exact Nat.lt_of_le_of_lt (Nat.div_le_self _ _) hN
          obtain ⟨g1, g2⟩ := hdg c (by omega)
          rw [← hR] at g1 g2
          obtain ⟨e, he⟩ : ∃ e, R % 10 = e + 1 := ⟨R % 10 - 1, by omega⟩
          have hR1 : R / 10 = N / 10 ^ (c + 1) := by rw [hR, Nat.div_div_eq_div_mul, Nat.pow_succ]
          refine o_iload hC dX2_fillCols_21 (by rfl) ?_
          refine o_aload_n hC dX2_fillCols_23 (by rfl) ?_
          refine o_getf hC (fX2_39 hC rfl) dX2_fillCols_24 (by repeat (first | with_reducible assumption | (rw [rl_u_s]; done) | (rw [rl_u_s]; rfl) | rw [rl_u_n (by first | with_reducible assumption | omega)])) (by first | rfl | with_reducible assumption) ?_
          refine o_icmp_ge (tgt := 68) hC dX2_fillCols_27 (by decide) (fun c_27 => ?_) (fun c_27 => ?_)
          · exact absurd c_27 (nI_ge (by omega) (by omega))
          · refine o_aload_n hC dX2_fillCols_30 (by rfl) ?_
            refine o_getf hC (fX2_35 hC rfl) dX2_fillCols_31 (by repeat (first | with_reducible assumption | (rw [rl_u_s]; done) | (rw [rl_u_s]; rfl) | rw [rl_u_n (by first | with_reducible assumption | omega)])) (by first | rfl | with_reducible assumption) ?_
            refine o_iload hC dX2_fillCols_34 (by rfl) ?_
            refine o_aload_n hC dX2_fillCols_36 (by rfl) ?_
            refine o_getf hC (fX2_106 hC rfl) dX2_fillCols_37 (by repeat (first | with_reducible assumption | (rw [rl_u_s]; done) | (rw [rl_u_s]; rfl) | rw [rl_u_n (by first | with_reducible assumption | omega)])) (by first | rfl | with_reducible assumption) ?_
            refine o_iload hC dX2_fillCols_40 (by rfl) ?_
            refine o_aaldN (t0 := 3) hC rfl dX2_fillCols_42 (by repeat (first | with_reducible assumption | (rw [rl_u_s]; done) | (rw [rl_u_s]; rfl) | rw [rl_u_n (by first | with_reducible assumption | omega)])) (by omega) (by decide) ?_
            rw [t3 _ (by omega)]
            show rl_G X _ _ _ (.ref _ :: _) _ _ _ _
            refine o_getf hC (fX2_109 hC rfl) dX2_fillCols_43 (by repeat (first | with_reducible assumption | (rw [rl_u_s]; done) | (rw [rl_u_s]; rfl) | rw [rl_u_n (by first | with_reducible assumption | omega)])) (by first | rfl | with_reducible assumption) ?_
            refine o_iload hC dX2_fillCols_46 (by rfl) ?_
            refine o_bipush (v := nI 10) hC dX2_fillCols_48 (by decide +kernel) ?_
            refine o_irem hC dX2_fillCols_50 (by decide +kernel) ?_
            rw [pk_rem hR0 (by decide) (by decide), he]
            refine o_iconst (v := nI 1) hC dX2_fillCols_51 (by decide +kernel) ?_
            refine o_isub hC dX2_fillCols_52 ?_
            rw [rl_pred e]
            refine o_ialdN (t0 := 0) (k := e) hC rfl dX2_fillCols_53 e2 (by omega) (by decide) ?_
            refine o_iastN (t0 := 0) (k := c) hC rfl dX2_fillCols_54 o9 (by omega) (by decide) ?_
            refine o_iload hC dX2_fillCols_55 (by rfl) ?_
            refine o_bipush (v := nI 10) hC dX2_fillCols_57 (by decide +kernel) ?_
            refine o_idiv hC dX2_fillCols_59 (by decide +kernel) ?_
            rw [pk_div hR0 (by decide) (by decide)]
            refine o_istore hC dX2_fillCols_60 (Nat.le_of_ble_eq_true rfl) ?_
            refine o_iinc hC dX2_fillCols_62 (by rfl) (rl_inc _) (Nat.le_of_ble_eq_true rfl) ?_
            refine o_goto (tgt := 21) hC dX2_fillCols_65 (by decide) ?_
            exact ih2 (c + 1) _ _ _ (by omega) hR1 (ho1.ky rl_u_s (fun q q1 q2 q3 => rl_u_n q3)) (ht1.eqv (fun q q1 q2 => rl_u_n (by omega))) (hf.tr (fun q q1 q2 => rl_u_n (by omega)))
      obtain ⟨t1, -, -, -, t6, -⟩ := hi.eqv (h' := h9) (fun q q1 q2 => hf9 q (by omega) (by omega))
      have n1 := (hf9 nd (by omega) (by omega)).trans hnd
      refine o_iload hC dX2_fillCols_3 (by rfl) ?_
      refine o_aload_n hC dX2_fillCols_5 (by rfl) ?_
      refine o_getf hC (fX2_103 hC rfl) dX2_fillCols_6 (by repeat (first | with_reducible assumption | (rw [rl_u_s]; done) | (rw [rl_u_s]; rfl) | rw [rl_u_n (by first | with_reducible assumption | omega)])) (by first | rfl | with_reducible assumption) ?_
      refine o_icmp_ge (tgt := 98) hC dX2_fillCols_9 (by decide) (fun c_9 => ?_) (fun c_9 => ?_)
      · exact absurd c_9 (nI_ge (by omega) (by omega))
      · refine o_aload_n hC dX2_fillCols_12 (by rfl) ?_
        refine o_getf hC (fX2_88 hC rfl) dX2_fillCols_13 (by repeat (first | with_reducible assumption | (rw [rl_u_s]; done) | (rw [rl_u_s]; rfl) | rw [rl_u_n (by first | with_reducible assumption | omega)])) (by first | rfl | with_reducible assumption) ?_
        refine o_istore hC dX2_fillCols_16 (Nat.le_of_ble_eq_true rfl) ?_
        refine o_iconst (v := nI 0) hC dX2_fillCols_18 (by decide +kernel) ?_
        refine o_istore hC dX2_fillCols_19 (Nat.le_of_ble_eq_true rfl) ?_
        exact loop2 w 0 N h9 gp9 (by omega) (by rw [Nat.pow_zero, Nat.div_one]) ho9 ht9 hf9
  show rl_G X (rl_e D ids H0) 0 [some (.ref o), some (.ref nd), some (.ref a1), some (.ref a), none, none, none] [] h n 0 0
  refine o_iconst (v := nI 0) hC dX2_fillCols_0 (by decide +kernel) ?_
  refine o_istore hC dX2_fillCols_1 (Nat.le_of_ble_eq_true rfl) ?_
  exact loop sz1 0 _ _ h gp (by omega) ho ht rl_g2.rf

set_option maxHeartbeats 4000000 in
set_option maxRecDepth 100000 in
theorem ct_X2_isFirstOfGroup (l : Launch) (D : va_G) (ids : Nat → ClassId) (H0 : Heap) (h : rl_H) (n : Nat) (a1 sz1 wd1 t c4 : Nat) (P1 : Nat → Nat) (S1 : tb_S) (hi : tb_at ids h a1 sz1 wd1 P1 S1) (ht : t < sz1) (h4 : c4 < 6) : rl_Met l (rl_e D ids H0) rl_BW rl_Ns yX2_isFirstOfGroup cX2_isFirstOfGroup 4 (some .boolean) ({ frames := 0, cells := 0, slots := 0, locals := 0 }) [.ref a1, .int (nI t), .int (nI c4)] h n (fun v h' n' => ∃ x : Int32, v = some (.int x) ∧ h' = h ∧ n' = n ∧ (x = nI 0 ∨ x = nI 1)) := by
  obtain ⟨t1, ⟨tf, t2, t3⟩, t4, t5, t6, t7⟩ := id hi
  refine rl_Met.of (by decide +kernel) (Nat.le_of_ble_eq_true rfl) ?_
  intro X hC hB
  have hb := t4 t (by omega)
  obtain ⟨e1, e2, e3⟩ := t5 (P1 t) hb
  have loop : ∀ (m u : Nat), u + m = t → rl_G X (rl_e D ids H0) 2 [some (.ref a1), some (.int (nI t)), some (.int (nI c4)), some (.int (nI u))] [] h n 0 0 := by
    intro m
    induction m with
    | zero =>
      intro u hm
      refine o_iload_n hC dX2_isFirstOfGroup_2 (by rfl) ?_
      refine o_iload_n hC dX2_isFirstOfGroup_3 (by rfl) ?_
      refine o_icmp_ge (tgt := 40) hC dX2_isFirstOfGroup_4 (by decide) (fun c_4 => ?_) (fun c_4 => ?_)
      · refine o_iconst (v := nI 1) hC dX2_isFirstOfGroup_40 (by decide +kernel) ?_
        refine o_zret hC hB dX2_isFirstOfGroup_41 (by first | rfl | decide +kernel) (Nat.le_of_ble_eq_true rfl) (Nat.le_of_ble_eq_true rfl) ?_
        exact ⟨_, rfl, rfl, rfl, by first | exact Or.inl rfl | exact Or.inr rfl⟩
      · exact absurd (nI_le (by omega) (by omega)) c_4
    | succ m ih =>
      intro u hm
      have hb2 := t4 u (by omega)
      obtain ⟨g1, g2, g3⟩ := t5 (P1 u) hb2
      refine o_iload_n hC dX2_isFirstOfGroup_2 (by rfl) ?_
      refine o_iload_n hC dX2_isFirstOfGroup_3 (by rfl) ?_
      refine o_icmp_ge (tgt := 40) hC dX2_isFirstOfGroup_4 (by decide) (fun c_4 => ?_) (fun c_4 => ?_)
      · exact absurd c_4 (nI_ge (by omega) (by omega))
      · refine o_aload_n hC dX2_isFirstOfGroup_7 (by rfl) ?_
        refine o_getf hC (fX2_106 hC rfl) dX2_isFirstOfGroup_8 (by repeat (first | with_reducible assumption | (rw [rl_u_s]; done) | (rw [rl_u_s]; rfl) | rw [rl_u_n (by first | with_reducible assumption | omega)])) (by first | rfl | with_reducible assumption) ?_
        refine o_iload_n hC dX2_isFirstOfGroup_11 (by rfl) ?_
        refine o_aaldN (t0 := 3) hC rfl dX2_isFirstOfGroup_12 (by repeat (first | with_reducible assumption | (rw [rl_u_s]; done) | (rw [rl_u_s]; rfl) | rw [rl_u_n (by first | with_reducible assumption | omega)])) (by omega) (by decide) ?_
        rw [t3 _ (by omega)]
        show rl_G X _ _ _ (.ref _ :: _) _ _ _ _
        refine o_getf hC (fX2_109 hC rfl) dX2_isFirstOfGroup_13 (by repeat (first | with_reducible assumption | (rw [rl_u_s]; done) | (rw [rl_u_s]; rfl) | rw [rl_u_n (by first | with_reducible assumption | omega)])) (by first | rfl | with_reducible assumption) ?_
        refine o_iload_n hC dX2_isFirstOfGroup_16 (by rfl) ?_
        refine o_ialdN (t0 := 0) (k := c4) hC rfl dX2_isFirstOfGroup_17 g2 (by omega) (by decide) ?_
        refine o_aload_n hC dX2_isFirstOfGroup_18 (by rfl) ?_
        refine o_getf hC (fX2_106 hC rfl) dX2_isFirstOfGroup_19 (by repeat (first | with_reducible assumption | (rw [rl_u_s]; done) | (rw [rl_u_s]; rfl) | rw [rl_u_n (by first | with_reducible assumption | omega)])) (by first | rfl | with_reducible assumption) ?_
        refine o_iload_n hC dX2_isFirstOfGroup_22 (by rfl) ?_
        refine o_aaldN (t0 := 3) hC rfl dX2_isFirstOfGroup_23 (by repeat (first | with_reducible assumption | (rw [rl_u_s]; done) | (rw [rl_u_s]; rfl) | rw [rl_u_n (by first | with_reducible assumption | omega)])) (by omega) (by decide) ?_
        rw [t3 _ (by omega)]
        show rl_G X _ _ _ (.ref _ :: _) _ _ _ _
        refine o_getf hC (fX2_109 hC rfl) dX2_isFirstOfGroup_24 (by repeat (first | with_reducible assumption | (rw [rl_u_s]; done) | (rw [rl_u_s]; rfl) | rw [rl_u_n (by first | with_reducible assumption | omega)])) (by first | rfl | with_reducible assumption) ?_
        refine o_iload_n hC dX2_isFirstOfGroup_27 (by rfl) ?_
        refine o_ialdN (t0 := 0) (k := c4) hC rfl dX2_isFirstOfGroup_28 e2 (by omega) (by decide) ?_
        refine o_icmp_ne (tgt := 34) hC dX2_isFirstOfGroup_29 (by decide) (fun c_29 => ?_) (fun c_29 => ?_)
        · refine o_iinc hC dX2_isFirstOfGroup_34 (by rfl) (rl_inc _) (Nat.le_of_ble_eq_true rfl) ?_
          refine o_goto (tgt := 2) hC dX2_isFirstOfGroup_37 (by decide) ?_
          exact ih (u + 1) (by omega)
        · refine o_iconst (v := nI 0) hC dX2_isFirstOfGroup_32 (by decide +kernel) ?_
          refine o_zret hC hB dX2_isFirstOfGroup_33 (by first | rfl | decide +kernel) (Nat.le_of_ble_eq_true rfl) (Nat.le_of_ble_eq_true rfl) ?_
          exact ⟨_, rfl, rfl, rfl, by first | exact Or.inl rfl | exact Or.inr rfl⟩
  show rl_G X (rl_e D ids H0) 0 [some (.ref a1), some (.int (nI t)), some (.int (nI c4)), none] [] h n 0 0
  refine o_iconst (v := nI 0) hC dX2_isFirstOfGroup_0 (by decide +kernel) ?_
  refine o_istore_n hC dX2_isFirstOfGroup_1 (Nat.le_of_ble_eq_true rfl) ?_
  exact loop t 0 (by omega)

set_option maxHeartbeats 4000000 in
set_option maxRecDepth 100000 in
theorem ct_X2_gatherGroup (l : Launch) (D : va_G) (ids : Nat → ClassId) (H0 : Heap) (h : rl_H) (n : Nat) (o so a1 sz1 wd1 t c4 : Nat) (gp : Nat → Option Nat) (P1 : Nat → Nat) (S1 : tb_S) (ho : op_sh ids h o so gp) (hi : tb_at ids h a1 sz1 wd1 P1 S1) (hoi : o + 22 ≤ a1 ∨ a1 + 402 ≤ o) (ht : t < sz1) (h4 : c4 < 6) : rl_Met l (rl_e D ids H0) rl_BW rl_Ns yX2_gatherGroup cX2_gatherGroup 6 (some .int) ({ frames := 0, cells := 0, slots := 0, locals := 0 }) [.ref o, .ref a1, .int (nI t), .int (nI c4)] h n (fun v h' n' => ∃ k : Nat, k ≤ 80 ∧ v = some (.int (nI k)) ∧ n' = n ∧ ∃ gp' : Nat → Option Nat, op_sh ids h' o so gp' ∧ (∀ j, j < k → j < 4 → ∃ i : Nat, i < 80 ∧ gp' j = some (a1 + 2 + 5 * i)) ∧ rl_fr h h' (o + 8) (o + 9)) := by
  obtain ⟨-, -, -, -, tz, -⟩ := id hi
  refine rl_Met.of (by decide +kernel) (Nat.le_of_ble_eq_true rfl) ?_
  intro X hC hB
  have loop : ∀ (m u k : Nat) (h1 : rl_H) (gp1 : Nat → Option Nat), u + m = sz1 → t ≤ u → k ≤ u → op_sh ids h1 o so gp1 → (∀ j, j < k → j < 4 → ∃ i : Nat, i < 80 ∧ gp1 j = some (a1 + 2 + 5 * i)) → rl_fr h h1 (o + 8) (o + 9) → rl_G X (rl_e D ids H0) 6 [some (.ref o), some (.ref a1), some (.int (nI t)), some (.int (nI c4)), some (.int (nI k)), some (.int (nI u))] [] h1 n 0 0 := by
    intro m
    induction m with
    | zero =>
      intro u k h1 gp1 hm htu hk ho1 hg hf
      obtain ⟨t1, ⟨tf, t2, t3⟩, t4, t5, t6, t7⟩ := hi.eqv (h' := h1) (fun q q1 q2 => hf q (by omega))
      refine o_iload hC dX2_gatherGroup_6 (by rfl) ?_
      refine o_aload_n hC dX2_gatherGroup_8 (by rfl) ?_
      refine o_getf hC (fX2_103 hC rfl) dX2_gatherGroup_9 (by repeat (first | with_reducible assumption | (rw [rl_u_s]; done) | (rw [rl_u_s]; rfl) | rw [rl_u_n (by first | with_reducible assumption | omega)])) (by first | rfl | with_reducible assumption) ?_
      refine o_icmp_ge (tgt := 70) hC dX2_gatherGroup_12 (by decide) (fun c_12 => ?_) (fun c_12 => ?_)
      · refine o_iload hC dX2_gatherGroup_70 (by rfl) ?_
        refine o_iret hC hB dX2_gatherGroup_72 (Nat.le_of_ble_eq_true rfl) (Nat.le_of_ble_eq_true rfl) ?_
        exact ⟨k, by omega, rfl, rfl, gp1, ho1, hg, hf⟩
      · exact absurd (nI_le (by omega) (by omega)) c_12
    | succ m ih =>
      intro u k h1 gp1 hm htu hk ho1 hg hf
      obtain ⟨t1, ⟨tf, t2, t3⟩, t4, t5, t6, t7⟩ := hi.eqv (h' := h1) (fun q q1 q2 => hf q (by omega))
      obtain ⟨o0, -, -, -, o8, -, -⟩ := id ho1
      have hb := t4 t (by omega)
      obtain ⟨e1, e2, e3⟩ := t5 (P1 t) hb
      have hb2 := t4 u (by omega)
      obtain ⟨g1, g2, g3⟩ := t5 (P1 u) hb2
      refine o_iload hC dX2_gatherGroup_6 (by rfl) ?_
      refine o_aload_n hC dX2_gatherGroup_8 (by rfl) ?_
      refine o_getf hC (fX2_103 hC rfl) dX2_gatherGroup_9 (by repeat (first | with_reducible assumption | (rw [rl_u_s]; done) | (rw [rl_u_s]; rfl) | rw [rl_u_n (by first | with_reducible assumption | omega)])) (by first | rfl | with_reducible assumption) ?_
      refine o_icmp_ge (tgt := 70) hC dX2_gatherGroup_12 (by decide) (fun c_12 => ?_) (fun c_12 => ?_)
      · exact absurd c_12 (nI_ge (by omega) (by omega))
      · refine o_aload_n hC dX2_gatherGroup_15 (by rfl) ?_
        refine o_getf hC (fX2_106 hC rfl) dX2_gatherGroup_16 (by repeat (first | with_reducible assumption | (rw [rl_u_s]; done) | (rw [rl_u_s]; rfl) | rw [rl_u_n (by first | with_reducible assumption | omega)])) (by first | rfl | with_reducible assumption) ?_
        refine o_iload hC dX2_gatherGroup_19 (by rfl) ?_
        refine o_aaldN (t0 := 3) hC rfl dX2_gatherGroup_21 (by repeat (first | with_reducible assumption | (rw [rl_u_s]; done) | (rw [rl_u_s]; rfl) | rw [rl_u_n (by first | with_reducible assumption | omega)])) (by omega) (by decide) ?_
        rw [t3 _ (by omega)]
        show rl_G X _ _ _ (.ref _ :: _) _ _ _ _
        refine o_getf hC (fX2_109 hC rfl) dX2_gatherGroup_22 (by repeat (first | with_reducible assumption | (rw [rl_u_s]; done) | (rw [rl_u_s]; rfl) | rw [rl_u_n (by first | with_reducible assumption | omega)])) (by first | rfl | with_reducible assumption) ?_
        refine o_iload_n hC dX2_gatherGroup_25 (by rfl) ?_
        refine o_ialdN (t0 := 0) (k := c4) hC rfl dX2_gatherGroup_26 g2 (by omega) (by decide) ?_
        refine o_aload_n hC dX2_gatherGroup_27 (by rfl) ?_
        refine o_getf hC (fX2_106 hC rfl) dX2_gatherGroup_28 (by repeat (first | with_reducible assumption | (rw [rl_u_s]; done) | (rw [rl_u_s]; rfl) | rw [rl_u_n (by first | with_reducible assumption | omega)])) (by first | rfl | with_reducible assumption) ?_
        refine o_iload_n hC dX2_gatherGroup_31 (by rfl) ?_
        refine o_aaldN (t0 := 3) hC rfl dX2_gatherGroup_32 (by repeat (first | with_reducible assumption | (rw [rl_u_s]; done) | (rw [rl_u_s]; rfl) | rw [rl_u_n (by first | with_reducible assumption | omega)])) (by omega) (by decide) ?_
        rw [t3 _ (by omega)]
        show rl_G X _ _ _ (.ref _ :: _) _ _ _ _
        refine o_getf hC (fX2_109 hC rfl) dX2_gatherGroup_33 (by repeat (first | with_reducible assumption | (rw [rl_u_s]; done) | (rw [rl_u_s]; rfl) | rw [rl_u_n (by first | with_reducible assumption | omega)])) (by first | rfl | with_reducible assumption) ?_
        refine o_iload_n hC dX2_gatherGroup_36 (by rfl) ?_
        refine o_ialdN (t0 := 0) (k := c4) hC rfl dX2_gatherGroup_37 e2 (by omega) (by decide) ?_
        refine o_icmp_ne (tgt := 64) hC dX2_gatherGroup_38 (by decide) (fun c_38 => ?_) (fun c_38 => ?_)
        · refine o_iinc hC dX2_gatherGroup_64 (by rfl) (rl_inc _) (Nat.le_of_ble_eq_true rfl) ?_
          refine o_goto (tgt := 6) hC dX2_gatherGroup_67 (by decide) ?_
          first
          | exact ih (u + 1) (k + 1) _ _ (by omega) (by omega) (by omega) (ho1.gr rl_u_s (fun q q1 q2 q3 => rl_u_n q3)) (fun j j1 j2 => by
              unfold va_up
              by_cases q : j = k
              · rw [if_pos q]
                exact ⟨P1 u, hb2, rfl⟩
              · rw [if_neg q]
                exact hg j (by omega) j2) (fun q hq => by rw [rl_u_n (by omega)]; exact hf q hq)
          | exact ih (u + 1) (k + 1) _ _ (by omega) (by omega) (by omega) ho1 (fun j j1 j2 => hg j (by have : ¬ k < 4 := fun q => nI_ge q (by decide) c_44; omega) j2) hf
          | exact ih (u + 1) k _ _ (by omega) (by omega) (by omega) ho1 hg hf
        · refine o_iload hC dX2_gatherGroup_41 (by rfl) ?_
          refine o_iconst (v := nI 4) hC dX2_gatherGroup_43 (by decide +kernel) ?_
          refine o_icmp_ge (tgt := 61) hC dX2_gatherGroup_44 (by decide) (fun c_44 => ?_) (fun c_44 => ?_)
          · refine o_iinc hC dX2_gatherGroup_61 (by rfl) (rl_inc _) (Nat.le_of_ble_eq_true rfl) ?_
            refine o_iinc hC dX2_gatherGroup_64 (by rfl) (rl_inc _) (Nat.le_of_ble_eq_true rfl) ?_
            refine o_goto (tgt := 6) hC dX2_gatherGroup_67 (by decide) ?_
            first
            | exact ih (u + 1) (k + 1) _ _ (by omega) (by omega) (by omega) (ho1.gr rl_u_s (fun q q1 q2 q3 => rl_u_n q3)) (fun j j1 j2 => by
                unfold va_up
                by_cases q : j = k
                · rw [if_pos q]
                  exact ⟨P1 u, hb2, rfl⟩
                · rw [if_neg q]
                  exact hg j (by omega) j2) (fun q hq => by rw [rl_u_n (by omega)]; exact hf q hq)
            | exact ih (u + 1) (k + 1) _ _ (by omega) (by omega) (by omega) ho1 (fun j j1 j2 => hg j (by have : ¬ k < 4 := fun q => nI_ge q (by decide) c_44; omega) j2) hf
            | exact ih (u + 1) k _ _ (by omega) (by omega) (by omega) ho1 hg hf
          · refine o_aload_n hC dX2_gatherGroup_47 (by rfl) ?_
            refine o_getf hC (fX2_31 hC rfl) dX2_gatherGroup_48 (by repeat (first | with_reducible assumption | (rw [rl_u_s]; done) | (rw [rl_u_s]; rfl) | rw [rl_u_n (by first | with_reducible assumption | omega)])) (by first | rfl | with_reducible assumption) ?_
            refine o_iload hC dX2_gatherGroup_51 (by rfl) ?_
            refine o_aload_n hC dX2_gatherGroup_53 (by rfl) ?_
            refine o_getf hC (fX2_106 hC rfl) dX2_gatherGroup_54 (by repeat (first | with_reducible assumption | (rw [rl_u_s]; done) | (rw [rl_u_s]; rfl) | rw [rl_u_n (by first | with_reducible assumption | omega)])) (by first | rfl | with_reducible assumption) ?_
            refine o_iload hC dX2_gatherGroup_57 (by rfl) ?_
            refine o_aaldN (t0 := 3) hC rfl dX2_gatherGroup_59 (by repeat (first | with_reducible assumption | (rw [rl_u_s]; done) | (rw [rl_u_s]; rfl) | rw [rl_u_n (by first | with_reducible assumption | omega)])) (by omega) (by decide) ?_
            rw [t3 _ (by omega)]
            show rl_G X _ _ _ (.ref _ :: _) _ _ _ _
            refine o_aastN (t0 := 3) hC rfl rfl dX2_gatherGroup_60 o8 g1 (by rcases Nat.lt_or_ge k 4 with q | q; exact q; exact absurd (nI_le q (by omega)) c_44) (by decide) ?_
            refine o_iinc hC dX2_gatherGroup_61 (by rfl) (rl_inc _) (Nat.le_of_ble_eq_true rfl) ?_
            refine o_iinc hC dX2_gatherGroup_64 (by rfl) (rl_inc _) (Nat.le_of_ble_eq_true rfl) ?_
            refine o_goto (tgt := 6) hC dX2_gatherGroup_67 (by decide) ?_
            first
            | exact ih (u + 1) (k + 1) _ _ (by omega) (by omega) (by omega) (ho1.gr rl_u_s (fun q q1 q2 q3 => rl_u_n q3)) (fun j j1 j2 => by
                unfold va_up
                by_cases q : j = k
                · rw [if_pos q]
                  exact ⟨P1 u, hb2, rfl⟩
                · rw [if_neg q]
                  exact hg j (by omega) j2) (fun q hq => by rw [rl_u_n (by omega)]; exact hf q hq)
            | exact ih (u + 1) (k + 1) _ _ (by omega) (by omega) (by omega) ho1 (fun j j1 j2 => hg j (by have : ¬ k < 4 := fun q => nI_ge q (by decide) c_44; omega) j2) hf
            | exact ih (u + 1) k _ _ (by omega) (by omega) (by omega) ho1 hg hf
  show rl_G X (rl_e D ids H0) 0 [some (.ref o), some (.ref a1), some (.int (nI t)), some (.int (nI c4)), none, none] [] h n 0 0
  refine o_iconst (v := nI 0) hC dX2_gatherGroup_0 (by decide +kernel) ?_
  refine o_istore hC dX2_gatherGroup_1 (Nat.le_of_ble_eq_true rfl) ?_
  refine o_iload_n hC dX2_gatherGroup_3 (by rfl) ?_
  refine o_istore hC dX2_gatherGroup_4 (Nat.le_of_ble_eq_true rfl) ?_
  exact loop (sz1 - t) t 0 h gp (by omega) (Nat.le_refl _) (Nat.zero_le _) ho (fun j j1 _ => absurd j1 (by omega)) rl_fr.rf
