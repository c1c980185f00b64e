/-! THE CLASS, functionally: JOIN, MINUS -/
theorem getD_rcl {f : Nat → Int32} {w : Nat} {l : List Int32} (h : rcl f w = l) {i : Nat} (hi : i < w) : f i = l.getD i 0 := by
  rw [← h, rsg_get hi]
theorem join_key {f g k0 : Nat → Int32} {w1 w2 : Nat} {A B : List Int32} (h1 : rcl f w1 = A) (h2 : rcl g w2 = B) : rcl (va_cpy g (va_cpy f k0 0 0 w1) 0 w1 w2) (w1 + w2) = A ++ B := by
  have l1 : A.length = w1 := by rw [← h1, rsg_len]
  have l2 : B.length = w2 := by rw [← h2, rsg_len]
  have := rcl_app (f := va_cpy g (va_cpy f k0 0 0 w1) 0 w1 w2) (X := A) (Y := B) (fun i hi => ?_) (fun i hi => ?_)
  · rw [l1, l2] at this
    exact this
  · unfold va_cpy
    rw [if_neg (by omega), if_pos (by omega), Nat.zero_add, Nat.sub_zero]
    exact getD_rcl h1 (by omega)
  · unfold va_cpy
    rw [if_pos (by omega), show 0 + (A.length + i - w1) = i by omega]
    exact getD_rcl h2 (by omega)
/-- the WAYS that a table has for a key -/
def afd (td : List arow) (key : List Int32) : Option (List tT) := if 0 < afb td key ∧ lcm2 (ark td (afb td key - 1)).1 key = 0 then some (ark td (afb td key - 1)).2 else none
/-- what MINUS makes of a TUPLE's WAYS -/
def mno (U : List tT) : Option (List tT) → Option (List tT)
  | none => some U
  | some K => (wno K [(0, 0)]).bind (fun W => wst (tbo U W))

set_option maxHeartbeats 4000000 in
set_option maxRecDepth 100000 in
theorem cp_X2_putPair (l : Launch) (D : va_G) (ids : Nat → ClassId) (H0 : Heap) (h : rl_H) (n : Nat) (o so a a1 wd wd1 : Nat) (gp : Nat → Option Nat) (tab tb : List arow) (a2 wd2 t u : Nat) (td : List arow) (ho : op_sh ids h o so gp) (ht : ctb ids h a wd tab) (hok : aok wd tab) (hi : ctb ids h a1 wd1 tb) (hbk : aok wd1 tb) (hoa : o + 22 ≤ a ∨ a + 402 ≤ o) (hoi : o + 22 ≤ a1 ∨ a1 + 402 ≤ o) (hia : a1 + 402 ≤ a ∨ a + 402 ≤ a1) (hj : ctb ids h a2 wd2 td) (hdk : aok wd2 td) (hoj : o + 22 ≤ a2 ∨ a2 + 402 ≤ o) (hja : a2 + 402 ≤ a ∨ a + 402 ≤ a2) (ht1 : t < tb.length) (hu1 : u < td.length) (hwd : wd = wd1 + wd2) (hwd6 : wd1 + wd2 ≤ 6) : rl_Met l (rl_e D ids H0) rl_BW rl_Ns yX2_putPair cX2_putPair 6 (some .boolean) ({ frames := 4, cells := 0, slots := 0, locals := 149 }) [.ref o, .ref a1, .int (nI t), .ref a2, .int (nI u), .ref a] h n (fun v h' n' => ∃ x : Int32, v = some (.int x) ∧ n' = n ∧ (∃ gp' : Nat → Option Nat, op_sh ids h' o so gp') ∧ rl_g2 h h' o (o + 22) a (a + 402) ∧ pres ids h' a wd ((wst (tbo (ark tb t).2 (ark td u).2)).bind (aput tab ((ark tb t).1 ++ (ark td u).1))) x) := by
  obtain ⟨P1, S1, hi0, hP1, hrow1⟩ := id hi
  have tl80 := hbk.2.2
  obtain ⟨P2, S2, hj0, hP2, hrow2⟩ := id hj
  have tl81 := hdk.2.2
  obtain ⟨o0, ⟨ds, od⟩, ⟨mf0, mg0, mk0, om⟩, ⟨tp, o7, o7b⟩, o8, ⟨kc, o9⟩, ot⟩ := id ho
  obtain ⟨t1, ⟨tf, t2, t3⟩, t4, t5, t6, t7⟩ := id hi0
  obtain ⟨j1, ⟨jf, j2, j3⟩, j4, j5, j6, j7⟩ := id hj0
  have hb := t4 t (by omega)
  have hb2 := j4 u (by omega)
  obtain ⟨e1, e2, e3⟩ := t5 (P1 t) hb
  obtain ⟨g1, g2, g3⟩ := j5 (P2 u) hb2
  have er := hrow1 t ht1
  have es := hrow2 u hu1
  refine rl_Met.of (by decide +kernel) (Nat.le_of_ble_eq_true rfl) ?_
  intro X hC hB
  show rl_G X (rl_e D ids H0) 0 [some (.ref o), some (.ref a1), some (.int (nI t)), some (.ref a2), some (.int (nI u)), some (.ref a)] [] h n 0 0
  refine o_aload_n hC dX2_putPair_0 (by rfl) ?_
  refine o_getf hC (fX2_106 hC rfl) dX2_putPair_1 (by repeat (first | with_reducible assumption | (rw [rl_u_s]; done) | (rw [rl_u_s]; rfl) | rw [rl_u_n (by first | with_reducible assumption | omega)])) (by first | rfl | with_reducible assumption) ?_
  refine o_iload_n hC dX2_putPair_4 (by rfl) ?_
  refine o_aaldN (t0 := 3) hC rfl dX2_putPair_5 (by repeat (first | with_reducible assumption | (rw [rl_u_s]; done) | (rw [rl_u_s]; rfl) | rw [rl_u_n (by first | with_reducible assumption | omega)])) (by omega) (by decide) ?_
  rw [t3 _ (by omega)]
  show rl_G X _ _ _ (.ref _ :: _) _ _ _ _
  refine o_getf hC (fX2_109 hC rfl) dX2_putPair_6 (by repeat (first | with_reducible assumption | (rw [rl_u_s]; done) | (rw [rl_u_s]; rfl) | rw [rl_u_n (by first | with_reducible assumption | omega)])) (by first | rfl | with_reducible assumption) ?_
  refine o_iconst (v := nI 0) hC dX2_putPair_9 (by decide +kernel) ?_
  refine o_aload_n hC dX2_putPair_10 (by rfl) ?_
  refine o_getf hC (fX2_35 hC rfl) dX2_putPair_11 (by repeat (first | with_reducible assumption | (rw [rl_u_s]; done) | (rw [rl_u_s]; rfl) | rw [rl_u_n (by first | with_reducible assumption | omega)])) (by first | rfl | with_reducible assumption) ?_
  refine o_iconst (v := nI 0) hC dX2_putPair_14 (by decide +kernel) ?_
  refine o_aload_n hC dX2_putPair_15 (by rfl) ?_
  refine o_getf hC (fX2_132 hC rfl) dX2_putPair_16 (by repeat (first | with_reducible assumption | (rw [rl_u_s]; done) | (rw [rl_u_s]; rfl) | rw [rl_u_n (by first | with_reducible assumption | omega)])) (by first | rfl | with_reducible assumption) ?_
  refine o_copyi (t0 := 0) (sp := 0) (dp := 0) (k := wd1) hC (by exact hB.2.2.2.2.2) acX2_133 w_acN w_acS w_acI rfl rfl dX2_putPair_19 e2 o9 (by omega) (by omega) (by decide) (by decide) (by rw [hB.2.1]; first | exact Nat.le_of_ble_eq_true rfl | (dsimp only; omega)) (by rw [hB.2.1]; first | exact Nat.le_of_ble_eq_true rfl | (dsimp only; omega)) ?_
  refine o_aload_n hC dX2_putPair_22 (by rfl) ?_
  refine o_getf hC (fX2_106 hC rfl) dX2_putPair_23 (by repeat (first | with_reducible assumption | (rw [rl_u_s]; done) | (rw [rl_u_s]; rfl) | rw [rl_u_n (by first | with_reducible assumption | omega)])) (by first | rfl | with_reducible assumption) ?_
  refine o_iload hC dX2_putPair_26 (by rfl) ?_
  refine o_aaldN (t0 := 3) hC rfl dX2_putPair_28 (by repeat (first | with_reducible assumption | (rw [rl_u_s]; done) | (rw [rl_u_s]; rfl) | rw [rl_u_n (by first | with_reducible assumption | omega)])) (by omega) (by decide) ?_
  rw [j3 _ (by omega)]
  show rl_G X _ _ _ (.ref _ :: _) _ _ _ _
  refine o_getf hC (fX2_109 hC rfl) dX2_putPair_29 (by repeat (first | with_reducible assumption | (rw [rl_u_s]; done) | (rw [rl_u_s]; rfl) | rw [rl_u_n (by first | with_reducible assumption | omega)])) (by first | rfl | with_reducible assumption) ?_
  refine o_iconst (v := nI 0) hC dX2_putPair_32 (by decide +kernel) ?_
  refine o_aload_n hC dX2_putPair_33 (by rfl) ?_
  refine o_getf hC (fX2_35 hC rfl) dX2_putPair_34 (by repeat (first | with_reducible assumption | (rw [rl_u_s]; done) | (rw [rl_u_s]; rfl) | rw [rl_u_n (by first | with_reducible assumption | omega)])) (by first | rfl | with_reducible assumption) ?_
  refine o_aload_n hC dX2_putPair_37 (by rfl) ?_
  refine o_getf hC (fX2_132 hC rfl) dX2_putPair_38 (by repeat (first | with_reducible assumption | (rw [rl_u_s]; done) | (rw [rl_u_s]; rfl) | rw [rl_u_n (by first | with_reducible assumption | omega)])) (by first | rfl | with_reducible assumption) ?_
  refine o_aload_n hC dX2_putPair_41 (by rfl) ?_
  refine o_getf hC (fX2_132 hC rfl) dX2_putPair_42 (by repeat (first | with_reducible assumption | (rw [rl_u_s]; done) | (rw [rl_u_s]; rfl) | rw [rl_u_n (by first | with_reducible assumption | omega)])) (by first | rfl | with_reducible assumption) ?_
  refine o_copyi (t0 := 0) (sp := 0) (dp := wd1) (k := wd2) hC (by exact hB.2.2.2.2.2) acX2_133 w_acN w_acS w_acI rfl rfl dX2_putPair_45 (by repeat (first | with_reducible assumption | (rw [rl_u_s]; done) | (rw [rl_u_s]; rfl) | rw [rl_u_n (by first | with_reducible assumption | omega)])) rl_u_s (by omega) (by omega) (by decide) (by decide) (by rw [hB.2.1]; first | exact Nat.le_of_ble_eq_true rfl | (dsimp only; omega)) (by rw [hB.2.1]; first | exact Nat.le_of_ble_eq_true rfl | (dsimp only; omega)) ?_
  have f9 : ∀ q, q ≠ o + 9 → (rl_u (rl_u h (o + 9) (.inl (ids 0, 6, .inl (va_cpy (S1.1 (P1 t)) kc 0 0 wd1)))) (o + 9) (.inl (ids 0, 6, .inl (va_cpy (S2.1 (P2 u)) (va_cpy (S1.1 (P1 t)) kc 0 0 wd1) 0 wd1 wd2)))) q = h q := fun q hq => by rw [rl_u_n hq, rl_u_n hq]
  have k9 : (rl_u (rl_u h (o + 9) (.inl (ids 0, 6, .inl (va_cpy (S1.1 (P1 t)) kc 0 0 wd1)))) (o + 9) (.inl (ids 0, 6, .inl (va_cpy (S2.1 (P2 u)) (va_cpy (S1.1 (P1 t)) kc 0 0 wd1) 0 wd1 wd2)))) (o + 9) = some (.inl (ids 0, 6, .inl (va_cpy (S2.1 (P2 u)) (va_cpy (S1.1 (P1 t)) kc 0 0 wd1) 0 wd1 wd2))) := rl_u_s
  generalize (rl_u (rl_u h (o + 9) (.inl (ids 0, 6, .inl (va_cpy (S1.1 (P1 t)) kc 0 0 wd1)))) (o + 9) (.inl (ids 0, 6, .inl (va_cpy (S2.1 (P2 u)) (va_cpy (S1.1 (P1 t)) kc 0 0 wd1) 0 wd1 wd2)))) = hh at f9 k9 ⊢
  have ho2 : op_sh ids hh o so gp := ho.ky k9 (fun q q1 q2 q3 => f9 q q3)
  obtain ⟨z0, ⟨zs, zd⟩, ⟨zf, zg, zk, zm⟩, -, -, -, -⟩ := id ho2
  have ht2 := ht.eqv (h' := hh) (fun q q1 q2 => f9 q (by omega))
  obtain ⟨b1, ⟨bf, b2, b3⟩, b4, b5, -⟩ := hi0.eqv (h' := hh) (fun q q1 q2 => f9 q (by omega))
  obtain ⟨d1, ⟨df, d2, d3⟩, d4, d5, -⟩ := hj0.eqv (h' := hh) (fun q q1 q2 => f9 q (by omega))
  obtain ⟨x1, x2, x3⟩ := b5 (P1 t) hb
  obtain ⟨y1, y2, y3⟩ := d5 (P2 u) hb2
  refine o_aload_n hC dX2_putPair_48 (by rfl) ?_
  refine o_getf hC (fX2_12 hC rfl) dX2_putPair_49 (by repeat (first | with_reducible assumption | (rw [rl_u_s]; done) | (rw [rl_u_s]; rfl) | rw [rl_u_n (by first | with_reducible assumption | omega)])) (by first | rfl | with_reducible assumption) ?_
  refine o_aload_n hC dX2_putPair_52 (by rfl) ?_
  refine o_getf hC (fX2_106 hC rfl) dX2_putPair_53 (by repeat (first | with_reducible assumption | (rw [rl_u_s]; done) | (rw [rl_u_s]; rfl) | rw [rl_u_n (by first | with_reducible assumption | omega)])) (by first | rfl | with_reducible assumption) ?_
  refine o_iload_n hC dX2_putPair_56 (by rfl) ?_
  refine o_aaldN (t0 := 3) hC rfl dX2_putPair_57 (by repeat (first | with_reducible assumption | (rw [rl_u_s]; done) | (rw [rl_u_s]; rfl) | rw [rl_u_n (by first | with_reducible assumption | omega)])) (by omega) (by decide) ?_
  rw [b3 _ (by omega)]
  show rl_G X _ _ _ (.ref _ :: _) _ _ _ _
  refine o_getf hC (fX2_116 hC rfl) dX2_putPair_58 (by repeat (first | with_reducible assumption | (rw [rl_u_s]; done) | (rw [rl_u_s]; rfl) | rw [rl_u_n (by first | with_reducible assumption | omega)])) (by first | rfl | with_reducible assumption) ?_
  refine o_aload_n hC dX2_putPair_61 (by rfl) ?_
  refine o_getf hC (fX2_106 hC rfl) dX2_putPair_62 (by repeat (first | with_reducible assumption | (rw [rl_u_s]; done) | (rw [rl_u_s]; rfl) | rw [rl_u_n (by first | with_reducible assumption | omega)])) (by first | rfl | with_reducible assumption) ?_
  refine o_iload hC dX2_putPair_65 (by rfl) ?_
  refine o_aaldN (t0 := 3) hC rfl dX2_putPair_67 (by repeat (first | with_reducible assumption | (rw [rl_u_s]; done) | (rw [rl_u_s]; rfl) | rw [rl_u_n (by first | with_reducible assumption | omega)])) (by omega) (by decide) ?_
  rw [d3 _ (by omega)]
  show rl_G X _ _ _ (.ref _ :: _) _ _ _ _
  refine o_getf hC (fX2_116 hC rfl) dX2_putPair_68 (by repeat (first | with_reducible assumption | (rw [rl_u_s]; done) | (rw [rl_u_s]; rfl) | rw [rl_u_n (by first | with_reducible assumption | omega)])) (by first | rfl | with_reducible assumption) ?_
  refine o_aload_n hC dX2_putPair_71 (by rfl) ?_
  refine o_getf hC (fX2_21 hC rfl) dX2_putPair_72 (by repeat (first | with_reducible assumption | (rw [rl_u_s]; done) | (rw [rl_u_s]; rfl) | rw [rl_u_n (by first | with_reducible assumption | omega)])) (by first | rfl | with_reducible assumption) ?_
  refine o_callV3 hC rl_BW_good rl_Ns_nw (by exact hB.2.2.2.2.2) YX0_both IX0_both VX0_both (mX2_139 hC) (by rw [hB.1]; exact ct_X0_both l D ids H0 _ _ (o + 1) (a1 + 2 + 5 * P1 t + 2) (a2 + 2 + 5 * P2 u + 2) (o + 4) _ _ _ _ _ _ _ _ _ _ zd x3 y3 zm (by omega) (by omega) (by omega)) (by exact zd.1) rfl rfl (Nat.le_of_ble_eq_true rfl) (by rw [hB.2.1]; first | exact Nat.le_of_ble_eq_true rfl | (dsimp only; omega)) (by rw [hB.2.1]; first | exact Nat.le_of_ble_eq_true rfl | (dsimp only; omega)) (by rw [hB.2.1]; first | exact Nat.le_of_ble_eq_true rfl | (dsimp only; omega)) (by rw [hB.2.1]; first | exact Nat.le_of_ble_eq_true rfl | (dsimp only; omega)) dX2_putPair_75 (fun v h_75 n_75 p_75 => ?_)
  obtain ⟨x0, rfl, rfl, s1⟩ := p_75
  have s2 := s1.f2
  have w0 := bo_out (show tls (S1.2.1 (P1 t)) (S1.2.2.1 (P1 t)) (S1.2.2.2 (P1 t)) = (ark tb t).2 from congrArg Prod.snd er) (show tls (S2.2.1 (P2 u)) (S2.2.2.1 (P2 u)) (S2.2.2.2 (P2 u)) = (ark td u).2 from congrArg Prod.snd es) x3.2.2.2 y3.2.2.2 s1
  have ho3 : op_sh ids h_75 o so gp := ho2.mk ⟨_, s1.1⟩ (s1.ws zm (by omega)) (fun q q1 q2 q3 => s2 q (by omega) (by omega))
  have ht3 := ht2.eqv (h' := h_75) (fun q q1 q2 => s2 q (by omega) (by omega))
  have o3 := ho3.1
  have k3 := (s2 (o + 9) (by omega) (by omega)).trans k9
  try dsimp only [Option.toList, List.cons_append, List.nil_append]
  refine o_if_eq (tgt := 102) hC dX2_putPair_78 (by decide) (fun c_78 => ?_) (fun c_78 => ?_)
  · refine o_iconst (v := nI 0) hC dX2_putPair_102 (by decide +kernel) ?_
    refine o_zret hC hB dX2_putPair_103 (by first | rfl | decide +kernel) (Nat.le_of_ble_eq_true rfl) (Nat.le_of_ble_eq_true rfl) ?_
    rcases w0 with ⟨L3, z1, z2, -⟩ | ⟨z1, z2⟩
    · exact absurd (c_78.symm.trans z2) (by decide +kernel)
    · exact ⟨_, rfl, rfl, ⟨_, ho3⟩, fun q z1 z2 => (s2 q (by omega) (by omega)).trans (f9 q (by omega)), Or.inr ⟨by rw [z1]; rfl, rfl, ht3.ti⟩⟩
  · rcases w0 with ⟨L3, z1, z2, z3⟩ | ⟨-, z2⟩
    rotate_left
    · exact absurd z2 c_78
    refine o_aload_n hC dX2_putPair_81 (by rfl) ?_
    refine o_aload hC dX2_putPair_82 (by rfl) ?_
    refine o_aload_n hC dX2_putPair_84 (by rfl) ?_
    refine o_getf hC (fX2_35 hC rfl) dX2_putPair_85 (by repeat (first | with_reducible assumption | (rw [rl_u_s]; done) | (rw [rl_u_s]; rfl) | rw [rl_u_n (by first | with_reducible assumption | omega)])) (by first | rfl | with_reducible assumption) ?_
    refine o_aload_n hC dX2_putPair_88 (by rfl) ?_
    refine o_getf hC (fX2_21 hC rfl) dX2_putPair_89 (by repeat (first | with_reducible assumption | (rw [rl_u_s]; done) | (rw [rl_u_s]; rfl) | rw [rl_u_n (by first | with_reducible assumption | omega)])) (by first | rfl | with_reducible assumption) ?_
    refine o_callV3 hC rl_BW_good rl_Ns_nw (by exact hB.2.2.2.2.2) YX2_put IX2_put VX2_put (mX2_99 hC) (by rw [hB.1]; exact cp_X2_put l D ids H0 _ _ o so a (o + 4) (o + 9) wd _ _ _ _ ho3 ht3 hok k3 z3 (wst_ok z1) (by omega) (by omega) (by omega) (by omega)) (by exact ho3.1) rfl rfl (Nat.le_of_ble_eq_true rfl) (by rw [hB.2.1]; first | exact Nat.le_of_ble_eq_true rfl | (dsimp only; omega)) (by rw [hB.2.1]; first | exact Nat.le_of_ble_eq_true rfl | (dsimp only; omega)) (by rw [hB.2.1]; first | exact Nat.le_of_ble_eq_true rfl | (dsimp only; omega)) (by rw [hB.2.1]; first | exact Nat.le_of_ble_eq_true rfl | (dsimp only; omega)) dX2_putPair_92 (fun v h_92 n_92 p_92 => ?_)
    obtain ⟨x, rfl, rfl, q1, q3, q2⟩ := p_92
    rw [hwd, join_key (show rcl (S1.1 (P1 t)) wd1 = (ark tb t).1 from congrArg Prod.fst er) (show rcl (S2.1 (P2 u)) wd2 = (ark td u).1 from congrArg Prod.fst es), ← hwd] at q2
    try dsimp only [Option.toList, List.cons_append, List.nil_append]
    refine o_if_eq (tgt := 102) hC dX2_putPair_95 (by decide) (fun c_95 => ?_) (fun c_95 => ?_)
    · refine o_iconst (v := nI 0) hC dX2_putPair_102 (by decide +kernel) ?_
      refine o_zret hC hB dX2_putPair_103 (by first | rfl | decide +kernel) (Nat.le_of_ble_eq_true rfl) (Nat.le_of_ble_eq_true rfl) ?_
      rcases q2 with ⟨tab2, v1, v2, -, -⟩ | ⟨v1, v2, v3⟩
      · exact absurd (c_95.symm.trans v2) (by decide +kernel)
      · exact ⟨_, rfl, rfl, ⟨_, q1⟩, fun q z1 z2 => (q3 q (by omega) (by omega)).trans ((s2 q (by omega) (by omega)).trans (f9 q (by omega))), Or.inr ⟨by rw [z1]; exact v1, rfl, v3⟩⟩
    · refine o_iconst (v := nI 1) hC dX2_putPair_98 (by decide +kernel) ?_
      refine o_goto (tgt := 103) hC dX2_putPair_99 (by decide) ?_
      refine o_zret hC hB dX2_putPair_103 (by first | rfl | decide +kernel) (Nat.le_of_ble_eq_true rfl) (Nat.le_of_ble_eq_true rfl) ?_
      rcases q2 with ⟨tab2, v1, v2, v3, v4⟩ | ⟨-, v2, -⟩
      · exact ⟨_, rfl, rfl, ⟨_, q1⟩, fun q z1 z2 => (q3 q (by omega) (by omega)).trans ((s2 q (by omega) (by omega)).trans (f9 q (by omega))), Or.inl ⟨tab2, by rw [z1]; exact v1, rfl, v3, v4⟩⟩
      · exact absurd v2 c_95

set_option maxHeartbeats 4000000 in
set_option maxRecDepth 100000 in
theorem cp_X2_fillJoin (l : Launch) (D : va_G) (ids : Nat → ClassId) (H0 : Heap) (h : rl_H) (n : Nat) (o so a a1 wd wd1 : Nat) (gp : Nat → Option Nat) (tab tb : List arow) (a2 wd2 nd c4 c5 : Nat) (td : List arow) (f0 f1 f2 f3 f6 f7 f8 : Int32) (ho : op_sh ids h o so gp) (ht : ctb ids h a wd tab) (hok : aok wd tab) (hi : ctb ids h a1 wd1 tb) (hbk : aok wd1 tb) (hoa : o + 22 ≤ a ∨ a + 402 ≤ o) (hoi : o + 22 ≤ a1 ∨ a1 + 402 ≤ o) (hia : a1 + 402 ≤ a ∨ a + 402 ≤ a1) (hj : ctb ids h a2 wd2 td) (hdk : aok wd2 td) (hoj : o + 22 ≤ a2 ∨ a2 + 402 ≤ o) (hja : a2 + 402 ≤ a ∨ a + 402 ≤ a2) (hnd : h nd = some (.inr (1, [.int f0, .int f1, .int f2, .int f3, .int (nI c4), .int (nI c5), .int f6, .int f7, .int f8]))) (h4 : c4 < wd1) (h5 : c5 < wd2) (hno : nd < o ∨ o + 22 ≤ nd) (hna : nd < a ∨ a + 402 ≤ nd) (hwd : wd = wd1 + wd2) (hwd6 : wd1 + wd2 ≤ 6) : rl_Met l (rl_e D ids H0) rl_BW rl_Ns yX2_fillJoin cX2_fillJoin 8 (some .boolean) ({ frames := 5, cells := 0, slots := 0, locals := 174 }) [.ref o, .ref nd, .ref a1, .ref a2, .ref a] h n (fun v h' n' => ∃ x : Int32, v = some (.int x) ∧ n' = n ∧ (∃ gp' : Nat → Option Nat, op_sh ids h' o so gp') ∧ rl_g2 h h' o (o + 22) a (a + 402) ∧ pres ids h' a wd (aall tab (jll c4 c5 tb td)) x) := by
  obtain ⟨P1, S1, hi0, hP1, hrow1⟩ := id hi
  have tl80 := hbk.2.2
  obtain ⟨P2, S2, hj0, hP2, hrow2⟩ := id hj
  have tl81 := hdk.2.2
  refine rl_Met.of (by decide +kernel) (Nat.le_of_ble_eq_true rfl) ?_
  intro X hC hB
  have loop : ∀ (m t : Nat) (o6 o7 : Option Value) (h1 : rl_H) (gp1 : Nat → Option Nat) (tab1 : List arow), t + m = tb.length → op_sh ids h1 o so gp1 → ctb ids h1 a wd tab1 → aok wd tab1 → rl_g2 h h1 o (o + 22) a (a + 402) → aall tab (jll c4 c5 tb td) = aall tab1 (jll c4 c5 (tb.drop t) td) → rl_G X (rl_e D ids H0) 3 [some (.ref o), some (.ref nd), some (.ref a1), some (.ref a2), some (.ref a), some (.int (nI t)), o6, o7] [] h1 n 0 0 := by
    intro m
    induction m with
    | zero =>
      intro t o6 o7 h1 gp1 tab1 hm ho1 ht1 hk1 hf he
      obtain ⟨t1, ⟨tf, t2, t3⟩, t4, t5, t6, t7⟩ := hi0.eqv (h' := h1) (fun q q1 q2 => hf q (by omega) (by omega))
      refine o_iload hC dX2_fillJoin_3 (by rfl) ?_
      refine o_aload_n hC dX2_fillJoin_5 (by rfl) ?_
      refine o_getf hC (fX2_103 hC rfl) dX2_fillJoin_6 (by repeat (first | with_reducible assumption | (rw [rl_u_s]; done) | (rw [rl_u_s]; rfl) | rw [rl_u_n (by first | with_reducible assumption | omega)])) (by first | rfl | with_reducible assumption) ?_
      refine o_icmp_ge (tgt := 98) hC dX2_fillJoin_9 (by decide) (fun c_9 => ?_) (fun c_9 => ?_)
      · refine o_iconst (v := nI 1) hC dX2_fillJoin_98 (by decide +kernel) ?_
        refine o_zret hC hB dX2_fillJoin_99 (by first | rfl | decide +kernel) (Nat.le_of_ble_eq_true rfl) (Nat.le_of_ble_eq_true rfl) ?_
        exact ⟨_, rfl, rfl, ⟨_, ho1⟩, hf, Or.inl ⟨tab1, by rw [he, List.drop_eq_nil_of_le (by omega)]; rfl, rfl, ht1, hk1⟩⟩
      · exact absurd (nI_le (by omega) (by omega)) c_9
    | succ m ih =>
      intro t o6 o7 h9 gp9 tab9 hm ho9 ht9 hk9 hf9 he9
      have htl : t < tb.length := by omega
      rw [ark_dropp htl] at he9
      replace he9 : aall tab (jll c4 c5 tb td) = aall tab9 (jlr c4 c5 (ark tb t) td ++ jll c4 c5 (tb.drop (t + 1)) td) := he9
      have loop2 : ∀ (m2 u : Nat) (o7 : Option Value) (h1 : rl_H) (gp1 : Nat → Option Nat) (tab1 : List arow), u + m2 = td.length → op_sh ids h1 o so gp1 → ctb ids h1 a wd tab1 → aok wd tab1 → rl_g2 h h1 o (o + 22) a (a + 402) → aall tab (jll c4 c5 tb td) = aall tab1 (jlr c4 c5 (ark tb t) (td.drop u) ++ jll c4 c5 (tb.drop (t + 1)) td) → rl_G X (rl_e D ids H0) 15 [some (.ref o), some (.ref nd), some (.ref a1), some (.ref a2), some (.ref a), some (.int (nI t)), some (.int (nI u)), o7] [] h1 n 0 0 := by
        intro m2
        induction m2 with
        | zero =>
          intro u o7 h1 gp1 tab1 hm2 ho1 ht1 hk1 hf he
          obtain ⟨j1, ⟨jf, j2, j3⟩, j4, j5, j6, j7⟩ := hj0.eqv (h' := h1) (fun q q1 q2 => hf q (by omega) (by omega))
          refine o_iload hC dX2_fillJoin_15 (by rfl) ?_
          refine o_aload_n hC dX2_fillJoin_17 (by rfl) ?_
          refine o_getf hC (fX2_103 hC rfl) dX2_fillJoin_18 (by repeat (first | with_reducible assumption | (rw [rl_u_s]; done) | (rw [rl_u_s]; rfl) | rw [rl_u_n (by first | with_reducible assumption | omega)])) (by first | rfl | with_reducible assumption) ?_
          refine o_icmp_ge (tgt := 92) hC dX2_fillJoin_21 (by decide) (fun c_21 => ?_) (fun c_21 => ?_)
          · refine o_iinc hC dX2_fillJoin_92 (by rfl) (rl_inc _) (Nat.le_of_ble_eq_true rfl) ?_
            refine o_goto (tgt := 3) hC dX2_fillJoin_95 (by decide) ?_
            exact ih (t + 1) _ _ _ _ tab1 (by omega) ho1 ht1 hk1 hf (by rw [he, List.drop_eq_nil_of_le (by omega)]; rfl)
          · exact absurd (nI_le (by omega) (by omega)) c_21
        | succ m2 ih2 =>
          intro u o7 h1 gp1 tab1 hm2 ho1 ht1 hk1 hf he
          obtain ⟨t1, ⟨tf, t2, t3⟩, t4, t5, t6, t7⟩ := hi0.eqv (h' := h1) (fun q q1 q2 => hf q (by omega) (by omega))
          obtain ⟨j1, ⟨jf, j2, j3⟩, j4, j5, j6, j7⟩ := hj0.eqv (h' := h1) (fun q q1 q2 => hf q (by omega) (by omega))
          have n1 := (hf nd (by omega) (by omega)).trans hnd
          have hul : u < td.length := by omega
          have hb := t4 t (by omega)
          have hb2 := j4 u (by omega)
          obtain ⟨e1, e2, e3⟩ := t5 (P1 t) hb
          obtain ⟨g1, g2, g3⟩ := j5 (P2 u) hb2
          rw [ark_dropp hul] at he
          have ea : acg (ark tb t) c4 = S1.1 (P1 t) c4 := by
            show (ark tb t).1.getD c4 0 = _
            rw [← hrow1 t htl, rsg_get h4]
          have eb : acg (ark td u) c5 = S2.1 (P2 u) c5 := by
            show (ark td u).1.getD c5 0 = _
            rw [← hrow2 u hul, rsg_get h5]
          refine o_iload hC dX2_fillJoin_15 (by rfl) ?_
          refine o_aload_n hC dX2_fillJoin_17 (by rfl) ?_
          refine o_getf hC (fX2_103 hC rfl) dX2_fillJoin_18 (by repeat (first | with_reducible assumption | (rw [rl_u_s]; done) | (rw [rl_u_s]; rfl) | rw [rl_u_n (by first | with_reducible assumption | omega)])) (by first | rfl | with_reducible assumption) ?_
          refine o_icmp_ge (tgt := 92) hC dX2_fillJoin_21 (by decide) (fun c_21 => ?_) (fun c_21 => ?_)
          · exact absurd c_21 (nI_ge (by omega) (by omega))
          · refine o_aload_n hC dX2_fillJoin_24 (by rfl) ?_
            refine o_getf hC (fX2_106 hC rfl) dX2_fillJoin_25 (by repeat (first | with_reducible assumption | (rw [rl_u_s]; done) | (rw [rl_u_s]; rfl) | rw [rl_u_n (by first | with_reducible assumption | omega)])) (by first | rfl | with_reducible assumption) ?_
            refine o_iload hC dX2_fillJoin_28 (by rfl) ?_
            refine o_aaldN (t0 := 3) hC rfl dX2_fillJoin_30 (by repeat (first | with_reducible assumption | (rw [rl_u_s]; done) | (rw [rl_u_s]; rfl) | rw [rl_u_n (by first | with_reducible assumption | omega)])) (by omega) (by decide) ?_
            rw [t3 _ (by omega)]
            show rl_G X _ _ _ (.ref _ :: _) _ _ _ _
            refine o_getf hC (fX2_109 hC rfl) dX2_fillJoin_31 (by repeat (first | with_reducible assumption | (rw [rl_u_s]; done) | (rw [rl_u_s]; rfl) | rw [rl_u_n (by first | with_reducible assumption | omega)])) (by first | rfl | with_reducible assumption) ?_
            refine o_aload_n hC dX2_fillJoin_34 (by rfl) ?_
            refine o_getf hC (fX2_119 hC rfl) dX2_fillJoin_35 (by repeat (first | with_reducible assumption | (rw [rl_u_s]; done) | (rw [rl_u_s]; rfl) | rw [rl_u_n (by first | with_reducible assumption | omega)])) (by first | rfl | with_reducible assumption) ?_
            refine o_ialdN (t0 := 0) (k := c4) hC rfl dX2_fillJoin_38 e2 (by omega) (by decide) ?_
            refine o_aload_n hC dX2_fillJoin_39 (by rfl) ?_
            refine o_getf hC (fX2_106 hC rfl) dX2_fillJoin_40 (by repeat (first | with_reducible assumption | (rw [rl_u_s]; done) | (rw [rl_u_s]; rfl) | rw [rl_u_n (by first | with_reducible assumption | omega)])) (by first | rfl | with_reducible assumption) ?_
            refine o_iload hC dX2_fillJoin_43 (by rfl) ?_
            refine o_aaldN (t0 := 3) hC rfl dX2_fillJoin_45 (by repeat (first | with_reducible assumption | (rw [rl_u_s]; done) | (rw [rl_u_s]; rfl) | rw [rl_u_n (by first | with_reducible assumption | omega)])) (by omega) (by decide) ?_
            rw [j3 _ (by omega)]
            show rl_G X _ _ _ (.ref _ :: _) _ _ _ _
            refine o_getf hC (fX2_109 hC rfl) dX2_fillJoin_46 (by repeat (first | with_reducible assumption | (rw [rl_u_s]; done) | (rw [rl_u_s]; rfl) | rw [rl_u_n (by first | with_reducible assumption | omega)])) (by first | rfl | with_reducible assumption) ?_
            refine o_aload_n hC dX2_fillJoin_49 (by rfl) ?_
            refine o_getf hC (fX2_122 hC rfl) dX2_fillJoin_50 (by repeat (first | with_reducible assumption | (rw [rl_u_s]; done) | (rw [rl_u_s]; rfl) | rw [rl_u_n (by first | with_reducible assumption | omega)])) (by first | rfl | with_reducible assumption) ?_
            refine o_ialdN (t0 := 0) (k := c5) hC rfl dX2_fillJoin_53 g2 (by omega) (by decide) ?_
            refine o_icmp_ne (tgt := 61) hC dX2_fillJoin_54 (by decide) (fun c_54 => ?_) (fun c_54 => ?_)
            · refine o_iconst (v := nI 0) hC dX2_fillJoin_61 (by decide +kernel) ?_
              refine o_istore hC dX2_fillJoin_62 (Nat.le_of_ble_eq_true rfl) ?_
              refine o_iload hC dX2_fillJoin_64 (by rfl) ?_
              refine o_if_eq (tgt := 86) hC dX2_fillJoin_66 (by decide) (fun _ => ?_) (fun q => absurd rfl q)
              refine o_iinc hC dX2_fillJoin_86 (by rfl) (rl_inc _) (Nat.le_of_ble_eq_true rfl) ?_
              refine o_goto (tgt := 15) hC dX2_fillJoin_89 (by decide) ?_
              unfold jlr at he
              rw [List.filter_cons_of_neg (p := fun s => decide (acg (ark tb t) c4 = acg s c5)) (fun e => c_54 (by rw [← ea, ← eb]; exact of_decide_eq_true e))] at he
              exact ih2 (u + 1) _ _ _ tab1 (by omega) ho1 ht1 hk1 hf he
            · refine o_iconst (v := nI 1) hC dX2_fillJoin_57 (by decide +kernel) ?_
              refine o_goto (tgt := 62) hC dX2_fillJoin_58 (by decide) ?_
              refine o_istore hC dX2_fillJoin_62 (Nat.le_of_ble_eq_true rfl) ?_
              have hmeet : acg (ark tb t) c4 = acg (ark td u) c5 := by
                rw [ea, eb]
                first | exact c_54 | exact Classical.not_not.mp c_54
              unfold jlr at he
              rw [List.filter_cons_of_pos (p := fun s => decide (acg (ark tb t) c4 = acg s c5)) (decide_eq_true hmeet), List.map_cons, List.cons_append] at he
              refine o_iload hC dX2_fillJoin_64 (by rfl) ?_
              refine o_if_eq (tgt := 86) hC dX2_fillJoin_66 (by decide) (fun q => absurd q (by decide +kernel)) (fun c_66 => ?_)
              refine o_aload_n hC dX2_fillJoin_69 (by rfl) ?_
              refine o_aload_n hC dX2_fillJoin_70 (by rfl) ?_
              refine o_iload hC dX2_fillJoin_71 (by rfl) ?_
              refine o_aload_n hC dX2_fillJoin_73 (by rfl) ?_
              refine o_iload hC dX2_fillJoin_74 (by rfl) ?_
              refine o_aload hC dX2_fillJoin_76 (by rfl) ?_
              refine o_callV5 hC rl_BW_good rl_Ns_nw (by exact hB.2.2.2.2.2) YX2_putPair IX2_putPair VX2_putPair (mX2_128 hC) (by rw [hB.1]; exact cp_X2_putPair l D ids H0 _ _ o so a a1 wd wd1 _ tab1 tb a2 wd2 t u td ho1 ht1 hk1 (hi.eqv (fun q q1 q2 => hf q (by omega) (by omega))) hbk (by omega) (by omega) (by omega) (hj.eqv (fun q q1 q2 => hf q (by omega) (by omega))) hdk (by omega) (by omega) (by omega) (by omega) hwd hwd6) (by exact ho1.1) rfl rfl (Nat.le_of_ble_eq_true rfl) (by rw [hB.2.1]; first | exact Nat.le_of_ble_eq_true rfl | (dsimp only; omega)) (by rw [hB.2.1]; first | exact Nat.le_of_ble_eq_true rfl | (dsimp only; omega)) (by rw [hB.2.1]; first | exact Nat.le_of_ble_eq_true rfl | (dsimp only; omega)) (by rw [hB.2.1]; first | exact Nat.le_of_ble_eq_true rfl | (dsimp only; omega)) dX2_fillJoin_78 (fun v h_78 n_78 p_78 => ?_)
              obtain ⟨x, rfl, rfl, ⟨gp2, q1⟩, q3, q2⟩ := p_78
              try dsimp only [Option.toList, List.cons_append, List.nil_append]
              refine o_if_ne (tgt := 86) hC dX2_fillJoin_81 (by decide) (fun c_81 => ?_) (fun c_81 => ?_)
              · refine o_iinc hC dX2_fillJoin_86 (by rfl) (rl_inc _) (Nat.le_of_ble_eq_true rfl) ?_
                refine o_goto (tgt := 15) hC dX2_fillJoin_89 (by decide) ?_
                rcases q2 with ⟨tab2, y1, y2, y3, y4⟩ | ⟨-, y2, -⟩
                rotate_left
                · exact absurd y2 c_81
                refine ih2 (u + 1) _ _ _ tab2 (by omega) q1 y3 y4 (hf.tr (q3.wd (by omega) (by omega) (Nat.le_refl _) (Nat.le_refl _))) ?_
                rw [he]
                show ((wst _).bind (aput tab1 _)).bind _ = _
                rw [y1]
                rfl
              · refine o_iconst (v := nI 0) hC dX2_fillJoin_84 (by decide +kernel) ?_
                refine o_zret hC hB dX2_fillJoin_85 (by first | rfl | decide +kernel) (Nat.le_of_ble_eq_true rfl) (Nat.le_of_ble_eq_true rfl) ?_
                rcases q2 with ⟨tab2, y1, y2, -, -⟩ | ⟨y1, y2, y3⟩
                · exact absurd (c_81.symm.trans y2) (by decide +kernel)
                · refine ⟨_, rfl, rfl, ⟨_, q1⟩, hf.tr (q3.wd (by omega) (by omega) (Nat.le_refl _) (Nat.le_refl _)), Or.inr ⟨?_, rfl, y3⟩⟩
                  rw [he]
                  show ((wst _).bind (aput tab1 _)).bind _ = _
                  rw [y1]
                  rfl
      obtain ⟨t1, -, -, -, t6, -⟩ := hi0.eqv (h' := h9) (fun q q1 q2 => hf9 q (by omega) (by omega))
      refine o_iload hC dX2_fillJoin_3 (by rfl) ?_
      refine o_aload_n hC dX2_fillJoin_5 (by rfl) ?_
      refine o_getf hC (fX2_103 hC rfl) dX2_fillJoin_6 (by repeat (first | with_reducible assumption | (rw [rl_u_s]; done) | (rw [rl_u_s]; rfl) | rw [rl_u_n (by first | with_reducible assumption | omega)])) (by first | rfl | with_reducible assumption) ?_
      refine o_icmp_ge (tgt := 98) hC dX2_fillJoin_9 (by decide) (fun c_9 => ?_) (fun c_9 => ?_)
      · exact absurd c_9 (nI_ge (by omega) (by omega))
      · refine o_iconst (v := nI 0) hC dX2_fillJoin_12 (by decide +kernel) ?_
        refine o_istore hC dX2_fillJoin_13 (Nat.le_of_ble_eq_true rfl) ?_
        exact loop2 td.length 0 _ h9 gp9 tab9 (by omega) ho9 ht9 hk9 hf9 he9
  show rl_G X (rl_e D ids H0) 0 [some (.ref o), some (.ref nd), some (.ref a1), some (.ref a2), some (.ref a), none, none, none] [] h n 0 0
  refine o_iconst (v := nI 0) hC dX2_fillJoin_0 (by decide +kernel) ?_
  refine o_istore hC dX2_fillJoin_1 (Nat.le_of_ble_eq_true rfl) ?_
  exact loop tb.length 0 _ _ h gp tab (by omega) ho ht hok rl_g2.rf rfl

set_option maxHeartbeats 4000000 in
set_option maxRecDepth 100000 in
theorem cp_X2_putWithout (l : Launch) (D : va_G) (ids : Nat → ClassId) (H0 : Heap) (h : rl_H) (n : Nat) (o so a wd tu tk uk kk : Nat) (gp : Nat → Option Nat) (tab : List arow) (uc kc2 : Nat → Int32) (uf ug kf kg : Nat → Int64) (U K : List tT) (ho : op_sh ids h o so gp) (ht : ctb ids h a wd tab) (hok : aok wd tab) (hu : tp_at ids h tu uc uf ug uk) (hk : tp_at ids h tk kc2 kf kg kk) (hU : tls uf ug uk = U) (hK : tls kf kg kk = K) (hKo : ∀ e ∈ K, tok e) (hoa : o + 22 ≤ a ∨ a + 402 ≤ o) (huo : tu + 5 ≤ o ∨ o + 22 ≤ tu) (hua : tu + 5 ≤ a ∨ a + 402 ≤ tu) (hko : tk + 5 ≤ o ∨ o + 22 ≤ tk) (hka : tk + 5 ≤ a ∨ a + 402 ≤ tk) : rl_Met l (rl_e D ids H0) rl_BW rl_Ns yX2_putWithout cX2_putWithout 4 (some .boolean) ({ frames := 4, cells := 0, slots := 0, locals := 149 }) [.ref o, .ref tu, .ref tk, .ref a] h n (fun v h' n' => ∃ x : Int32, v = some (.int x) ∧ n' = n ∧ (∃ gp' : Nat → Option Nat, op_sh ids h' o so gp') ∧ rl_g2 h h' o (o + 22) a (a + 402) ∧ pres ids h' a wd ((mno U (some K)).bind (aput tab (rcl uc wd))) x) := by
  obtain ⟨o0, ⟨ds, od⟩, ⟨mf0, mg0, mk0, om⟩, ⟨tp, o7, o7b⟩, o8, ⟨kc, o9⟩, ot⟩ := id ho
  obtain ⟨w1, w2, w3⟩ := id hu
  obtain ⟨w4, w5, w6⟩ := id hk
  refine rl_Met.of (by decide +kernel) (Nat.le_of_ble_eq_true rfl) ?_
  intro X hC hB
  show rl_G X (rl_e D ids H0) 0 [some (.ref o), some (.ref tu), some (.ref tk), some (.ref a)] [] h n 0 0
  refine o_aload_n hC dX2_putWithout_0 (by rfl) ?_
  refine o_getf hC (fX2_12 hC rfl) dX2_putWithout_1 (by repeat (first | with_reducible assumption | (rw [rl_u_s]; done) | (rw [rl_u_s]; rfl) | rw [rl_u_n (by first | with_reducible assumption | omega)])) (by first | rfl | with_reducible assumption) ?_
  refine o_aload_n hC dX2_putWithout_4 (by rfl) ?_
  refine o_getf hC (fX2_116 hC rfl) dX2_putWithout_5 (by repeat (first | with_reducible assumption | (rw [rl_u_s]; done) | (rw [rl_u_s]; rfl) | rw [rl_u_n (by first | with_reducible assumption | omega)])) (by first | rfl | with_reducible assumption) ?_
  refine o_aload_n hC dX2_putWithout_8 (by rfl) ?_
  refine o_getf hC (fX2_21 hC rfl) dX2_putWithout_9 (by repeat (first | with_reducible assumption | (rw [rl_u_s]; done) | (rw [rl_u_s]; rfl) | rw [rl_u_n (by first | with_reducible assumption | omega)])) (by first | rfl | with_reducible assumption) ?_
  refine o_callV2 hC rl_BW_good rl_Ns_nw (by exact hB.2.2.2.2.2) YX0_not IX0_not VX0_not (mX2_151 hC) (by rw [hB.1]; exact ct_X0_not l D ids H0 _ _ (o + 1) (tk + 2) (o + 4) _ _ ds _ _ mf0 mg0 od hk.2.2 om (by omega) (by omega) (by omega)) (by exact od.1) rfl rfl (Nat.le_of_ble_eq_true rfl) (by rw [hB.2.1]; first | exact Nat.le_of_ble_eq_true rfl | (dsimp only; omega)) (by rw [hB.2.1]; first | exact Nat.le_of_ble_eq_true rfl | (dsimp only; omega)) (by rw [hB.2.1]; first | exact Nat.le_of_ble_eq_true rfl | (dsimp only; omega)) (by rw [hB.2.1]; first | exact Nat.le_of_ble_eq_true rfl | (dsimp only; omega)) dX2_putWithout_12 (fun v h_12 n_12 p_12 => ?_)
  obtain ⟨x1, rfl, rfl, hx1, r1, r2, r3⟩ := p_12
  have w0 := no_out hK hKo hx1 r2
  have ho2 : op_sh ids h_12 o so gp := ho.mk ⟨_, r1⟩ ⟨_, _, _, r2⟩ (fun q q1 q2 q3 => r3 q (by omega) (by omega))
  have u2 : tp_at ids h_12 tu uc uf ug uk := hu.eqv (fun q q1 q2 => r3 q (by omega) (by omega))
  have ht2 := ht.eqv (h' := h_12) (fun q q1 q2 => r3 q (by omega) (by omega))
  obtain ⟨v1, v2, v3⟩ := id u2
  have o2 := ho2.1
  try dsimp only [Option.toList, List.cons_append, List.nil_append]
  refine o_if_eq (tgt := 60) hC dX2_putWithout_15 (by decide) (fun c_15 => ?_) (fun c_15 => ?_)
  · refine o_iconst (v := nI 0) hC dX2_putWithout_60 (by decide +kernel) ?_
    refine o_zret hC hB dX2_putWithout_61 (by first | rfl | decide +kernel) (Nat.le_of_ble_eq_true rfl) (Nat.le_of_ble_eq_true rfl) ?_
    rcases w0 with ⟨W, z1, z2, -⟩ | ⟨z1, z2⟩
    · exact absurd (c_15.symm.trans z2) (by decide +kernel)
    · exact ⟨_, rfl, rfl, ⟨_, ho2⟩, fun q b1 b2 => r3 q (by omega) (by omega), Or.inr ⟨by show (((wno K [(0, 0)]).bind (fun W => wst (tbo U W))).bind (aput tab (rcl uc wd))) = _; rw [z1]; rfl, rfl, ht2.ti⟩⟩
  · rcases w0 with ⟨W, z1, z2, zf, zg, z3, z4⟩ | ⟨-, z2⟩
    rotate_left
    · exact absurd z2 c_15
    refine o_aload_n hC dX2_putWithout_18 (by rfl) ?_
    refine o_getf hC (fX2_12 hC rfl) dX2_putWithout_19 (by repeat (first | with_reducible assumption | (rw [rl_u_s]; done) | (rw [rl_u_s]; rfl) | rw [rl_u_n (by first | with_reducible assumption | omega)])) (by first | rfl | with_reducible assumption) ?_
    refine o_aload_n hC dX2_putWithout_22 (by rfl) ?_
    refine o_getf hC (fX2_116 hC rfl) dX2_putWithout_23 (by repeat (first | with_reducible assumption | (rw [rl_u_s]; done) | (rw [rl_u_s]; rfl) | rw [rl_u_n (by first | with_reducible assumption | omega)])) (by first | rfl | with_reducible assumption) ?_
    refine o_aload_n hC dX2_putWithout_26 (by rfl) ?_
    refine o_getf hC (fX2_21 hC rfl) dX2_putWithout_27 (by repeat (first | with_reducible assumption | (rw [rl_u_s]; done) | (rw [rl_u_s]; rfl) | rw [rl_u_n (by first | with_reducible assumption | omega)])) (by first | rfl | with_reducible assumption) ?_
    refine o_aload_n hC dX2_putWithout_30 (by rfl) ?_
    refine o_getf hC (fX2_21 hC rfl) dX2_putWithout_31 (by repeat (first | with_reducible assumption | (rw [rl_u_s]; done) | (rw [rl_u_s]; rfl) | rw [rl_u_n (by first | with_reducible assumption | omega)])) (by first | rfl | with_reducible assumption) ?_
    refine o_callV3 hC rl_BW_good rl_Ns_nw (by exact hB.2.2.2.2.2) YX0_both IX0_both VX0_both (mX2_139 hC) (by rw [hB.1]; exact ct_X0_both l D ids H0 _ _ (o + 1) (tu + 2) (o + 4) (o + 4) _ _ _ _ _ _ _ _ _ _ r1 v3 z3 z3 (by omega) (by omega) (by omega)) (by exact r1.1) rfl rfl (Nat.le_of_ble_eq_true rfl) (by rw [hB.2.1]; first | exact Nat.le_of_ble_eq_true rfl | (dsimp only; omega)) (by rw [hB.2.1]; first | exact Nat.le_of_ble_eq_true rfl | (dsimp only; omega)) (by rw [hB.2.1]; first | exact Nat.le_of_ble_eq_true rfl | (dsimp only; omega)) (by rw [hB.2.1]; first | exact Nat.le_of_ble_eq_true rfl | (dsimp only; omega)) dX2_putWithout_34 (fun v h_34 n_34 p_34 => ?_)
    obtain ⟨x2, rfl, rfl, s1⟩ := p_34
    have s2 := s1.f2
    have w1 := bo_out hU z4 v3.2.2.2 z3.2.2.2 s1
    have ho3 : op_sh ids h_34 o so gp := ho2.mk ⟨_, s1.1⟩ (s1.ws z3 (by omega)) (fun q q1 q2 q3 => s2 q (by omega) (by omega))
    have u3 : tp_at ids h_34 tu uc uf ug uk := u2.eqv (fun q q1 q2 => s2 q (by omega) (by omega))
    obtain ⟨v4, v5, v6⟩ := id u3
    have ht3 := ht2.eqv (h' := h_34) (fun q q1 q2 => s2 q (by omega) (by omega))
    have o3 := ho3.1
    try dsimp only [Option.toList, List.cons_append, List.nil_append]
    refine o_if_eq (tgt := 60) hC dX2_putWithout_37 (by decide) (fun c_37 => ?_) (fun c_37 => ?_)
    · refine o_iconst (v := nI 0) hC dX2_putWithout_60 (by decide +kernel) ?_
      refine o_zret hC hB dX2_putWithout_61 (by first | rfl | decide +kernel) (Nat.le_of_ble_eq_true rfl) (Nat.le_of_ble_eq_true rfl) ?_
      rcases w1 with ⟨L3, y1, y2, -⟩ | ⟨y1, y2⟩
      · exact absurd (c_37.symm.trans y2) (by decide +kernel)
      · refine ⟨_, rfl, rfl, ⟨_, ho3⟩, fun q b1 b2 => (s2 q (by omega) (by omega)).trans (r3 q (by omega) (by omega)), Or.inr ⟨?_, rfl, ht3.ti⟩⟩
        show (((wno K [(0, 0)]).bind (fun W => wst (tbo U W))).bind (aput tab (rcl uc wd))) = _
        rw [z1]
        show (wst (tbo U W)).bind _ = _
        rw [y1]
        rfl
    · rcases w1 with ⟨L3, y1, y2, y3⟩ | ⟨-, y2⟩
      rotate_left
      · exact absurd y2 c_37
      refine o_aload_n hC dX2_putWithout_40 (by rfl) ?_
      refine o_aload_n hC dX2_putWithout_41 (by rfl) ?_
      refine o_aload_n hC dX2_putWithout_42 (by rfl) ?_
      refine o_getf hC (fX2_109 hC rfl) dX2_putWithout_43 (by repeat (first | with_reducible assumption | (rw [rl_u_s]; done) | (rw [rl_u_s]; rfl) | rw [rl_u_n (by first | with_reducible assumption | omega)])) (by first | rfl | with_reducible assumption) ?_
      refine o_aload_n hC dX2_putWithout_46 (by rfl) ?_
      refine o_getf hC (fX2_21 hC rfl) dX2_putWithout_47 (by repeat (first | with_reducible assumption | (rw [rl_u_s]; done) | (rw [rl_u_s]; rfl) | rw [rl_u_n (by first | with_reducible assumption | omega)])) (by first | rfl | with_reducible assumption) ?_
      refine o_callV3 hC rl_BW_good rl_Ns_nw (by exact hB.2.2.2.2.2) YX2_put IX2_put VX2_put (mX2_99 hC) (by rw [hB.1]; exact cp_X2_put l D ids H0 _ _ o so a (o + 4) (tu + 1) wd _ _ _ _ ho3 ht3 hok v5 y3 (wst_ok y1) (by omega) (by omega) (by omega) (by omega)) (by exact ho3.1) rfl rfl (Nat.le_of_ble_eq_true rfl) (by rw [hB.2.1]; first | exact Nat.le_of_ble_eq_true rfl | (dsimp only; omega)) (by rw [hB.2.1]; first | exact Nat.le_of_ble_eq_true rfl | (dsimp only; omega)) (by rw [hB.2.1]; first | exact Nat.le_of_ble_eq_true rfl | (dsimp only; omega)) (by rw [hB.2.1]; first | exact Nat.le_of_ble_eq_true rfl | (dsimp only; omega)) dX2_putWithout_50 (fun v h_50 n_50 p_50 => ?_)
      obtain ⟨x, rfl, rfl, q1, q3, q2⟩ := p_50
      try dsimp only [Option.toList, List.cons_append, List.nil_append]
      refine o_if_eq (tgt := 60) hC dX2_putWithout_53 (by decide) (fun c_53 => ?_) (fun c_53 => ?_)
      · refine o_iconst (v := nI 0) hC dX2_putWithout_60 (by decide +kernel) ?_
        refine o_zret hC hB dX2_putWithout_61 (by first | rfl | decide +kernel) (Nat.le_of_ble_eq_true rfl) (Nat.le_of_ble_eq_true rfl) ?_
        rcases q2 with ⟨tab2, m1, m2, -, -⟩ | ⟨m1, m2, m3⟩
        · exact absurd (c_53.symm.trans m2) (by decide +kernel)
        · refine ⟨_, rfl, rfl, ⟨_, q1⟩, fun q b1 b2 => (q3 q (by omega) (by omega)).trans ((s2 q (by omega) (by omega)).trans (r3 q (by omega) (by omega))), Or.inr ⟨?_, rfl, m3⟩⟩
          show (((wno K [(0, 0)]).bind (fun W => wst (tbo U W))).bind (aput tab (rcl uc wd))) = _
          rw [z1]
          show (wst (tbo U W)).bind _ = _
          rw [y1]
          exact m1
      · refine o_iconst (v := nI 1) hC dX2_putWithout_56 (by decide +kernel) ?_
        refine o_goto (tgt := 61) hC dX2_putWithout_57 (by decide) ?_
        refine o_zret hC hB dX2_putWithout_61 (by first | rfl | decide +kernel) (Nat.le_of_ble_eq_true rfl) (Nat.le_of_ble_eq_true rfl) ?_
        rcases q2 with ⟨tab2, m1, m2, m3, m4⟩ | ⟨-, m2, -⟩
        · refine ⟨_, rfl, rfl, ⟨_, q1⟩, fun q b1 b2 => (q3 q (by omega) (by omega)).trans ((s2 q (by omega) (by omega)).trans (r3 q (by omega) (by omega))), Or.inl ⟨tab2, ?_, rfl, m3, m4⟩⟩
          show (((wno K [(0, 0)]).bind (fun W => wst (tbo U W))).bind (aput tab (rcl uc wd))) = _
          rw [z1]
          show (wst (tbo U W)).bind _ = _
          rw [y1]
          exact m1
        · exact absurd m2 c_53

set_option maxHeartbeats 4000000 in
set_option maxRecDepth 100000 in
theorem cp_X2_fillMinus (l : Launch) (D : va_G) (ids : Nat → ClassId) (H0 : Heap) (h : rl_H) (n : Nat) (o so a a1 wd : Nat) (gp : Nat → Option Nat) (tab tb : List arow) (a2 : Nat) (td : List arow) (ho : op_sh ids h o so gp) (ht : ctb ids h a wd tab) (hok : aok wd tab) (hi : ctb ids h a1 wd tb) (hbk : aok wd tb) (hoa : o + 22 ≤ a ∨ a + 402 ≤ o) (hoi : o + 22 ≤ a1 ∨ a1 + 402 ≤ o) (hia : a1 + 402 ≤ a ∨ a + 402 ≤ a1) (hj : ctb ids h a2 wd td) (hdk : aok wd td) (hoj : o + 22 ≤ a2 ∨ a2 + 402 ≤ o) (hja : a2 + 402 ≤ a ∨ a + 402 ≤ a2) : rl_Met l (rl_e D ids H0) rl_BW rl_Ns yX2_fillMinus cX2_fillMinus 8 (some .boolean) ({ frames := 5, cells := 0, slots := 0, locals := 172 }) [.ref o, .ref a1, .ref a2, .ref a] h n (fun v h' n' => ∃ x : Int32, v = some (.int x) ∧ n' = n ∧ (∃ gp' : Nat → Option Nat, op_sh ids h' o so gp') ∧ rl_g2 h h' o (o + 22) a (a + 402) ∧ pres ids h' a wd (aall tab (tb.map (fun r => (r.1, mno r.2 (afd td r.1))))) x) := by
  obtain ⟨P1, S1, hi0, hP1, hrow1⟩ := id hi
  have tl80 := hbk.2.2
  obtain ⟨P2, S2, hj0, hP2, hrow2⟩ := id hj
  have tl81 := hdk.2.2
  refine rl_Met.of (by decide +kernel) (Nat.le_of_ble_eq_true rfl) ?_
  intro X hC hB
  have loop : ∀ (m t : Nat) (o5 o6 o7 : Option Value) (h1 : rl_H) (gp1 : Nat → Option Nat) (tab1 : List arow), t + m = tb.length → op_sh ids h1 o so gp1 → ctb ids h1 a wd tab1 → aok wd tab1 → rl_g2 h h1 o (o + 22) a (a + 402) → aall tab (tb.map (fun r => (r.1, mno r.2 (afd td r.1)))) = aall tab1 ((tb.map (fun r => (r.1, mno r.2 (afd td r.1)))).drop t) → rl_G X (rl_e D ids H0) 3 [some (.ref o), some (.ref a1), some (.ref a2), some (.ref a), some (.int (nI t)), o5, o6, o7] [] h1 n 0 0 := by
    intro m
    induction m with
    | zero =>
      intro t o5 o6 o7 h1 gp1 tab1 hm ho1 ht1 hk1 hf he
      obtain ⟨t1, ⟨tf, t2, t3⟩, t4, t5, t6, t7⟩ := hi0.eqv (h' := h1) (fun q q1 q2 => hf q (by omega) (by omega))
      refine o_iload hC dX2_fillMinus_3 (by rfl) ?_
      refine o_aload_n hC dX2_fillMinus_5 (by rfl) ?_
      refine o_getf hC (fX2_103 hC rfl) dX2_fillMinus_6 (by repeat (first | with_reducible assumption | (rw [rl_u_s]; done) | (rw [rl_u_s]; rfl) | rw [rl_u_n (by first | with_reducible assumption | omega)])) (by first | rfl | with_reducible assumption) ?_
      refine o_icmp_ge (tgt := 79) hC dX2_fillMinus_9 (by decide) (fun c_9 => ?_) (fun c_9 => ?_)
      · refine o_iconst (v := nI 1) hC dX2_fillMinus_79 (by decide +kernel) ?_
        refine o_zret hC hB dX2_fillMinus_80 (by first | rfl | decide +kernel) (Nat.le_of_ble_eq_true rfl) (Nat.le_of_ble_eq_true rfl) ?_
        exact ⟨_, rfl, rfl, ⟨_, ho1⟩, hf, Or.inl ⟨tab1, by rw [he, List.drop_eq_nil_of_le (by rw [List.length_map]; omega)]; rfl, rfl, ht1, hk1⟩⟩
      · exact absurd (nI_le (by omega) (by omega)) c_9
    | succ m ih =>
      intro t o5 o6 o7 h1 gp1 tab1 hm ho1 ht1 hk1 hf he
      obtain ⟨t1, ⟨tf, t2, t3⟩, t4, t5, t6, t7⟩ := hi0.eqv (h' := h1) (fun q q1 q2 => hf q (by omega) (by omega))
      have hj1 := hj0.eqv (h' := h1) (fun q q1 q2 => hf q (by omega) (by omega))
      have htl : t < tb.length := by omega
      have hb := t4 t (by omega)
      obtain ⟨e1, e2, e3⟩ := t5 (P1 t) hb
      have hrt := hbk.2.1 _ (List.getElem_mem htl)
      rw [← ark_at] at hrt
      have er := hrow1 t htl
      have w3 : wat ids h1 (a1 + 2 + 5 * P1 t + 2) (ark tb t).2 := by
        rw [← er]
        exact e3.wat
      have e0 := t5 (P1 t) hb
      have ek : rcl (S1.1 (P1 t)) wd = (ark tb t).1 := congrArg Prod.fst er
      rw [ark_drop htl] at he
      refine o_iload hC dX2_fillMinus_3 (by rfl) ?_
      refine o_aload_n hC dX2_fillMinus_5 (by rfl) ?_
      refine o_getf hC (fX2_103 hC rfl) dX2_fillMinus_6 (by repeat (first | with_reducible assumption | (rw [rl_u_s]; done) | (rw [rl_u_s]; rfl) | rw [rl_u_n (by first | with_reducible assumption | omega)])) (by first | rfl | with_reducible assumption) ?_
      refine o_icmp_ge (tgt := 79) hC dX2_fillMinus_9 (by decide) (fun c_9 => ?_) (fun c_9 => ?_)
      · exact absurd c_9 (nI_ge (by omega) (by omega))
      · refine o_aload_n hC dX2_fillMinus_12 (by rfl) ?_
        refine o_getf hC (fX2_106 hC rfl) dX2_fillMinus_13 (by repeat (first | with_reducible assumption | (rw [rl_u_s]; done) | (rw [rl_u_s]; rfl) | rw [rl_u_n (by first | with_reducible assumption | omega)])) (by first | rfl | with_reducible assumption) ?_
        refine o_iload hC dX2_fillMinus_16 (by rfl) ?_
        refine o_aaldN (t0 := 3) hC rfl dX2_fillMinus_18 (by repeat (first | with_reducible assumption | (rw [rl_u_s]; done) | (rw [rl_u_s]; rfl) | rw [rl_u_n (by first | with_reducible assumption | omega)])) (by omega) (by decide) ?_
        rw [t3 _ (by omega)]
        show rl_G X _ _ _ (.ref _ :: _) _ _ _ _
        refine o_astore hC dX2_fillMinus_19 (Nat.le_of_ble_eq_true rfl) ?_
        refine o_aload_n hC dX2_fillMinus_21 (by rfl) ?_
        refine o_aload hC dX2_fillMinus_22 (by rfl) ?_
        refine o_getf hC (fX2_109 hC rfl) dX2_fillMinus_24 (by repeat (first | with_reducible assumption | (rw [rl_u_s]; done) | (rw [rl_u_s]; rfl) | rw [rl_u_n (by first | with_reducible assumption | omega)])) (by first | rfl | with_reducible assumption) ?_
        refine o_callV1 hC rl_BW_good rl_Ns_nw (by exact hB.2.2.2.2.2) YX4_find IX4_find VX4_find (mX2_143 hC) (by rw [hB.1]; exact ct_X4_find l D ids H0 _ _ a2 td.length wd (a1 + 2 + 5 * P1 t + 1) P2 S2 _ hj1 e2) (by exact hj1.1) rfl rfl (Nat.le_of_ble_eq_true rfl) (by rw [hB.2.1]; first | exact Nat.le_of_ble_eq_true rfl | (dsimp only; omega)) (by rw [hB.2.1]; first | exact Nat.le_of_ble_eq_true rfl | (dsimp only; omega)) (by rw [hB.2.1]; first | exact Nat.le_of_ble_eq_true rfl | (dsimp only; omega)) (by rw [hB.2.1]; first | exact Nat.le_of_ble_eq_true rfl | (dsimp only; omega)) dX2_fillMinus_27 (fun v h_27 n_27 p_27 => ?_)
        obtain ⟨e9, rfl, rfl⟩ := p_27
        try dsimp only [Option.toList, List.cons_append, List.nil_append]
        split at e9
        · rename_i hh
          have hhit := (crw_hit hrow2).mp hh
          rw [ek] at hhit
          have hle : afb td (ark tb t).1 ≤ td.length := tb_fb_le _ _
          obtain ⟨u, hu⟩ : ∃ u : Nat, u = afb td (ark tb t).1 - 1 := ⟨_, rfl⟩
          have hul : u < td.length := by omega
          have hi2 : P2 u < 80 := hj1.2.2.1 u (by omega)
          have efd : afd td (ark tb t).1 = some (ark td u).2 := by
            unfold afd
            rw [if_pos hhit, ← hu]
          have hut := hdk.2.1 _ (List.getElem_mem hul)
          rw [← ark_at] at hut
          rw [crw_fb hrow2, ek, ← hu] at e9
          subst e9
          try dsimp only [Option.toList, List.cons_append, List.nil_append]
          refine o_astore hC dX2_fillMinus_30 (Nat.le_of_ble_eq_true rfl) ?_
          refine o_aload hC dX2_fillMinus_32 (by rfl) ?_
          refine o_ifnonnull (tgt := 55) hC dX2_fillMinus_34 (by decide) ?_
          refine o_aload_n hC dX2_fillMinus_55 (by rfl) ?_
          refine o_aload hC dX2_fillMinus_56 (by rfl) ?_
          refine o_aload hC dX2_fillMinus_58 (by rfl) ?_
          refine o_aload_n hC dX2_fillMinus_60 (by rfl) ?_
          refine o_callV3 hC rl_BW_good rl_Ns_nw (by exact hB.2.2.2.2.2) YX2_putWithout IX2_putWithout VX2_putWithout (mX2_147 hC) (by rw [hB.1]; exact cp_X2_putWithout l D ids H0 _ _ o so a wd (a1 + 2 + 5 * P1 t) (a2 + 2 + 5 * P2 u) _ _ _ tab1 _ _ _ _ _ _ (ark tb t).2 (ark td u).2 ho1 ht1 hk1 e0 (hj1.2.2.2.1 (P2 u) hi2) (congrArg Prod.snd er) (congrArg Prod.snd (hrow2 u hul)) hut.2.1.2.1 (by omega) (by omega) (by omega) (by omega) (by omega)) (by exact ho1.1) rfl rfl (Nat.le_of_ble_eq_true rfl) (by rw [hB.2.1]; first | exact Nat.le_of_ble_eq_true rfl | (dsimp only; omega)) (by rw [hB.2.1]; first | exact Nat.le_of_ble_eq_true rfl | (dsimp only; omega)) (by rw [hB.2.1]; first | exact Nat.le_of_ble_eq_true rfl | (dsimp only; omega)) (by rw [hB.2.1]; first | exact Nat.le_of_ble_eq_true rfl | (dsimp only; omega)) dX2_fillMinus_61 (fun v h_61 n_61 p_61 => ?_)
          obtain ⟨x, rfl, rfl, ⟨gp2, q1⟩, q3, q2⟩ := p_61
          rw [ek] at q2
          try dsimp only [Option.toList, List.cons_append, List.nil_append]
          refine o_istore hC dX2_fillMinus_64 (Nat.le_of_ble_eq_true rfl) ?_
          refine o_iload hC dX2_fillMinus_66 (by rfl) ?_
          refine o_if_ne (tgt := 73) hC dX2_fillMinus_68 (by decide) (fun c_68 => ?_) (fun c_68 => ?_)
          · refine o_iinc hC dX2_fillMinus_73 (by rfl) (rl_inc _) (Nat.le_of_ble_eq_true rfl) ?_
            refine o_goto (tgt := 3) hC dX2_fillMinus_76 (by decide) ?_
            rcases q2 with ⟨tab2, y1, y2, y3, y4⟩ | ⟨-, y2, -⟩
            rotate_left
            · exact absurd y2 c_68
            refine ih (t + 1) _ _ _ _ _ tab2 (by omega) q1 y3 y4 (hf.tr (q3.wd (by omega) (by omega) (Nat.le_refl _) (Nat.le_refl _))) ?_
            rw [he]
            show ((mno _ (afd td (ark tb t).1)).bind (aput tab1 _)).bind _ = _
            rw [efd]
            rw [y1]
            rfl
          · refine o_iconst (v := nI 0) hC dX2_fillMinus_71 (by decide +kernel) ?_
            refine o_zret hC hB dX2_fillMinus_72 (by first | rfl | decide +kernel) (Nat.le_of_ble_eq_true rfl) (Nat.le_of_ble_eq_true rfl) ?_
            rcases q2 with ⟨tab2, y1, y2, -, -⟩ | ⟨y1, y2, y3⟩
            · exact absurd (c_68.symm.trans y2) (by decide +kernel)
            · refine ⟨_, rfl, rfl, ⟨_, q1⟩, hf.tr (q3.wd (by omega) (by omega) (Nat.le_refl _) (Nat.le_refl _)), Or.inr ⟨?_, rfl, y3⟩⟩
              rw [he]
              show ((mno _ (afd td (ark tb t).1)).bind (aput tab1 _)).bind _ = _
              rw [efd]
              rw [y1]
              rfl
        · rename_i hh
          have efd : afd td (ark tb t).1 = none := by
            unfold afd
            rw [if_neg (fun q => hh ((crw_hit hrow2).mpr (by rw [ek]; exact q)))]
          subst e9
          try dsimp only [Option.toList, List.cons_append, List.nil_append]
          refine o_astoreN hC dX2_fillMinus_30 (Nat.le_of_ble_eq_true rfl) ?_
          refine o_aloadN hC dX2_fillMinus_32 (by rfl) ?_
          refine o_ifnonnullN hC dX2_fillMinus_34 ?_
          refine o_aload_n hC dX2_fillMinus_37 (by rfl) ?_
          refine o_aload_n hC dX2_fillMinus_38 (by rfl) ?_
          refine o_aload hC dX2_fillMinus_39 (by rfl) ?_
          refine o_getf hC (fX2_109 hC rfl) dX2_fillMinus_41 (by repeat (first | with_reducible assumption | (rw [rl_u_s]; done) | (rw [rl_u_s]; rfl) | rw [rl_u_n (by first | with_reducible assumption | omega)])) (by first | rfl | with_reducible assumption) ?_
          refine o_aload hC dX2_fillMinus_44 (by rfl) ?_
          refine o_getf hC (fX2_116 hC rfl) dX2_fillMinus_46 (by repeat (first | with_reducible assumption | (rw [rl_u_s]; done) | (rw [rl_u_s]; rfl) | rw [rl_u_n (by first | with_reducible assumption | omega)])) (by first | rfl | with_reducible assumption) ?_
          refine o_callV3 hC rl_BW_good rl_Ns_nw (by exact hB.2.2.2.2.2) YX2_put IX2_put VX2_put (mX2_99 hC) (by rw [hB.1]; exact cp_X2_put l D ids H0 _ _ o so a (a1 + 2 + 5 * P1 t + 2) (a1 + 2 + 5 * P1 t + 1) wd _ _ _ _ ho1 ht1 hk1 e2 w3 hrt.2.1 (by omega) (by omega) (by omega) (by omega)) (by exact ho1.1) rfl rfl (Nat.le_of_ble_eq_true rfl) (by rw [hB.2.1]; first | exact Nat.le_of_ble_eq_true rfl | (dsimp only; omega)) (by rw [hB.2.1]; first | exact Nat.le_of_ble_eq_true rfl | (dsimp only; omega)) (by rw [hB.2.1]; first | exact Nat.le_of_ble_eq_true rfl | (dsimp only; omega)) (by rw [hB.2.1]; first | exact Nat.le_of_ble_eq_true rfl | (dsimp only; omega)) dX2_fillMinus_49 (fun v h_49 n_49 p_49 => ?_)
          obtain ⟨x, rfl, rfl, q1, q3, q2⟩ := p_49
          rw [ek] at q2
          replace q2 : pres ids h_49 a wd ((mno (ark tb t).2 none).bind (aput tab1 (ark tb t).1)) x := q2
          try dsimp only [Option.toList, List.cons_append, List.nil_append]
          refine o_goto (tgt := 64) hC dX2_fillMinus_52 (by decide) ?_
          refine o_istore hC dX2_fillMinus_64 (Nat.le_of_ble_eq_true rfl) ?_
          refine o_iload hC dX2_fillMinus_66 (by rfl) ?_
          refine o_if_ne (tgt := 73) hC dX2_fillMinus_68 (by decide) (fun c_68 => ?_) (fun c_68 => ?_)
          · refine o_iinc hC dX2_fillMinus_73 (by rfl) (rl_inc _) (Nat.le_of_ble_eq_true rfl) ?_
            refine o_goto (tgt := 3) hC dX2_fillMinus_76 (by decide) ?_
            rcases q2 with ⟨tab2, y1, y2, y3, y4⟩ | ⟨-, y2, -⟩
            rotate_left
            · exact absurd y2 c_68
            refine ih (t + 1) _ _ _ _ _ tab2 (by omega) q1 y3 y4 (hf.tr (q3.wd (by omega) (by omega) (Nat.le_refl _) (Nat.le_refl _))) ?_
            rw [he]
            show ((mno _ (afd td (ark tb t).1)).bind (aput tab1 _)).bind _ = _
            rw [efd]
            rw [y1]
            rfl
          · refine o_iconst (v := nI 0) hC dX2_fillMinus_71 (by decide +kernel) ?_
            refine o_zret hC hB dX2_fillMinus_72 (by first | rfl | decide +kernel) (Nat.le_of_ble_eq_true rfl) (Nat.le_of_ble_eq_true rfl) ?_
            rcases q2 with ⟨tab2, y1, y2, -, -⟩ | ⟨y1, y2, y3⟩
            · exact absurd (c_68.symm.trans y2) (by decide +kernel)
            · refine ⟨_, rfl, rfl, ⟨_, q1⟩, hf.tr (q3.wd (by omega) (by omega) (Nat.le_refl _) (Nat.le_refl _)), Or.inr ⟨?_, rfl, y3⟩⟩
              rw [he]
              show ((mno _ (afd td (ark tb t).1)).bind (aput tab1 _)).bind _ = _
              rw [efd]
              rw [y1]
              rfl
  show rl_G X (rl_e D ids H0) 0 [some (.ref o), some (.ref a1), some (.ref a2), some (.ref a), none, none, none, none] [] h n 0 0
  refine o_iconst (v := nI 0) hC dX2_fillMinus_0 (by decide +kernel) ?_
  refine o_istore hC dX2_fillMinus_1 (Nat.le_of_ble_eq_true rfl) ?_
  exact loop tb.length 0 _ _ _ h gp tab (by omega) ho ht hok rl_g2.rf rfl
