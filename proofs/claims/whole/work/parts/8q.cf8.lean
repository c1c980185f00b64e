/-! THE CLASS, functionally: under, forward, told -/
theorem fwo_c (x y : Int64) (r : arow) (R : List arow) (c : Int32) : fwo x y (r :: R) c = fwo x y R (if (wfh x r.2 0 = -1 ↔ wfh y r.2 0 = -1) then c else c + Int32.ofInt 1) := rfl
theorem hgo_c (x : Int64) (r : arow) (R : List arow) (c : Int32) : hgo x (r :: R) c = hgo x R (if wfh x r.2 0 = -1 then c else c + Int32.ofInt 1) := rfl
theorem tf_iff (a b : Int32) : ((if a = -1 then nI 0 else nI 1) = (if b = -1 then nI 0 else nI 1)) ↔ (a = -1 ↔ b = -1) := by
  by_cases p : a = -1
  · by_cases q : b = -1
    · rw [if_pos p, if_pos q]
      exact ⟨fun _ => ⟨fun _ => q, fun _ => p⟩, fun _ => rfl⟩
    · rw [if_pos p, if_neg q]
      exact ⟨fun e => absurd e (by decide +kernel), fun e => absurd (e.mp p) q⟩
  · by_cases q : b = -1
    · rw [if_neg p, if_pos q]
      exact ⟨fun e => absurd e (by decide +kernel), fun e => absurd (e.mpr q) p⟩
    · rw [if_neg p, if_neg q]
      exact ⟨fun _ => ⟨fun e => absurd e p, fun e => absurd e q⟩, fun _ => rfl⟩

set_option maxHeartbeats 4000000 in
set_option maxRecDepth 100000 in
theorem cd_X7_under (l : Launch) (D : va_G) (ids : Nat → ClassId) (H0 : Heap) (h : rl_H) (n : Nat) (x L : Nat) (s : cl_S) (c : cl_N) (res : List arow) (rw : Nat) (q : Int32) (st : Int64) (hk : cl_ok ids h n x L s c) (hd : cl_dp ids h s c) (hr : cl_rs s c res rw) : rl_Met l (rl_e D ids H0) rl_BW rl_Ns yX7_under cX7_under 5 (some .int) ({ frames := 3, cells := 0, slots := 0, locals := 64 }) [.ref x, .int q, .long st] h n (fun v h' n' => ∃ r : Int32, v = some (.int r) ∧ h' = h ∧ n' = n ∧ ((¬ (∃ t : Nat, t < res.length ∧ q = nI t) ∧ r = -1) ∨ ∃ t : Nat, t < res.length ∧ q = nI t ∧ r = (if (st.toUInt64 >>> ((nI s.2.2.2.2).toInt64.toUInt64 &&& Int64.toUInt64 63)).toInt64 = 0 then (if wfh st (ark res t).2 0 = -1 then nI 0 else nI 1) else (-2 : Int32)))) := by
  have nc16 := cl_nc hk
  have hc := hk.1
  obtain ⟨c1, c2, c3, ⟨pn, c4, c5⟩, ⟨pt, c6, c7⟩, c8, c9, c10, c11, c12, c13, c14, c15⟩ := id hc
  have htb := hr.tb hd (fun k hk9 => cl_wd hk hk9)
  obtain ⟨s1, s2, s3, s4, s5, s6, s7⟩ := id c2
  refine rl_Met.of (by decide +kernel) (Nat.le_of_ble_eq_true rfl) ?_
  intro X hC hB
  show rl_G X (rl_e D ids H0) 0 [some (.ref x), some (.int q), some (.long st), none, none] [] h n 0 0
  refine o_aload_n hC dX7_under_0 (by rfl) ?_
  refine o_iload_n hC dX7_under_1 (by rfl) ?_
  refine o_callV1 hC rl_BW_good rl_Ns_nw (by exact hB.2.2.2.2.2) YX7_resultTuple IX7_resultTuple VX7_resultTuple (mX7_141 hC) (by rw [hB.1]; exact cd_X7_resultTuple l D ids H0 _ _ x L s c res rw _ hk hd hr) (by exact c1) rfl rfl (Nat.le_of_ble_eq_true rfl) (by rw [hB.2.1]; first | exact Nat.le_of_ble_eq_true rfl | (dsimp only; omega)) (by rw [hB.2.1]; first | exact Nat.le_of_ble_eq_true rfl | (dsimp only; omega)) (by rw [hB.2.1]; first | exact Nat.le_of_ble_eq_true rfl | (dsimp only; omega)) (by rw [hB.2.1]; first | exact Nat.le_of_ble_eq_true rfl | (dsimp only; omega)) dX7_under_2 (fun v h_2 n_2 p_2 => ?_)
  obtain ⟨zv, rfl, rfl, rfl, hz⟩ := p_2
  try dsimp only [Option.toList, List.cons_append, List.nil_append]
  rcases hz with ⟨rfl, hz⟩ | ⟨t, j, i, htl, rfl, hj, hrs, hi, rfl, P, S, ht, er⟩
  · try dsimp only [Option.toList, List.cons_append, List.nil_append]
    refine o_astoreN hC dX7_under_5 (Nat.le_of_ble_eq_true rfl) ?_
    refine o_aloadN hC dX7_under_7 (by rfl) ?_
    refine o_ifnonnullN hC dX7_under_9 ?_
    refine o_iconst (v := (-1 : Int32)) hC dX7_under_12 (by decide +kernel) ?_
    refine o_iret hC hB dX7_under_13 (Nat.le_of_ble_eq_true rfl) (Nat.le_of_ble_eq_true rfl) ?_
    exact ⟨_, rfl, rfl, rfl, Or.inl ⟨hz, rfl⟩⟩
  · try dsimp only [Option.toList, List.cons_append, List.nil_append]
    obtain ⟨t1, ⟨tf, t2, t3⟩, t4, t5, t6, t7⟩ := id ht
    obtain ⟨e1, e2, e3⟩ := t5 i hi
    obtain ⟨w1, w2, w3, w4⟩ := id e3
    have ew : tls (S.2.1 i) (S.2.2.1 i) (S.2.2.2 i) = (ark res t).2 := congrArg Prod.snd er
    refine o_astore hC dX7_under_5 (Nat.le_of_ble_eq_true rfl) ?_
    refine o_aload hC dX7_under_7 (by rfl) ?_
    refine o_ifnonnull (tgt := 14) hC dX7_under_9 (by decide) ?_
    refine o_lload_n hC dX7_under_14 (by rfl) ?_
    refine o_aload_n hC dX7_under_15 (by rfl) ?_
    refine o_getf hC (fX7_10 hC rfl) dX7_under_16 (by repeat (first | with_reducible assumption | (rw [rl_u_s]; done) | (rw [rl_u_s]; rfl) | rw [rl_u_n (by first | with_reducible assumption | omega)])) (by first | rfl | with_reducible assumption) ?_
    refine o_getf hC (fX7_64 hC rfl) dX7_under_19 (by repeat (first | with_reducible assumption | (rw [rl_u_s]; done) | (rw [rl_u_s]; rfl) | rw [rl_u_n (by first | with_reducible assumption | omega)])) (by first | rfl | with_reducible assumption) ?_
    refine o_lushr hC dX7_under_22 ?_
    refine o_lconst (v := 0) hC dX7_under_23 (by decide +kernel) ?_
    refine o_lcmp hC dX7_under_24 ?_
    refine o_if_eq (tgt := 31) hC dX7_under_25 (by decide) (fun c_25 => ?_) (fun c_25 => ?_)
    · refine o_aload hC dX7_under_31 (by rfl) ?_
      refine o_getf hC (fX7_160 hC rfl) dX7_under_33 (by repeat (first | with_reducible assumption | (rw [rl_u_s]; done) | (rw [rl_u_s]; rfl) | rw [rl_u_n (by first | with_reducible assumption | omega)])) (by first | rfl | with_reducible assumption) ?_
      refine o_lload_n hC dX7_under_36 (by rfl) ?_
      refine o_callV1 hC rl_BW_good rl_Ns_nw (by exact hB.2.2.2.2.2) YX6_holdsWith IX6_holdsWith VX6_holdsWith (mX7_183 hC) (by rw [hB.1]; exact ct_X6_holdsWith l D ids H0 _ _ (c.1 j + 1 + 2 + 5 * i + 2) _ _ _ _ e3) (by exact e3.1) rfl rfl (Nat.le_of_ble_eq_true rfl) (by rw [hB.2.1]; first | exact Nat.le_of_ble_eq_true rfl | (dsimp only; omega)) (by rw [hB.2.1]; first | exact Nat.le_of_ble_eq_true rfl | (dsimp only; omega)) (by rw [hB.2.1]; first | exact Nat.le_of_ble_eq_true rfl | (dsimp only; omega)) (by rw [hB.2.1]; first | exact Nat.le_of_ble_eq_true rfl | (dsimp only; omega)) dX7_under_37 (fun v h_37 n_37 p_37 => ?_)
      obtain ⟨rfl, rfl, rfl⟩ := p_37
      rw [tm_first_0 ew]
      try dsimp only [Option.toList, List.cons_append, List.nil_append]
      refine o_callS1 hC rl_BW_good rl_Ns_nw (by exact hB.2.2.2.2.2) YX7_asNumber SX7_asNumber (mX7_187 hC) (by rw [hB.1]; exact cd_X7_asNumber l D ids H0 _ _ _) (Nat.le_of_ble_eq_true rfl) (by rw [hB.2.1]; first | exact Nat.le_of_ble_eq_true rfl | (dsimp only; omega)) (by rw [hB.2.1]; first | exact Nat.le_of_ble_eq_true rfl | (dsimp only; omega)) (by rw [hB.2.1]; first | exact Nat.le_of_ble_eq_true rfl | (dsimp only; omega)) (by rw [hB.2.1]; first | exact Nat.le_of_ble_eq_true rfl | (dsimp only; omega)) dX7_under_40 (fun v h_40 n_40 p_40 => ?_)
      obtain ⟨rfl, rfl, rfl⟩ := p_40
      rw [as_h]
      try dsimp only [Option.toList, List.cons_append, List.nil_append]
      refine o_iret hC hB dX7_under_43 (Nat.le_of_ble_eq_true rfl) (Nat.le_of_ble_eq_true rfl) ?_
      first
      | exact ⟨_, rfl, rfl, rfl, Or.inr ⟨t, htl, rfl, (if_pos ((lg_cmp_eq _ _).mp c_25)).symm⟩⟩
      | exact ⟨_, rfl, rfl, rfl, Or.inr ⟨t, htl, rfl, (if_neg (fun w => c_25 ((lg_cmp_eq _ _).mpr w))).symm⟩⟩
    · refine o_bipush (v := (-2 : Int32)) hC dX7_under_28 (by decide +kernel) ?_
      refine o_iret hC hB dX7_under_30 (Nat.le_of_ble_eq_true rfl) (Nat.le_of_ble_eq_true rfl) ?_
      first
      | exact ⟨_, rfl, rfl, rfl, Or.inr ⟨t, htl, rfl, (if_pos ((lg_cmp_eq _ _).mp c_25)).symm⟩⟩
      | exact ⟨_, rfl, rfl, rfl, Or.inr ⟨t, htl, rfl, (if_neg (fun w => c_25 ((lg_cmp_eq _ _).mpr w))).symm⟩⟩

set_option maxHeartbeats 4000000 in
set_option maxRecDepth 100000 in
theorem cd_X7_forward (l : Launch) (D : va_G) (ids : Nat → ClassId) (H0 : Heap) (h : rl_H) (n : Nat) (x L : Nat) (s : cl_S) (c : cl_N) (res : List arow) (rw : Nat) (q : Int32) (hk : cl_ok ids h n x L s c) (hd : cl_dp ids h s c) (hr : cl_rs s c res rw) : rl_Met l (rl_e D ids H0) rl_BW rl_Ns yX7_forward cX7_forward 6 (some .int) ({ frames := 2, cells := 0, slots := 0, locals := 45 }) [.ref x, .int q] h n (fun v h' n' => ∃ r : Int32, v = some (.int r) ∧ h' = h ∧ n' = n ∧ (((q < 0 ∨ nI s.2.2.2.2 ≤ q) ∧ r = -1) ∨ (¬ (q < 0 ∨ nI s.2.2.2.2 ≤ q) ∧ r = fwo c.2.2.2.2.2 (c.2.2.2.2.2 ^^^ (1 : Int64) <<< (q.toInt64 &&& 63)) res (nI 0)))) := by
  have nc16 := cl_nc hk
  have hc := hk.1
  obtain ⟨c1, c2, c3, ⟨pn, c4, c5⟩, ⟨pt, c6, c7⟩, c8, c9, c10, c11, c12, c13, c14, c15⟩ := id hc
  have htb := hr.tb hd (fun k hk9 => cl_wd hk hk9)
  refine rl_Met.of (by decide +kernel) (Nat.le_of_ble_eq_true rfl) ?_
  intro X hC hB
  show rl_G X (rl_e D ids H0) 0 [some (.ref x), some (.int q), none, none, none, none] [] h n 0 0
  refine o_aload_n hC dX7_forward_0 (by rfl) ?_
  refine o_getf hC (fX7_10 hC rfl) dX7_forward_1 (by repeat (first | with_reducible assumption | (rw [rl_u_s]; done) | (rw [rl_u_s]; rfl) | rw [rl_u_n (by first | with_reducible assumption | omega)])) (by first | rfl | with_reducible assumption) ?_
  refine o_iload_n hC dX7_forward_4 (by rfl) ?_
  refine o_callV1 hC rl_BW_good rl_Ns_nw (by exact hB.2.2.2.2.2) YX3_isRow IX3_isRow VX3_isRow (mX7_178 hC) (by rw [hB.1]; exact ct_X3_isRow l D ids H0 _ _ (x + 1) _ _ _ _ _ _ c2) (by exact c2.1) rfl rfl (Nat.le_of_ble_eq_true rfl) (by rw [hB.2.1]; first | exact Nat.le_of_ble_eq_true rfl | (dsimp only; omega)) (by rw [hB.2.1]; first | exact Nat.le_of_ble_eq_true rfl | (dsimp only; omega)) (by rw [hB.2.1]; first | exact Nat.le_of_ble_eq_true rfl | (dsimp only; omega)) (by rw [hB.2.1]; first | exact Nat.le_of_ble_eq_true rfl | (dsimp only; omega)) dX7_forward_5 (fun v h_5 n_5 p_5 => ?_)
  obtain ⟨rfl, rfl, rfl⟩ := p_5
  try dsimp only [Option.toList, List.cons_append, List.nil_append]
  by_cases hr9 : (q < 0 ∨ nI s.2.2.2.2 ≤ q)
  · rw [if_pos hr9]
    refine o_if_ne (tgt := 13) hC dX7_forward_8 (by decide) (fun c_8 => ?_) (fun c_8 => ?_)
    · exact absurd rfl c_8
    · refine o_iconst (v := (-1 : Int32)) hC dX7_forward_11 (by decide +kernel) ?_
      refine o_iret hC hB dX7_forward_12 (Nat.le_of_ble_eq_true rfl) (Nat.le_of_ble_eq_true rfl) ?_
      exact ⟨_, rfl, rfl, rfl, Or.inl ⟨hr9, rfl⟩⟩
  · rw [if_neg hr9]
    refine o_if_ne (tgt := 13) hC dX7_forward_8 (by decide) (fun c_8 => ?_) (fun c_8 => ?_)
    · refine o_aload_n hC dX7_forward_13 (by rfl) ?_
      refine o_aload_n hC dX7_forward_14 (by rfl) ?_
      refine o_getf hC (fX7_49 hC rfl) dX7_forward_15 (by repeat (first | with_reducible assumption | (rw [rl_u_s]; done) | (rw [rl_u_s]; rfl) | rw [rl_u_n (by first | with_reducible assumption | omega)])) (by first | rfl | with_reducible assumption) ?_
      refine o_callV1 hC rl_BW_good rl_Ns_nw (by exact hB.2.2.2.2.2) YX7_tableOf IX7_tableOf VX7_tableOf (mX7_127 hC) (by rw [hB.1]; exact cg_X7_tableOf l D ids H0 _ _ x s c _ hc) (by exact c1) rfl rfl (Nat.le_of_ble_eq_true rfl) (by rw [hB.2.1]; first | exact Nat.le_of_ble_eq_true rfl | (dsimp only; omega)) (by rw [hB.2.1]; first | exact Nat.le_of_ble_eq_true rfl | (dsimp only; omega)) (by rw [hB.2.1]; first | exact Nat.le_of_ble_eq_true rfl | (dsimp only; omega)) (by rw [hB.2.1]; first | exact Nat.le_of_ble_eq_true rfl | (dsimp only; omega)) dX7_forward_18 (fun v h_18 n_18 p_18 => ?_)
      obtain ⟨z18, rfl, rfl, rfl, hz⟩ := p_18
      try dsimp only [Option.toList, List.cons_append, List.nil_append]
      rcases hz with ⟨rfl, hz⟩ | ⟨j, hj, e, rfl⟩
      · try dsimp only [Option.toList, List.cons_append, List.nil_append]
        have hre : res = [] := by
          rcases htb with ⟨-, e⟩ | ⟨j, h1, h2, -⟩
          · exact e
          · exact absurd ⟨j, h1, h2⟩ hz
        refine o_astore_n hC dX7_forward_21 (Nat.le_of_ble_eq_true rfl) ?_
        refine o_iconst (v := nI 0) hC dX7_forward_22 (by decide +kernel) ?_
        refine o_istore_n hC dX7_forward_23 (Nat.le_of_ble_eq_true rfl) ?_
        refine o_iconst (v := nI 0) hC dX7_forward_24 (by decide +kernel) ?_
        refine o_istore hC dX7_forward_25 (Nat.le_of_ble_eq_true rfl) ?_
        refine o_iload hC dX7_forward_27 (by rfl) ?_
        refine o_aload_n hC dX7_forward_29 (by rfl) ?_
        refine o_getf hC (fX7_138 hC rfl) dX7_forward_30 (by repeat (first | with_reducible assumption | (rw [rl_u_s]; done) | (rw [rl_u_s]; rfl) | rw [rl_u_n (by first | with_reducible assumption | omega)])) (by first | rfl | with_reducible assumption) ?_
        refine o_icmp_ge (tgt := 82) hC dX7_forward_33 (by decide) (fun c_33 => ?_) (fun c_33 => ?_)
        · refine o_iload_n hC dX7_forward_82 (by rfl) ?_
          refine o_iret hC hB dX7_forward_83 (Nat.le_of_ble_eq_true rfl) (Nat.le_of_ble_eq_true rfl) ?_
          exact ⟨_, rfl, rfl, rfl, Or.inr ⟨hr9, by rw [hre]; rfl⟩⟩
        · exact absurd (nI_le (Nat.le_refl _) (by decide)) c_33
      · try dsimp only [Option.toList, List.cons_append, List.nil_append]
        obtain ⟨P, S, ht, hP, hrow⟩ : ctb ids h_18 (c.1 j + 1) rw res := by
          rcases htb with ⟨u, -⟩ | ⟨j2, u1, u2, -, u3, -⟩
          · exact absurd (e.symm.trans u) (nI_m1 (by omega))
          · have := nI_inj2 (by omega) (by omega) (e.symm.trans u2)
            subst this
            exact u3
        obtain ⟨t1, ⟨tf, t2, t3⟩, t4, t5, t6, t7⟩ := id ht
        have loop : ∀ (m t : Nat) (ch : Int32) (o5 : Option Value), t + m = res.length → fwo c.2.2.2.2.2 (c.2.2.2.2.2 ^^^ (1 : Int64) <<< (q.toInt64 &&& 63)) (res.drop t) ch = fwo c.2.2.2.2.2 (c.2.2.2.2.2 ^^^ (1 : Int64) <<< (q.toInt64 &&& 63)) res (nI 0) → rl_G X (rl_e D ids H0) 27 [some (.ref x), some (.int q), some (.ref (c.1 j + 1)), some (.int ch), some (.int (nI t)), o5] [] h_18 n_18 0 0 := by
          intro m
          induction m with
          | zero =>
            intro t ch o5 hm hi
            refine o_iload hC dX7_forward_27 (by rfl) ?_
            refine o_aload_n hC dX7_forward_29 (by rfl) ?_
            refine o_getf hC (fX7_138 hC rfl) dX7_forward_30 (by repeat (first | with_reducible assumption | (rw [rl_u_s]; done) | (rw [rl_u_s]; rfl) | rw [rl_u_n (by first | with_reducible assumption | omega)])) (by first | rfl | with_reducible assumption) ?_
            refine o_icmp_ge (tgt := 82) hC dX7_forward_33 (by decide) (fun c_33 => ?_) (fun c_33 => ?_)
            · refine o_iload_n hC dX7_forward_82 (by rfl) ?_
              refine o_iret hC hB dX7_forward_83 (Nat.le_of_ble_eq_true rfl) (Nat.le_of_ble_eq_true rfl) ?_
              exact ⟨_, rfl, rfl, rfl, Or.inr ⟨hr9, by rw [← hi, List.drop_eq_nil_of_le (by omega)]; rfl⟩⟩
            · exact absurd (nI_le (by omega) (by omega)) c_33
          | succ m ih =>
            intro t ch o5 hm hi
            have hb := t4 t (by omega)
            obtain ⟨e1, e2, e3⟩ := t5 (P t) hb
            have ew : tls (S.2.1 (P t)) (S.2.2.1 (P t)) (S.2.2.2 (P t)) = (ark res t).2 := congrArg Prod.snd (hrow t (by omega))
            rw [ark_dropp (show t < res.length by omega)] at hi
            rw [fwo_c] at hi
            refine o_iload hC dX7_forward_27 (by rfl) ?_
            refine o_aload_n hC dX7_forward_29 (by rfl) ?_
            refine o_getf hC (fX7_138 hC rfl) dX7_forward_30 (by repeat (first | with_reducible assumption | (rw [rl_u_s]; done) | (rw [rl_u_s]; rfl) | rw [rl_u_n (by first | with_reducible assumption | omega)])) (by first | rfl | with_reducible assumption) ?_
            refine o_icmp_ge (tgt := 82) hC dX7_forward_33 (by decide) (fun c_33 => ?_) (fun c_33 => ?_)
            · exact absurd c_33 (nI_ge (by omega) (by omega))
            · refine o_aload_n hC dX7_forward_36 (by rfl) ?_
              refine o_getf hC (fX7_195 hC rfl) dX7_forward_37 (by repeat (first | with_reducible assumption | (rw [rl_u_s]; done) | (rw [rl_u_s]; rfl) | rw [rl_u_n (by first | with_reducible assumption | omega)])) (by first | rfl | with_reducible assumption) ?_
              refine o_iload hC dX7_forward_40 (by rfl) ?_
              refine o_aaldN (t0 := 3) (k := t) hC rfl dX7_forward_42 t2 (by omega) (by decide) ?_
              rw [t3 _ (by omega)]
              show rl_G X _ _ _ (.ref _ :: _) _ _ _ _
              refine o_getf hC (fX7_160 hC rfl) dX7_forward_43 (by repeat (first | with_reducible assumption | (rw [rl_u_s]; done) | (rw [rl_u_s]; rfl) | rw [rl_u_n (by first | with_reducible assumption | omega)])) (by first | rfl | with_reducible assumption) ?_
              refine o_astore hC dX7_forward_46 (Nat.le_of_ble_eq_true rfl) ?_
              refine o_aload hC dX7_forward_48 (by rfl) ?_
              refine o_aload_n hC dX7_forward_50 (by rfl) ?_
              refine o_getf hC (fX7_71 hC rfl) dX7_forward_51 (by repeat (first | with_reducible assumption | (rw [rl_u_s]; done) | (rw [rl_u_s]; rfl) | rw [rl_u_n (by first | with_reducible assumption | omega)])) (by first | rfl | with_reducible assumption) ?_
              refine o_callV1 hC rl_BW_good rl_Ns_nw (by exact hB.2.2.2.2.2) YX6_holdsWith IX6_holdsWith VX6_holdsWith (mX7_183 hC) (by rw [hB.1]; exact ct_X6_holdsWith l D ids H0 _ _ (c.1 j + 1 + 2 + 5 * P t + 2) _ _ _ _ e3) (by exact e3.1) rfl rfl (Nat.le_of_ble_eq_true rfl) (by rw [hB.2.1]; first | exact Nat.le_of_ble_eq_true rfl | (dsimp only; omega)) (by rw [hB.2.1]; first | exact Nat.le_of_ble_eq_true rfl | (dsimp only; omega)) (by rw [hB.2.1]; first | exact Nat.le_of_ble_eq_true rfl | (dsimp only; omega)) (by rw [hB.2.1]; first | exact Nat.le_of_ble_eq_true rfl | (dsimp only; omega)) dX7_forward_54 (fun v h_54 n_54 p_54 => ?_)
              obtain ⟨rfl, rfl, rfl⟩ := p_54
              rw [tm_first_0 ew]
              try dsimp only [Option.toList, List.cons_append, List.nil_append]
              refine o_aload hC dX7_forward_57 (by rfl) ?_
              refine o_aload_n hC dX7_forward_59 (by rfl) ?_
              refine o_getf hC (fX7_71 hC rfl) dX7_forward_60 (by repeat (first | with_reducible assumption | (rw [rl_u_s]; done) | (rw [rl_u_s]; rfl) | rw [rl_u_n (by first | with_reducible assumption | omega)])) (by first | rfl | with_reducible assumption) ?_
              refine o_lconst (v := 1) hC dX7_forward_63 (by decide +kernel) ?_
              refine o_iload_n hC dX7_forward_64 (by rfl) ?_
              refine o_lshl hC dX7_forward_65 ?_
              refine o_lxor hC dX7_forward_66 ?_
              refine o_callV1 hC rl_BW_good rl_Ns_nw (by exact hB.2.2.2.2.2) YX6_holdsWith IX6_holdsWith VX6_holdsWith (mX7_183 hC) (by rw [hB.1]; exact ct_X6_holdsWith l D ids H0 _ _ (c.1 j + 1 + 2 + 5 * P t + 2) _ _ _ _ e3) (by exact e3.1) rfl rfl (Nat.le_of_ble_eq_true rfl) (by rw [hB.2.1]; first | exact Nat.le_of_ble_eq_true rfl | (dsimp only; omega)) (by rw [hB.2.1]; first | exact Nat.le_of_ble_eq_true rfl | (dsimp only; omega)) (by rw [hB.2.1]; first | exact Nat.le_of_ble_eq_true rfl | (dsimp only; omega)) (by rw [hB.2.1]; first | exact Nat.le_of_ble_eq_true rfl | (dsimp only; omega)) dX7_forward_67 (fun v h_67 n_67 p_67 => ?_)
              obtain ⟨rfl, rfl, rfl⟩ := p_67
              rw [tm_first_0 ew]
              try dsimp only [Option.toList, List.cons_append, List.nil_append]
              refine o_icmp_eq (tgt := 76) hC dX7_forward_70 (by decide) (fun c_70 => ?_) (fun c_70 => ?_)
              · refine o_iinc hC dX7_forward_76 (by rfl) (rl_inc _) (Nat.le_of_ble_eq_true rfl) ?_
                refine o_goto (tgt := 27) hC dX7_forward_79 (by decide) ?_
                first
                | (rw [if_pos ((tf_iff _ _).mp c_70)] at hi; exact ih (t + 1) _ _ (by omega) hi)
                | (rw [if_neg (fun w => c_70 ((tf_iff _ _).mpr w))] at hi; exact ih (t + 1) _ _ (by omega) hi)
              · refine o_iinc hC dX7_forward_73 (by rfl) rfl (Nat.le_of_ble_eq_true rfl) ?_
                refine o_iinc hC dX7_forward_76 (by rfl) (rl_inc _) (Nat.le_of_ble_eq_true rfl) ?_
                refine o_goto (tgt := 27) hC dX7_forward_79 (by decide) ?_
                first
                | (rw [if_pos ((tf_iff _ _).mp c_70)] at hi; exact ih (t + 1) _ _ (by omega) hi)
                | (rw [if_neg (fun w => c_70 ((tf_iff _ _).mpr w))] at hi; exact ih (t + 1) _ _ (by omega) hi)
        refine o_astore_n hC dX7_forward_21 (Nat.le_of_ble_eq_true rfl) ?_
        refine o_iconst (v := nI 0) hC dX7_forward_22 (by decide +kernel) ?_
        refine o_istore_n hC dX7_forward_23 (Nat.le_of_ble_eq_true rfl) ?_
        refine o_iconst (v := nI 0) hC dX7_forward_24 (by decide +kernel) ?_
        refine o_istore hC dX7_forward_25 (Nat.le_of_ble_eq_true rfl) ?_
        exact loop res.length 0 _ _ (by omega) rfl
    · exact absurd c_8 (by decide +kernel)

set_option maxHeartbeats 4000000 in
set_option maxRecDepth 100000 in
theorem cd_X7_told (l : Launch) (D : va_G) (ids : Nat → ClassId) (H0 : Heap) (h : rl_H) (n : Nat) (x L : Nat) (s : cl_S) (c : cl_N) (res : List arow) (rw : Nat) (w : Int32) (hk : cl_ok ids h n x L s c) (hd : cl_dp ids h s c) (hr : cl_rs s c res rw) : rl_Met l (rl_e D ids H0) rl_BW rl_Ns yX7_told cX7_told 2 (some .int) ({ frames := 3, cells := 0, slots := 0, locals := 69 }) [.ref x, .int w] h n (fun v h' n' => ∃ r : Int32, v = some (.int r) ∧ h' = h ∧ n' = n ∧ (((w < 0 ∨ nI 5 < w) ∧ r = -2) ∨ (w = nI 0 ∧ r = nI s.2.2.2.1) ∨ (w = nI 1 ∧ r = nI s.2.2.2.2) ∨ (w = nI 2 ∧ r = nI c.2.2.1) ∨ (w = nI 3 ∧ r = nI res.length) ∨ (w = nI 4 ∧ r = hgo c.2.2.2.2.2 res (nI 0)) ∨ (w = nI 5 ∧ r = (jd_bcL c.2.2.2.2.2)))) := by
  have nc16 := cl_nc hk
  have hc := hk.1
  obtain ⟨c1, c2, c3, ⟨pn, c4, c5⟩, ⟨pt, c6, c7⟩, c8, c9, c10, c11, c12, c13, c14, c15⟩ := id hc
  have htb := hr.tb hd (fun k hk9 => cl_wd hk hk9)
  refine rl_Met.of (by decide +kernel) (Nat.le_of_ble_eq_true rfl) ?_
  intro X hC hB
  show rl_G X (rl_e D ids H0) 0 [some (.ref x), some (.int w)] [] h n 0 0
  refine o_iload_n hC dX7_told_0 (by rfl) ?_
  obtain ⟨h2, h3, h4, h5, h6, h7, h8⟩ := id c2
  by_cases hw : w < 0 ∨ nI 5 < w
  · refine o_tableOut (tgt := 97) hC dX7_told_1 (rl_out (by decide) hw) (by decide) ?_
    refine o_bipush (v := (-2 : Int32)) hC dX7_told_97 (by decide +kernel) ?_
    refine o_iret hC hB dX7_told_99 (Nat.le_of_ble_eq_true rfl) (Nat.le_of_ble_eq_true rfl) ?_
    first
    | exact ⟨_, rfl, rfl, rfl, Or.inl ⟨hw, rfl⟩⟩
    | exact ⟨_, rfl, rfl, rfl, Or.inr (Or.inl ⟨rfl, rfl⟩)⟩
    | exact ⟨_, rfl, rfl, rfl, Or.inr (Or.inr (Or.inl ⟨rfl, rfl⟩))⟩
    | exact ⟨_, rfl, rfl, rfl, Or.inr (Or.inr (Or.inr (Or.inl ⟨rfl, rfl⟩)))⟩
    | exact ⟨_, rfl, rfl, rfl, Or.inr (Or.inr (Or.inr (Or.inr (Or.inr (Or.inr ⟨rfl, rfl⟩)))))⟩
  · obtain ⟨j, hj, rfl⟩ := rl_inn (by decide) hw
    rcases (show j = 0 ∨ j = 1 ∨ j = 2 ∨ j = 3 ∨ j = 4 ∨ j = 5 by omega) with rfl | rfl | rfl | rfl | rfl | rfl
    · refine o_tableIn (off := 39) (tgt := 40) hC dX7_told_1 (by decide +kernel) (by decide +kernel) (by decide +kernel) (by decide) ?_
      refine o_aload_n hC dX7_told_40 (by rfl) ?_
      refine o_getf hC (fX7_10 hC rfl) dX7_told_41 (by repeat (first | with_reducible assumption | (rw [rl_u_s]; done) | (rw [rl_u_s]; rfl) | rw [rl_u_n (by first | with_reducible assumption | omega)])) (by first | rfl | with_reducible assumption) ?_
      refine o_getf hC (fX7_53 hC rfl) dX7_told_44 (by repeat (first | with_reducible assumption | (rw [rl_u_s]; done) | (rw [rl_u_s]; rfl) | rw [rl_u_n (by first | with_reducible assumption | omega)])) (by first | rfl | with_reducible assumption) ?_
      refine o_iret hC hB dX7_told_47 (Nat.le_of_ble_eq_true rfl) (Nat.le_of_ble_eq_true rfl) ?_
      first
      | exact ⟨_, rfl, rfl, rfl, Or.inl ⟨hw, rfl⟩⟩
      | exact ⟨_, rfl, rfl, rfl, Or.inr (Or.inl ⟨rfl, rfl⟩)⟩
      | exact ⟨_, rfl, rfl, rfl, Or.inr (Or.inr (Or.inl ⟨rfl, rfl⟩))⟩
      | exact ⟨_, rfl, rfl, rfl, Or.inr (Or.inr (Or.inr (Or.inl ⟨rfl, rfl⟩)))⟩
      | exact ⟨_, rfl, rfl, rfl, Or.inr (Or.inr (Or.inr (Or.inr (Or.inr (Or.inr ⟨rfl, rfl⟩)))))⟩
    · refine o_tableIn (off := 47) (tgt := 48) hC dX7_told_1 (by decide +kernel) (by decide +kernel) (by decide +kernel) (by decide) ?_
      refine o_aload_n hC dX7_told_48 (by rfl) ?_
      refine o_getf hC (fX7_10 hC rfl) dX7_told_49 (by repeat (first | with_reducible assumption | (rw [rl_u_s]; done) | (rw [rl_u_s]; rfl) | rw [rl_u_n (by first | with_reducible assumption | omega)])) (by first | rfl | with_reducible assumption) ?_
      refine o_getf hC (fX7_64 hC rfl) dX7_told_52 (by repeat (first | with_reducible assumption | (rw [rl_u_s]; done) | (rw [rl_u_s]; rfl) | rw [rl_u_n (by first | with_reducible assumption | omega)])) (by first | rfl | with_reducible assumption) ?_
      refine o_iret hC hB dX7_told_55 (Nat.le_of_ble_eq_true rfl) (Nat.le_of_ble_eq_true rfl) ?_
      first
      | exact ⟨_, rfl, rfl, rfl, Or.inl ⟨hw, rfl⟩⟩
      | exact ⟨_, rfl, rfl, rfl, Or.inr (Or.inl ⟨rfl, rfl⟩)⟩
      | exact ⟨_, rfl, rfl, rfl, Or.inr (Or.inr (Or.inl ⟨rfl, rfl⟩))⟩
      | exact ⟨_, rfl, rfl, rfl, Or.inr (Or.inr (Or.inr (Or.inl ⟨rfl, rfl⟩)))⟩
      | exact ⟨_, rfl, rfl, rfl, Or.inr (Or.inr (Or.inr (Or.inr (Or.inr (Or.inr ⟨rfl, rfl⟩)))))⟩
    · refine o_tableIn (off := 55) (tgt := 56) hC dX7_told_1 (by decide +kernel) (by decide +kernel) (by decide +kernel) (by decide) ?_
      refine o_aload_n hC dX7_told_56 (by rfl) ?_
      refine o_getf hC (fX7_78 hC rfl) dX7_told_57 (by repeat (first | with_reducible assumption | (rw [rl_u_s]; done) | (rw [rl_u_s]; rfl) | rw [rl_u_n (by first | with_reducible assumption | omega)])) (by first | rfl | with_reducible assumption) ?_
      refine o_iret hC hB dX7_told_60 (Nat.le_of_ble_eq_true rfl) (Nat.le_of_ble_eq_true rfl) ?_
      first
      | exact ⟨_, rfl, rfl, rfl, Or.inl ⟨hw, rfl⟩⟩
      | exact ⟨_, rfl, rfl, rfl, Or.inr (Or.inl ⟨rfl, rfl⟩)⟩
      | exact ⟨_, rfl, rfl, rfl, Or.inr (Or.inr (Or.inl ⟨rfl, rfl⟩))⟩
      | exact ⟨_, rfl, rfl, rfl, Or.inr (Or.inr (Or.inr (Or.inl ⟨rfl, rfl⟩)))⟩
      | exact ⟨_, rfl, rfl, rfl, Or.inr (Or.inr (Or.inr (Or.inr (Or.inr (Or.inr ⟨rfl, rfl⟩)))))⟩
    · refine o_tableIn (off := 60) (tgt := 61) hC dX7_told_1 (by decide +kernel) (by decide +kernel) (by decide +kernel) (by decide) ?_
      refine o_aload_n hC dX7_told_61 (by rfl) ?_
      refine o_aload_n hC dX7_told_62 (by rfl) ?_
      refine o_getf hC (fX7_49 hC rfl) dX7_told_63 (by repeat (first | with_reducible assumption | (rw [rl_u_s]; done) | (rw [rl_u_s]; rfl) | rw [rl_u_n (by first | with_reducible assumption | omega)])) (by first | rfl | with_reducible assumption) ?_
      refine o_callV1 hC rl_BW_good rl_Ns_nw (by exact hB.2.2.2.2.2) YX7_tableOf IX7_tableOf VX7_tableOf (mX7_127 hC) (by rw [hB.1]; exact cg_X7_tableOf l D ids H0 _ _ x s c _ hc) (by exact c1) rfl rfl (Nat.le_of_ble_eq_true rfl) (by rw [hB.2.1]; first | exact Nat.le_of_ble_eq_true rfl | (dsimp only; omega)) (by rw [hB.2.1]; first | exact Nat.le_of_ble_eq_true rfl | (dsimp only; omega)) (by rw [hB.2.1]; first | exact Nat.le_of_ble_eq_true rfl | (dsimp only; omega)) (by rw [hB.2.1]; first | exact Nat.le_of_ble_eq_true rfl | (dsimp only; omega)) dX7_told_66 (fun v h_66 n_66 p_66 => ?_)
      obtain ⟨z66, rfl, rfl, rfl, hz⟩ := p_66
      try dsimp only [Option.toList, List.cons_append, List.nil_append]
      rcases hz with ⟨rfl, hz⟩ | ⟨j, hj, e, rfl⟩
      · try dsimp only [Option.toList, List.cons_append, List.nil_append]
        have hre : res = [] := by
          rcases htb with ⟨-, e⟩ | ⟨j, h1, h2, -⟩
          · exact e
          · exact absurd ⟨j, h1, h2⟩ hz
        refine o_getf hC (fX7_138 hC rfl) dX7_told_69 (by repeat (first | with_reducible assumption | (rw [rl_u_s]; done) | (rw [rl_u_s]; rfl) | rw [rl_u_n (by first | with_reducible assumption | omega)])) (by first | rfl | with_reducible assumption) ?_
        refine o_iret hC hB dX7_told_72 (Nat.le_of_ble_eq_true rfl) (Nat.le_of_ble_eq_true rfl) ?_
        exact ⟨_, rfl, rfl, rfl, Or.inr (Or.inr (Or.inr (Or.inr (Or.inl ⟨rfl, by rw [hre]; rfl⟩))))⟩
      · try dsimp only [Option.toList, List.cons_append, List.nil_append]
        obtain ⟨P, S, ht, hP, hrow⟩ : ctb ids h_66 (c.1 j + 1) rw res := by
          rcases htb with ⟨u, -⟩ | ⟨j2, u1, u2, -, u3, -⟩
          · exact absurd (e.symm.trans u) (nI_m1 (by omega))
          · have := nI_inj2 (by omega) (by omega) (e.symm.trans u2)
            subst this
            exact u3
        obtain ⟨t1, ⟨tf, t2, t3⟩, t4, t5, t6, t7⟩ := id ht
        refine o_getf hC (fX7_138 hC rfl) dX7_told_69 (by repeat (first | with_reducible assumption | (rw [rl_u_s]; done) | (rw [rl_u_s]; rfl) | rw [rl_u_n (by first | with_reducible assumption | omega)])) (by first | rfl | with_reducible assumption) ?_
        refine o_iret hC hB dX7_told_72 (Nat.le_of_ble_eq_true rfl) (Nat.le_of_ble_eq_true rfl) ?_
        exact ⟨_, rfl, rfl, rfl, Or.inr (Or.inr (Or.inr (Or.inr (Or.inl ⟨rfl, rfl⟩))))⟩
    · refine o_tableIn (off := 72) (tgt := 73) hC dX7_told_1 (by decide +kernel) (by decide +kernel) (by decide +kernel) (by decide) ?_
      refine o_aload_n hC dX7_told_73 (by rfl) ?_
      refine o_aload_n hC dX7_told_74 (by rfl) ?_
      refine o_getf hC (fX7_49 hC rfl) dX7_told_75 (by repeat (first | with_reducible assumption | (rw [rl_u_s]; done) | (rw [rl_u_s]; rfl) | rw [rl_u_n (by first | with_reducible assumption | omega)])) (by first | rfl | with_reducible assumption) ?_
      refine o_callV1 hC rl_BW_good rl_Ns_nw (by exact hB.2.2.2.2.2) YX7_tableOf IX7_tableOf VX7_tableOf (mX7_127 hC) (by rw [hB.1]; exact cg_X7_tableOf l D ids H0 _ _ x s c _ hc) (by exact c1) rfl rfl (Nat.le_of_ble_eq_true rfl) (by rw [hB.2.1]; first | exact Nat.le_of_ble_eq_true rfl | (dsimp only; omega)) (by rw [hB.2.1]; first | exact Nat.le_of_ble_eq_true rfl | (dsimp only; omega)) (by rw [hB.2.1]; first | exact Nat.le_of_ble_eq_true rfl | (dsimp only; omega)) (by rw [hB.2.1]; first | exact Nat.le_of_ble_eq_true rfl | (dsimp only; omega)) dX7_told_78 (fun v h_78 n_78 p_78 => ?_)
      obtain ⟨z78, rfl, rfl, rfl, hz⟩ := p_78
      try dsimp only [Option.toList, List.cons_append, List.nil_append]
      rcases hz with ⟨rfl, hz⟩ | ⟨j, hj, e, rfl⟩
      · try dsimp only [Option.toList, List.cons_append, List.nil_append]
        have hre : res = [] := by
          rcases htb with ⟨-, e⟩ | ⟨j, h1, h2, -⟩
          · exact e
          · exact absurd ⟨j, h1, h2⟩ hz
        refine o_aload_n hC dX7_told_81 (by rfl) ?_
        refine o_getf hC (fX7_71 hC rfl) dX7_told_82 (by repeat (first | with_reducible assumption | (rw [rl_u_s]; done) | (rw [rl_u_s]; rfl) | rw [rl_u_n (by first | with_reducible assumption | omega)])) (by first | rfl | with_reducible assumption) ?_
        refine o_callV1 hC rl_BW_good rl_Ns_nw (by exact hB.2.2.2.2.2) YX4_howManyHold IX4_howManyHold VX4_howManyHold (mX7_223 hC) (by rw [hB.1]; exact fr_X4_howManyHold l D ids H0 _ _ (x + 65) _ _ _ c8) (by exact c8) rfl rfl (Nat.le_of_ble_eq_true rfl) (by rw [hB.2.1]; first | exact Nat.le_of_ble_eq_true rfl | (dsimp only; omega)) (by rw [hB.2.1]; first | exact Nat.le_of_ble_eq_true rfl | (dsimp only; omega)) (by rw [hB.2.1]; first | exact Nat.le_of_ble_eq_true rfl | (dsimp only; omega)) (by rw [hB.2.1]; first | exact Nat.le_of_ble_eq_true rfl | (dsimp only; omega)) dX7_told_85 (fun v h_85 n_85 p_85 => ?_)
        obtain ⟨rfl, rfl, rfl⟩ := p_85
        try dsimp only [Option.toList, List.cons_append, List.nil_append]
        refine o_iret hC hB dX7_told_88 (Nat.le_of_ble_eq_true rfl) (Nat.le_of_ble_eq_true rfl) ?_
        exact ⟨_, rfl, rfl, rfl, Or.inr (Or.inr (Or.inr (Or.inr (Or.inr (Or.inl ⟨rfl, by rw [hre]; rfl⟩)))))⟩
      · try dsimp only [Option.toList, List.cons_append, List.nil_append]
        obtain ⟨P, S, ht, hP, hrow⟩ : ctb ids h_78 (c.1 j + 1) rw res := by
          rcases htb with ⟨u, -⟩ | ⟨j2, u1, u2, -, u3, -⟩
          · exact absurd (e.symm.trans u) (nI_m1 (by omega))
          · have := nI_inj2 (by omega) (by omega) (e.symm.trans u2)
            subst this
            exact u3
        obtain ⟨t1, ⟨tf, t2, t3⟩, t4, t5, t6, t7⟩ := id ht
        refine o_aload_n hC dX7_told_81 (by rfl) ?_
        refine o_getf hC (fX7_71 hC rfl) dX7_told_82 (by repeat (first | with_reducible assumption | (rw [rl_u_s]; done) | (rw [rl_u_s]; rfl) | rw [rl_u_n (by first | with_reducible assumption | omega)])) (by first | rfl | with_reducible assumption) ?_
        refine o_callV1 hC rl_BW_good rl_Ns_nw (by exact hB.2.2.2.2.2) YX4_howManyHold IX4_howManyHold VX4_howManyHold (mX7_223 hC) (by rw [hB.1]; exact ct_X4_howManyHold l D ids H0 _ _ (c.1 j + 1) _ _ P S _ ht) (by exact t1) rfl rfl (Nat.le_of_ble_eq_true rfl) (by rw [hB.2.1]; first | exact Nat.le_of_ble_eq_true rfl | (dsimp only; omega)) (by rw [hB.2.1]; first | exact Nat.le_of_ble_eq_true rfl | (dsimp only; omega)) (by rw [hB.2.1]; first | exact Nat.le_of_ble_eq_true rfl | (dsimp only; omega)) (by rw [hB.2.1]; first | exact Nat.le_of_ble_eq_true rfl | (dsimp only; omega)) dX7_told_85 (fun v h_85 n_85 p_85 => ?_)
        obtain ⟨rfl, rfl, rfl⟩ := p_85
        rw [hm_go_l hrow res.length 0 _ (by omega)]
        try dsimp only [Option.toList, List.cons_append, List.nil_append]
        refine o_iret hC hB dX7_told_88 (Nat.le_of_ble_eq_true rfl) (Nat.le_of_ble_eq_true rfl) ?_
        exact ⟨_, rfl, rfl, rfl, Or.inr (Or.inr (Or.inr (Or.inr (Or.inr (Or.inl ⟨rfl, rfl⟩)))))⟩
    · refine o_tableIn (off := 88) (tgt := 89) hC dX7_told_1 (by decide +kernel) (by decide +kernel) (by decide +kernel) (by decide) ?_
      refine o_aload_n hC dX7_told_89 (by rfl) ?_
      refine o_getf hC (fX7_71 hC rfl) dX7_told_90 (by repeat (first | with_reducible assumption | (rw [rl_u_s]; done) | (rw [rl_u_s]; rfl) | rw [rl_u_n (by first | with_reducible assumption | omega)])) (by first | rfl | with_reducible assumption) ?_
      refine o_callS1 hC rl_BW_good rl_Ns_nw (by exact hB.2.2.2.2.2) YJ13_bitCount_95d88 SJ13_bitCount_95d88 (mX7_203 hC) (by rw [hB.1]; exact ct_J13_bitCount_95d88 l D ids H0 h n _) (Nat.le_of_ble_eq_true rfl) (by rw [hB.2.1]; first | exact Nat.le_of_ble_eq_true rfl | (dsimp only; omega)) (by rw [hB.2.1]; first | exact Nat.le_of_ble_eq_true rfl | (dsimp only; omega)) (by rw [hB.2.1]; first | exact Nat.le_of_ble_eq_true rfl | (dsimp only; omega)) (by rw [hB.2.1]; first | exact Nat.le_of_ble_eq_true rfl | (dsimp only; omega)) dX7_told_93 (fun v h_93 n_93 p_93 => ?_)
      obtain ⟨rfl, rfl, rfl⟩ := p_93
      try dsimp only [Option.toList, List.cons_append, List.nil_append]
      refine o_iret hC hB dX7_told_96 (Nat.le_of_ble_eq_true rfl) (Nat.le_of_ble_eq_true rfl) ?_
      first
      | exact ⟨_, rfl, rfl, rfl, Or.inl ⟨hw, rfl⟩⟩
      | exact ⟨_, rfl, rfl, rfl, Or.inr (Or.inl ⟨rfl, rfl⟩)⟩
      | exact ⟨_, rfl, rfl, rfl, Or.inr (Or.inr (Or.inl ⟨rfl, rfl⟩))⟩
      | exact ⟨_, rfl, rfl, rfl, Or.inr (Or.inr (Or.inr (Or.inl ⟨rfl, rfl⟩)))⟩
      | exact ⟨_, rfl, rfl, rfl, Or.inr (Or.inr (Or.inr (Or.inr (Or.inr (Or.inr ⟨rfl, rfl⟩)))))⟩
