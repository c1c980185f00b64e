/-! THE MODEL, functionally: either, both, turn -/
theorem keep_tfl {F G : Nat → Int64} {k : Nat} (h : ∀ e ∈ tls F G k, tok e) : tkeep (fun i => (F i, G i)) k k = tfl (tls F G k) := by
  rw [← tfold_tfl, tfold_keep k (fun i hi => h _ (tls_mem.mpr ⟨i, hi, rfl⟩))]
theorem tfl_tok (C : List tT) : tfl (C.filter (fun e => decide (tok e))) = tfl C := by
  refine ts_rev (P := fun C => tfl (C.filter (fun e => decide (tok e))) = tfl C) rfl (fun C t ih => ?_) C
  rw [List.filter_append, tfl_snoc]
  by_cases q : tok t
  · rw [List.filter_cons_of_pos (p := fun e => decide (tok e)) (decide_eq_true q), List.filter_nil, tfl_snoc, ih]
  · rw [List.filter_cons_of_neg (p := fun e => decide (tok e)) (fun w => q (of_decide_eq_true w)), List.filter_nil, List.append_nil, ih]
    unfold tadd
    rw [if_pos q]
/-- what a WAYS came to: FULL is none -/
def wre (A : md_D) (c : Nat) (fu fu' : Int32) (r : Option (List tT)) : Prop := (∃ L : List tT, r = some L ∧ fu' = fu ∧ mws A c L) ∨ (r = none ∧ fu' = nI 1 ∧ A.2.2.2.1 c = nI 0)
theorem wre.of {A : md_D} {c : Nat} {fu fu' : Int32} {C : List tT} {K : List tT} (e : K = tfl C) (h : (K.length ≤ 12 ∧ fu' = fu ∧ mws A c (tso K)) ∨ (12 < K.length ∧ fu' = nI 1 ∧ A.2.2.2.1 c = nI 0)) : wre A c fu fu' (wst C) := by
  subst e
  unfold wst
  rcases h with ⟨h1, h2, h3⟩ | ⟨h1, h2, h3⟩
  · rw [if_pos h1]
    exact Or.inl ⟨_, rfl, h2, h3⟩
  · rw [if_neg (by omega)]
    exact Or.inr ⟨rfl, h2, h3⟩

set_option maxHeartbeats 4000000 in
set_option maxRecDepth 100000 in
theorem cf_X8_either (l : Launch) (D : va_G) (ids : Nat → ClassId) (H0 : Heap) (h : rl_H) (n : Nat) (m : Nat) (T : md_T) (fu : Int32) (k : Nat) (A : md_D) (c a b : Nat) (La Lb : List tT) (hq : mf ids h h m T fu k A) (hc : c < 1368) (ha16 : a < 1368) (hb16 : b < 1368) (ha : mws A a La) (hb : mws A b Lb) (htok : ∀ e ∈ La ++ Lb, tok e) : rl_Met l (rl_e D ids H0) rl_BW rl_Ns yX8_either cX8_either 5 none ({ frames := 2, cells := 0, slots := 0, locals := 49 }) [.ref m, .int (nI c), .int (nI a), .int (nI b)] h n (fun v h' n' => ∃ (fu' : Int32) (k' : Nat) (A' : md_D), v = none ∧ n' = n ∧ mf ids h h' m T fu' k' A' ∧ mro A A' c ∧ wre A' c fu fu' (wst (La ++ Lb))) := by
  obtain ⟨hm0, g12, g13, g14, g15, g16, g17, g18, g19, g20, g21, g22⟩ := id hq
  have g0 := hm0.1
  have gk := hm0.2.1
  have b13 := hq.b13
  have b15 := hq.b15
  have b21 := hq.b21
  have la12 := ha.2.1
  have lb12 := hb.2.1
  have hal : tls (rwf A.2.2.2.2.1 a) (rwf A.2.2.2.2.2.1 a) La.length = La := ha.2.2
  have hbl : tls (rwf A.2.2.2.2.1 b) (rwf A.2.2.2.2.2.1 b) Lb.length = Lb := hb.2.2
  refine rl_Met.of (by decide +kernel) (Nat.le_of_ble_eq_true rfl) ?_
  intro X hC hB
  have loop2 : ∀ (mm i : Nat) (h1 : rl_H) (hn1 hl1 : Nat → Int64), i + mm = Lb.length → mf ids h h1 m T fu (La.length + i) (A.1, A.2.1, A.2.2.1, A.2.2.2.1, A.2.2.2.2.1, A.2.2.2.2.2.1, hn1, hl1, A.2.2.2.2.2.2.2.2.1, A.2.2.2.2.2.2.2.2.2.1, A.2.2.2.2.2.2.2.2.2.2) → tls hn1 hl1 (La.length + i) = La ++ tls (rwf A.2.2.2.2.1 b) (rwf A.2.2.2.2.2.1 b) i → rl_G X (rl_e D ids H0) 56 [some (.ref m), some (.int (nI c)), some (.int (nI a)), some (.int (nI b)), some (.int (nI i))] [] h1 n 0 0 := by
    intro mm
    induction mm with
    | zero =>
      intro i h1 hn1 hl1 hm hq1 hls
      have ei : i = Lb.length := by omega
      subst ei
      obtain ⟨hm0, g12, g13, g14, g15, g16, g17, g18, g19, g20, g21, g22⟩ := id hq1
      have g0 := hm0.1
      have gk := hm0.2.1
      refine o_iload hC dX8_either_56 (by rfl) ?_
      refine o_aload_n hC dX8_either_58 (by rfl) ?_
      refine o_getf hC (fX8_53 hC rfl) dX8_either_59 (by repeat (first | with_reducible assumption | (rw [rl_u_s]; done) | (rw [rl_u_s]; rfl) | rw [rl_u_n (by first | with_reducible assumption | omega)])) (by first | rfl | with_reducible assumption) ?_
      refine o_iload_n hC dX8_either_62 (by rfl) ?_
      refine o_ialdN (t0 := 0) (k := b) hC rfl dX8_either_63 (by repeat (first | with_reducible assumption | (rw [rl_u_s]; done) | (rw [rl_u_s]; rfl) | rw [rl_u_n (by first | with_reducible assumption | omega)])) (by omega) (by decide) ?_
      rw [hb.1]
      refine o_icmp_ge (tgt := 101) hC dX8_either_64 (by decide) (fun c_64 => ?_) (fun c_64 => ?_)
      · refine o_aload_n hC dX8_either_101 (by rfl) ?_
        refine o_iload_n hC dX8_either_102 (by rfl) ?_
        refine o_callV1 hC rl_BW_good rl_Ns_nw (by exact hB.2.2.2.2.2) YX8_settle IX8_settle VX8_settle (mX8_99 hC) (by rw [hB.1]; exact cf_X8_settle l D ids H0 _ _ m T _ _ _ c hq1.rf (by omega)) (by exact hq1.1.1) rfl rfl (Nat.le_of_ble_eq_true rfl) (by rw [hB.2.1]; first | exact Nat.le_of_ble_eq_true rfl | (dsimp only; omega)) (by rw [hB.2.1]; first | exact Nat.le_of_ble_eq_true rfl | (dsimp only; omega)) (by rw [hB.2.1]; first | exact Nat.le_of_ble_eq_true rfl | (dsimp only; omega)) (by rw [hB.2.1]; first | exact Nat.le_of_ble_eq_true rfl | (dsimp only; omega)) dX8_either_103 (fun v h_103 n_103 p_103 => ?_)
        obtain ⟨fs, As, rfl, rfl, q8, q9, q10⟩ := p_103
        try dsimp only [Option.toList, List.cons_append, List.nil_append]
        refine o_vret hC hB dX8_either_106 (Nat.le_of_ble_eq_true rfl) (Nat.le_of_ble_eq_true rfl) ?_
        refine ⟨fs, _, As, rfl, rfl, hq1.tr q8, q9, wre.of ?_ q10⟩
        rw [hbl] at hls
        rw [keep_tfl (F := hn1) (G := hl1) (by rw [hls]; exact htok), hls]
      · exact absurd (nI_le (by omega) (by omega)) c_64
    | succ mm ih =>
      intro i h1 hn1 hl1 hm hq1 hls
      obtain ⟨hm0, g12, g13, g14, g15, g16, g17, g18, g19, g20, g21, g22⟩ := id hq1
      have g0 := hm0.1
      have gk := hm0.2.1
      refine o_iload hC dX8_either_56 (by rfl) ?_
      refine o_aload_n hC dX8_either_58 (by rfl) ?_
      refine o_getf hC (fX8_53 hC rfl) dX8_either_59 (by repeat (first | with_reducible assumption | (rw [rl_u_s]; done) | (rw [rl_u_s]; rfl) | rw [rl_u_n (by first | with_reducible assumption | omega)])) (by first | rfl | with_reducible assumption) ?_
      refine o_iload_n hC dX8_either_62 (by rfl) ?_
      refine o_ialdN (t0 := 0) (k := b) hC rfl dX8_either_63 (by repeat (first | with_reducible assumption | (rw [rl_u_s]; done) | (rw [rl_u_s]; rfl) | rw [rl_u_n (by first | with_reducible assumption | omega)])) (by omega) (by decide) ?_
      rw [hb.1]
      refine o_icmp_ge (tgt := 101) hC dX8_either_64 (by decide) (fun c_64 => ?_) (fun c_64 => ?_)
      · exact absurd c_64 (nI_ge (by omega) (by omega))
      · refine o_aload_n hC dX8_either_67 (by rfl) ?_
        refine o_aload_n hC dX8_either_68 (by rfl) ?_
        refine o_getf hC (fX8_56 hC rfl) dX8_either_69 (by repeat (first | with_reducible assumption | (rw [rl_u_s]; done) | (rw [rl_u_s]; rfl) | rw [rl_u_n (by first | with_reducible assumption | omega)])) (by first | rfl | with_reducible assumption) ?_
        refine o_bipush (v := nI 12) hC dX8_either_72 (by decide +kernel) ?_
        refine o_iload_n hC dX8_either_74 (by rfl) ?_
        refine o_imul hC dX8_either_75 ?_
        try rw [nI_mul]
        refine o_iload hC dX8_either_76 (by rfl) ?_
        refine o_iadd hC dX8_either_78 ?_
        try rw [nI_add]
        refine o_laldN (t0 := 1) hC rfl dX8_either_79 (by repeat (first | with_reducible assumption | (rw [rl_u_s]; done) | (rw [rl_u_s]; rfl) | rw [rl_u_n (by first | with_reducible assumption | omega)])) (by omega) (by decide) ?_
        refine o_aload_n hC dX8_either_80 (by rfl) ?_
        refine o_getf hC (fX8_60 hC rfl) dX8_either_81 (by repeat (first | with_reducible assumption | (rw [rl_u_s]; done) | (rw [rl_u_s]; rfl) | rw [rl_u_n (by first | with_reducible assumption | omega)])) (by first | rfl | with_reducible assumption) ?_
        refine o_bipush (v := nI 12) hC dX8_either_84 (by decide +kernel) ?_
        refine o_iload_n hC dX8_either_86 (by rfl) ?_
        refine o_imul hC dX8_either_87 ?_
        try rw [nI_mul]
        refine o_iload hC dX8_either_88 (by rfl) ?_
        refine o_iadd hC dX8_either_90 ?_
        try rw [nI_add]
        refine o_laldN (t0 := 1) hC rfl dX8_either_91 (by repeat (first | with_reducible assumption | (rw [rl_u_s]; done) | (rw [rl_u_s]; rfl) | rw [rl_u_n (by first | with_reducible assumption | omega)])) (by omega) (by decide) ?_
        refine o_callV2 hC rl_BW_good rl_Ns_nw (by exact hB.2.2.2.2.2) YX8_heapTerm IX8_heapTerm VX8_heapTerm (mX8_95 hC) (by rw [hB.1]; exact cf_X8_heapTerm l D ids H0 _ _ m T _ _ _ _ _ hq1.rf (by omega)) (by exact hq1.1.1) rfl rfl (Nat.le_of_ble_eq_true rfl) (by rw [hB.2.1]; first | exact Nat.le_of_ble_eq_true rfl | (dsimp only; omega)) (by rw [hB.2.1]; first | exact Nat.le_of_ble_eq_true rfl | (dsimp only; omega)) (by rw [hB.2.1]; first | exact Nat.le_of_ble_eq_true rfl | (dsimp only; omega)) (by rw [hB.2.1]; first | exact Nat.le_of_ble_eq_true rfl | (dsimp only; omega)) dX8_either_92 (fun v h_92 n_92 p_92 => ?_)
        obtain ⟨rfl, rfl, q1⟩ := p_92
        try dsimp only [Option.toList, List.cons_append, List.nil_append]
        refine o_iinc hC dX8_either_95 (by rfl) (rl_inc _) (Nat.le_of_ble_eq_true rfl) ?_
        refine o_goto (tgt := 56) hC dX8_either_98 (by decide) ?_
        exact ih (i + 1) _ (vp_updL hn1 (La.length + i) (A.2.2.2.2.1 (12 * b + i))) (vp_updL hl1 (La.length + i) (A.2.2.2.2.2.1 (12 * b + i))) (by omega) (hq1.tr q1) (by show tls _ _ (La.length + i) ++ [(vp_updL hn1 (La.length + i) _ (La.length + i), vp_updL hl1 (La.length + i) _ (La.length + i))] = La ++ (tls _ _ i ++ [_]); rw [up_at, up_at, tls_eq (F := hn1) (G := hl1) (fun q hq => ⟨up_ne (by omega), up_ne (by omega)⟩), hls]; exact List.append_assoc _ _ _)
  have loop1 : ∀ (mm i : Nat) (h1 : rl_H) (hn1 hl1 : Nat → Int64), i + mm = La.length → mf ids h h1 m T fu i (A.1, A.2.1, A.2.2.1, A.2.2.2.1, A.2.2.2.2.1, A.2.2.2.2.2.1, hn1, hl1, A.2.2.2.2.2.2.2.2.1, A.2.2.2.2.2.2.2.2.2.1, A.2.2.2.2.2.2.2.2.2.2) → tls hn1 hl1 i = tls (rwf A.2.2.2.2.1 a) (rwf A.2.2.2.2.2.1 a) i → rl_G X (rl_e D ids H0) 8 [some (.ref m), some (.int (nI c)), some (.int (nI a)), some (.int (nI b)), some (.int (nI i))] [] h1 n 0 0 := by
    intro mm
    induction mm with
    | zero =>
      intro i h1 hn1 hl1 hm hq1 hls
      have ei : i = La.length := by omega
      subst ei
      obtain ⟨hm0, g12, g13, g14, g15, g16, g17, g18, g19, g20, g21, g22⟩ := id hq1
      have g0 := hm0.1
      have gk := hm0.2.1
      refine o_iload hC dX8_either_8 (by rfl) ?_
      refine o_aload_n hC dX8_either_10 (by rfl) ?_
      refine o_getf hC (fX8_53 hC rfl) dX8_either_11 (by repeat (first | with_reducible assumption | (rw [rl_u_s]; done) | (rw [rl_u_s]; rfl) | rw [rl_u_n (by first | with_reducible assumption | omega)])) (by first | rfl | with_reducible assumption) ?_
      refine o_iload_n hC dX8_either_14 (by rfl) ?_
      refine o_ialdN (t0 := 0) (k := a) hC rfl dX8_either_15 (by repeat (first | with_reducible assumption | (rw [rl_u_s]; done) | (rw [rl_u_s]; rfl) | rw [rl_u_n (by first | with_reducible assumption | omega)])) (by omega) (by decide) ?_
      rw [ha.1]
      refine o_icmp_ge (tgt := 53) hC dX8_either_16 (by decide) (fun c_16 => ?_) (fun c_16 => ?_)
      · refine o_iconst (v := nI 0) hC dX8_either_53 (by decide +kernel) ?_
        refine o_istore hC dX8_either_54 (Nat.le_of_ble_eq_true rfl) ?_
        exact loop2 Lb.length 0 _ hn1 hl1 (by omega) hq1 (by rw [Nat.add_zero, hls, hal, tls, List.append_nil])
      · exact absurd (nI_le (by omega) (by omega)) c_16
    | succ mm ih =>
      intro i h1 hn1 hl1 hm hq1 hls
      obtain ⟨hm0, g12, g13, g14, g15, g16, g17, g18, g19, g20, g21, g22⟩ := id hq1
      have g0 := hm0.1
      have gk := hm0.2.1
      refine o_iload hC dX8_either_8 (by rfl) ?_
      refine o_aload_n hC dX8_either_10 (by rfl) ?_
      refine o_getf hC (fX8_53 hC rfl) dX8_either_11 (by repeat (first | with_reducible assumption | (rw [rl_u_s]; done) | (rw [rl_u_s]; rfl) | rw [rl_u_n (by first | with_reducible assumption | omega)])) (by first | rfl | with_reducible assumption) ?_
      refine o_iload_n hC dX8_either_14 (by rfl) ?_
      refine o_ialdN (t0 := 0) (k := a) hC rfl dX8_either_15 (by repeat (first | with_reducible assumption | (rw [rl_u_s]; done) | (rw [rl_u_s]; rfl) | rw [rl_u_n (by first | with_reducible assumption | omega)])) (by omega) (by decide) ?_
      rw [ha.1]
      refine o_icmp_ge (tgt := 53) hC dX8_either_16 (by decide) (fun c_16 => ?_) (fun c_16 => ?_)
      · exact absurd c_16 (nI_ge (by omega) (by omega))
      · refine o_aload_n hC dX8_either_19 (by rfl) ?_
        refine o_aload_n hC dX8_either_20 (by rfl) ?_
        refine o_getf hC (fX8_56 hC rfl) dX8_either_21 (by repeat (first | with_reducible assumption | (rw [rl_u_s]; done) | (rw [rl_u_s]; rfl) | rw [rl_u_n (by first | with_reducible assumption | omega)])) (by first | rfl | with_reducible assumption) ?_
        refine o_bipush (v := nI 12) hC dX8_either_24 (by decide +kernel) ?_
        refine o_iload_n hC dX8_either_26 (by rfl) ?_
        refine o_imul hC dX8_either_27 ?_
        try rw [nI_mul]
        refine o_iload hC dX8_either_28 (by rfl) ?_
        refine o_iadd hC dX8_either_30 ?_
        try rw [nI_add]
        refine o_laldN (t0 := 1) hC rfl dX8_either_31 (by repeat (first | with_reducible assumption | (rw [rl_u_s]; done) | (rw [rl_u_s]; rfl) | rw [rl_u_n (by first | with_reducible assumption | omega)])) (by omega) (by decide) ?_
        refine o_aload_n hC dX8_either_32 (by rfl) ?_
        refine o_getf hC (fX8_60 hC rfl) dX8_either_33 (by repeat (first | with_reducible assumption | (rw [rl_u_s]; done) | (rw [rl_u_s]; rfl) | rw [rl_u_n (by first | with_reducible assumption | omega)])) (by first | rfl | with_reducible assumption) ?_
        refine o_bipush (v := nI 12) hC dX8_either_36 (by decide +kernel) ?_
        refine o_iload_n hC dX8_either_38 (by rfl) ?_
        refine o_imul hC dX8_either_39 ?_
        try rw [nI_mul]
        refine o_iload hC dX8_either_40 (by rfl) ?_
        refine o_iadd hC dX8_either_42 ?_
        try rw [nI_add]
        refine o_laldN (t0 := 1) hC rfl dX8_either_43 (by repeat (first | with_reducible assumption | (rw [rl_u_s]; done) | (rw [rl_u_s]; rfl) | rw [rl_u_n (by first | with_reducible assumption | omega)])) (by omega) (by decide) ?_
        refine o_callV2 hC rl_BW_good rl_Ns_nw (by exact hB.2.2.2.2.2) YX8_heapTerm IX8_heapTerm VX8_heapTerm (mX8_95 hC) (by rw [hB.1]; exact cf_X8_heapTerm l D ids H0 _ _ m T _ _ _ _ _ hq1.rf (by omega)) (by exact hq1.1.1) rfl rfl (Nat.le_of_ble_eq_true rfl) (by rw [hB.2.1]; first | exact Nat.le_of_ble_eq_true rfl | (dsimp only; omega)) (by rw [hB.2.1]; first | exact Nat.le_of_ble_eq_true rfl | (dsimp only; omega)) (by rw [hB.2.1]; first | exact Nat.le_of_ble_eq_true rfl | (dsimp only; omega)) (by rw [hB.2.1]; first | exact Nat.le_of_ble_eq_true rfl | (dsimp only; omega)) dX8_either_44 (fun v h_44 n_44 p_44 => ?_)
        obtain ⟨rfl, rfl, q1⟩ := p_44
        try dsimp only [Option.toList, List.cons_append, List.nil_append]
        refine o_iinc hC dX8_either_47 (by rfl) (rl_inc _) (Nat.le_of_ble_eq_true rfl) ?_
        refine o_goto (tgt := 8) hC dX8_either_50 (by decide) ?_
        exact ih (i + 1) _ (vp_updL hn1 i (A.2.2.2.2.1 (12 * a + i))) (vp_updL hl1 i (A.2.2.2.2.2.1 (12 * a + i))) (by omega) (hq1.tr q1) (by rw [tls, up_at, up_at, tls_eq (F := hn1) (G := hl1) (fun q hq => ⟨up_ne (by omega), up_ne (by omega)⟩), hls]; rfl)
  show rl_G X (rl_e D ids H0) 0 [some (.ref m), some (.int (nI c)), some (.int (nI a)), some (.int (nI b)), none] [] h n 0 0
  refine o_aload_n hC dX8_either_0 (by rfl) ?_
  refine o_iconst (v := nI 0) hC dX8_either_1 (by decide +kernel) ?_
  refine o_putf hC (fX8_82 hC rfl) (fwX8 rfl rfl rfl (Or.inl rfl)) dX8_either_2 (by repeat (first | with_reducible assumption | (rw [rl_u_s]; done) | (rw [rl_u_s]; rfl) | rw [rl_u_n (by first | with_reducible assumption | omega)])) (Nat.le_of_ble_eq_true rfl) ?_
  try simp only [List.set_cons_zero, List.set_cons_succ]
  refine o_iconst (v := nI 0) hC dX8_either_5 (by decide +kernel) ?_
  refine o_istore hC dX8_either_6 (Nat.le_of_ble_eq_true rfl) ?_
  exact loop1 La.length 0 _ A.2.2.2.2.2.2.1 A.2.2.2.2.2.2.2.1 (by omega) (hq.ob T fu 0 (by omega)) rfl

set_option maxHeartbeats 4000000 in
set_option maxRecDepth 100000 in
theorem cf_X8_both (l : Launch) (D : va_G) (ids : Nat → ClassId) (H0 : Heap) (h : rl_H) (n : Nat) (m : Nat) (T : md_T) (fu : Int32) (k : Nat) (A : md_D) (c a b : Nat) (La Lb : List tT) (hq : mf ids h h m T fu k A) (hc : c < 1368) (ha16 : a < 1368) (hb16 : b < 1368) (ha : mws A a La) (hb : mws A b Lb) : rl_Met l (rl_e D ids H0) rl_BW rl_Ns yX8_both cX8_both 10 none ({ frames := 2, cells := 0, slots := 0, locals := 49 }) [.ref m, .int (nI c), .int (nI a), .int (nI b)] h n (fun v h' n' => ∃ (fu' : Int32) (k' : Nat) (A' : md_D), v = none ∧ n' = n ∧ mf ids h h' m T fu' k' A' ∧ mro A A' c ∧ wre A' c fu fu' (wst (tbo La Lb))) := by
  obtain ⟨hm0, g12, g13, g14, g15, g16, g17, g18, g19, g20, g21, g22⟩ := id hq
  have g0 := hm0.1
  have gk := hm0.2.1
  have b13 := hq.b13
  have b15 := hq.b15
  have b21 := hq.b21
  have la12 := ha.2.1
  have lb12 := hb.2.1
  have hal : tls (rwf A.2.2.2.2.1 a) (rwf A.2.2.2.2.2.1 a) La.length = La := ha.2.2
  have hbl : tls (rwf A.2.2.2.2.1 b) (rwf A.2.2.2.2.2.1 b) Lb.length = Lb := hb.2.2
  refine rl_Met.of (by decide +kernel) (Nat.le_of_ble_eq_true rfl) ?_
  intro X hC hB
  have loop1 : ∀ (mm i k1 : Nat) (h1 : rl_H) (hn1 hl1 : Nat → Int64) (o5 o6 o8 : Option Value), i + mm = La.length → k1 ≤ 12 * i → mf ids h h1 m T fu k1 (A.1, A.2.1, A.2.2.1, A.2.2.2.1, A.2.2.2.2.1, A.2.2.2.2.2.1, hn1, hl1, A.2.2.2.2.2.2.2.2.1, A.2.2.2.2.2.2.2.2.2.1, A.2.2.2.2.2.2.2.2.2.2) → tls hn1 hl1 k1 = ((tbo (tls (rwf A.2.2.2.2.1 a) (rwf A.2.2.2.2.2.1 a) i) Lb).filter (fun e => decide (tok e))) → rl_G X (rl_e D ids H0) 8 [some (.ref m), some (.int (nI c)), some (.int (nI a)), some (.int (nI b)), some (.int (nI i)), o5, o6, none, o8, none] [] h1 n 0 0 := by
    intro mm
    induction mm with
    | zero =>
      intro i k1 h1 hn1 hl1 o5 o6 o8 hm hk1 hq1 hls
      have ei : i = La.length := by omega
      subst ei
      obtain ⟨hm0, g12, g13, g14, g15, g16, g17, g18, g19, g20, g21, g22⟩ := id hq1
      have g0 := hm0.1
      have gk := hm0.2.1
      refine o_iload hC dX8_both_8 (by rfl) ?_
      refine o_aload_n hC dX8_both_10 (by rfl) ?_
      refine o_getf hC (fX8_53 hC rfl) dX8_both_11 (by repeat (first | with_reducible assumption | (rw [rl_u_s]; done) | (rw [rl_u_s]; rfl) | rw [rl_u_n (by first | with_reducible assumption | omega)])) (by first | rfl | with_reducible assumption) ?_
      refine o_iload_n hC dX8_both_14 (by rfl) ?_
      refine o_ialdN (t0 := 0) (k := a) hC rfl dX8_both_15 (by repeat (first | with_reducible assumption | (rw [rl_u_s]; done) | (rw [rl_u_s]; rfl) | rw [rl_u_n (by first | with_reducible assumption | omega)])) (by omega) (by decide) ?_
      rw [ha.1]
      refine o_icmp_ge (tgt := 117) hC dX8_both_16 (by decide) (fun c_16 => ?_) (fun c_16 => ?_)
      · refine o_aload_n hC dX8_both_117 (by rfl) ?_
        refine o_iload_n hC dX8_both_118 (by rfl) ?_
        refine o_callV1 hC rl_BW_good rl_Ns_nw (by exact hB.2.2.2.2.2) YX8_settle IX8_settle VX8_settle (mX8_99 hC) (by rw [hB.1]; exact cf_X8_settle l D ids H0 _ _ m T _ _ _ c hq1.rf (by omega)) (by exact hq1.1.1) rfl rfl (Nat.le_of_ble_eq_true rfl) (by rw [hB.2.1]; first | exact Nat.le_of_ble_eq_true rfl | (dsimp only; omega)) (by rw [hB.2.1]; first | exact Nat.le_of_ble_eq_true rfl | (dsimp only; omega)) (by rw [hB.2.1]; first | exact Nat.le_of_ble_eq_true rfl | (dsimp only; omega)) (by rw [hB.2.1]; first | exact Nat.le_of_ble_eq_true rfl | (dsimp only; omega)) dX8_both_119 (fun v h_119 n_119 p_119 => ?_)
        obtain ⟨fs, As, rfl, rfl, q8, q9, q10⟩ := p_119
        try dsimp only [Option.toList, List.cons_append, List.nil_append]
        refine o_vret hC hB dX8_both_122 (Nat.le_of_ble_eq_true rfl) (Nat.le_of_ble_eq_true rfl) ?_
        refine ⟨fs, _, As, rfl, rfl, hq1.tr q8, q9, wre.of ?_ q10⟩
        rw [hal] at hls
        rw [keep_tfl (F := hn1) (G := hl1) (by rw [hls]; exact fun e he => of_decide_eq_true (List.mem_filter.mp he).2), hls, tfl_tok]
      · exact absurd (nI_le (by omega) (by omega)) c_16
    | succ mm ih =>
      intro i k1 h1 hn1 hl1 o5 o6 o8 hm hk1 hq1 hls
      have loop2 : ∀ (m2 j k2 : Nat) (h2 : rl_H) (hn2 hl2 : Nat → Int64) (o6 o8 : Option Value), j + m2 = Lb.length → k2 ≤ 12 * i + j → mf ids h h2 m T fu k2 (A.1, A.2.1, A.2.2.1, A.2.2.2.1, A.2.2.2.2.1, A.2.2.2.2.2.1, hn2, hl2, A.2.2.2.2.2.2.2.2.1, A.2.2.2.2.2.2.2.2.2.1, A.2.2.2.2.2.2.2.2.2.2) → tls hn2 hl2 k2 = ((tbo (tls (rwf A.2.2.2.2.1 a) (rwf A.2.2.2.2.2.1 a) i) Lb ++ (tls (rwf A.2.2.2.2.1 b) (rwf A.2.2.2.2.2.1 b) j).map (fun t => (A.2.2.2.2.1 (12 * a + i) ||| t.1, A.2.2.2.2.2.1 (12 * a + i) ||| t.2))).filter (fun e => decide (tok e))) → rl_G X (rl_e D ids H0) 22 [some (.ref m), some (.int (nI c)), some (.int (nI a)), some (.int (nI b)), some (.int (nI i)), some (.int (nI j)), o6, none, o8, none] [] h2 n 0 0 := by
        intro m2
        induction m2 with
        | zero =>
          intro j k2 h2 hn2 hl2 o6 o8 hm2 hk2 hq2 hls2
          have ej : j = Lb.length := by omega
          subst ej
          obtain ⟨hm0, g12, g13, g14, g15, g16, g17, g18, g19, g20, g21, g22⟩ := id hq2
          have g0 := hm0.1
          have gk := hm0.2.1
          refine o_iload hC dX8_both_22 (by rfl) ?_
          refine o_aload_n hC dX8_both_24 (by rfl) ?_
          refine o_getf hC (fX8_53 hC rfl) dX8_both_25 (by repeat (first | with_reducible assumption | (rw [rl_u_s]; done) | (rw [rl_u_s]; rfl) | rw [rl_u_n (by first | with_reducible assumption | omega)])) (by first | rfl | with_reducible assumption) ?_
          refine o_iload_n hC dX8_both_28 (by rfl) ?_
          refine o_ialdN (t0 := 0) (k := b) hC rfl dX8_both_29 (by repeat (first | with_reducible assumption | (rw [rl_u_s]; done) | (rw [rl_u_s]; rfl) | rw [rl_u_n (by first | with_reducible assumption | omega)])) (by omega) (by decide) ?_
          rw [hb.1]
          refine o_icmp_ge (tgt := 111) hC dX8_both_30 (by decide) (fun c_30 => ?_) (fun c_30 => ?_)
          · refine o_iinc hC dX8_both_111 (by rfl) (rl_inc _) (Nat.le_of_ble_eq_true rfl) ?_
            refine o_goto (tgt := 8) hC dX8_both_114 (by decide) ?_
            refine ih (i + 1) _ _ hn2 hl2 _ _ _ (by omega) (by omega) hq2 ?_
            rw [hls2, hbl, tls]
            unfold tbo
            rw [List.flatMap_append, List.flatMap_cons, List.flatMap_nil, List.append_nil]
          · exact absurd (nI_le (by omega) (by omega)) c_30
        | succ m2 ih2 =>
          intro j k2 h2 hn2 hl2 o6 o8 hm2 hk2 hq2 hls2
          obtain ⟨hm0, g12, g13, g14, g15, g16, g17, g18, g19, g20, g21, g22⟩ := id hq2
          have g0 := hm0.1
          have gk := hm0.2.1
          refine o_iload hC dX8_both_22 (by rfl) ?_
          refine o_aload_n hC dX8_both_24 (by rfl) ?_
          refine o_getf hC (fX8_53 hC rfl) dX8_both_25 (by repeat (first | with_reducible assumption | (rw [rl_u_s]; done) | (rw [rl_u_s]; rfl) | rw [rl_u_n (by first | with_reducible assumption | omega)])) (by first | rfl | with_reducible assumption) ?_
          refine o_iload_n hC dX8_both_28 (by rfl) ?_
          refine o_ialdN (t0 := 0) (k := b) hC rfl dX8_both_29 (by repeat (first | with_reducible assumption | (rw [rl_u_s]; done) | (rw [rl_u_s]; rfl) | rw [rl_u_n (by first | with_reducible assumption | omega)])) (by omega) (by decide) ?_
          rw [hb.1]
          refine o_icmp_ge (tgt := 111) hC dX8_both_30 (by decide) (fun c_30 => ?_) (fun c_30 => ?_)
          · exact absurd c_30 (nI_ge (by omega) (by omega))
          · refine o_aload_n hC dX8_both_33 (by rfl) ?_
            refine o_getf hC (fX8_56 hC rfl) dX8_both_34 (by repeat (first | with_reducible assumption | (rw [rl_u_s]; done) | (rw [rl_u_s]; rfl) | rw [rl_u_n (by first | with_reducible assumption | omega)])) (by first | rfl | with_reducible assumption) ?_
            refine o_bipush (v := nI 12) hC dX8_both_37 (by decide +kernel) ?_
            refine o_iload_n hC dX8_both_39 (by rfl) ?_
            refine o_imul hC dX8_both_40 ?_
            try rw [nI_mul]
            refine o_iload hC dX8_both_41 (by rfl) ?_
            refine o_iadd hC dX8_both_43 ?_
            try rw [nI_add]
            refine o_laldN (t0 := 1) hC rfl dX8_both_44 (by repeat (first | with_reducible assumption | (rw [rl_u_s]; done) | (rw [rl_u_s]; rfl) | rw [rl_u_n (by first | with_reducible assumption | omega)])) (by omega) (by decide) ?_
            refine o_aload_n hC dX8_both_45 (by rfl) ?_
            refine o_getf hC (fX8_56 hC rfl) dX8_both_46 (by repeat (first | with_reducible assumption | (rw [rl_u_s]; done) | (rw [rl_u_s]; rfl) | rw [rl_u_n (by first | with_reducible assumption | omega)])) (by first | rfl | with_reducible assumption) ?_
            refine o_bipush (v := nI 12) hC dX8_both_49 (by decide +kernel) ?_
            refine o_iload_n hC dX8_both_51 (by rfl) ?_
            refine o_imul hC dX8_both_52 ?_
            try rw [nI_mul]
            refine o_iload hC dX8_both_53 (by rfl) ?_
            refine o_iadd hC dX8_both_55 ?_
            try rw [nI_add]
            refine o_laldN (t0 := 1) hC rfl dX8_both_56 (by repeat (first | with_reducible assumption | (rw [rl_u_s]; done) | (rw [rl_u_s]; rfl) | rw [rl_u_n (by first | with_reducible assumption | omega)])) (by omega) (by decide) ?_
            refine o_lor hC dX8_both_57 ?_
            refine o_lstore hC dX8_both_58 (Nat.le_of_ble_eq_true rfl) ?_
            refine o_aload_n hC dX8_both_60 (by rfl) ?_
            refine o_getf hC (fX8_60 hC rfl) dX8_both_61 (by repeat (first | with_reducible assumption | (rw [rl_u_s]; done) | (rw [rl_u_s]; rfl) | rw [rl_u_n (by first | with_reducible assumption | omega)])) (by first | rfl | with_reducible assumption) ?_
            refine o_bipush (v := nI 12) hC dX8_both_64 (by decide +kernel) ?_
            refine o_iload_n hC dX8_both_66 (by rfl) ?_
            refine o_imul hC dX8_both_67 ?_
            try rw [nI_mul]
            refine o_iload hC dX8_both_68 (by rfl) ?_
            refine o_iadd hC dX8_both_70 ?_
            try rw [nI_add]
            refine o_laldN (t0 := 1) hC rfl dX8_both_71 (by repeat (first | with_reducible assumption | (rw [rl_u_s]; done) | (rw [rl_u_s]; rfl) | rw [rl_u_n (by first | with_reducible assumption | omega)])) (by omega) (by decide) ?_
            refine o_aload_n hC dX8_both_72 (by rfl) ?_
            refine o_getf hC (fX8_60 hC rfl) dX8_both_73 (by repeat (first | with_reducible assumption | (rw [rl_u_s]; done) | (rw [rl_u_s]; rfl) | rw [rl_u_n (by first | with_reducible assumption | omega)])) (by first | rfl | with_reducible assumption) ?_
            refine o_bipush (v := nI 12) hC dX8_both_76 (by decide +kernel) ?_
            refine o_iload_n hC dX8_both_78 (by rfl) ?_
            refine o_imul hC dX8_both_79 ?_
            try rw [nI_mul]
            refine o_iload hC dX8_both_80 (by rfl) ?_
            refine o_iadd hC dX8_both_82 ?_
            try rw [nI_add]
            refine o_laldN (t0 := 1) hC rfl dX8_both_83 (by repeat (first | with_reducible assumption | (rw [rl_u_s]; done) | (rw [rl_u_s]; rfl) | rw [rl_u_n (by first | with_reducible assumption | omega)])) (by omega) (by decide) ?_
            refine o_lor hC dX8_both_84 ?_
            refine o_lstore hC dX8_both_85 (Nat.le_of_ble_eq_true rfl) ?_
            refine o_lload hC dX8_both_87 (by rfl) ?_
            refine o_lload hC dX8_both_89 (by rfl) ?_
            refine o_land hC dX8_both_91 ?_
            refine o_lconst (v := 0) hC dX8_both_92 (by decide +kernel) ?_
            refine o_lcmp hC dX8_both_93 ?_
            refine o_if_ne (tgt := 105) hC dX8_both_94 (by decide) (fun c_94 => ?_) (fun c_94 => ?_)
            · refine o_iinc hC dX8_both_105 (by rfl) (rl_inc _) (Nat.le_of_ble_eq_true rfl) ?_
              refine o_goto (tgt := 22) hC dX8_both_108 (by decide) ?_
              refine ih2 (j + 1) _ _ hn2 hl2 _ _ (by omega) (by omega) hq2 ?_
              rw [hls2, tls, List.map_append, ← List.append_assoc, List.filter_append (l₁ := _ ++ _)]
              exact ((List.append_nil _).symm.trans (congrArg (_ ++ ·) (List.filter_cons_of_neg (p := fun e => decide (tok e)) (a := (A.2.2.2.2.1 (12 * a + i) ||| A.2.2.2.2.1 (12 * b + j), A.2.2.2.2.2.1 (12 * a + i) ||| A.2.2.2.2.2.1 (12 * b + j))) (l := []) (fun w => c_94 ((lg_cmp_eq _ _).mpr (of_decide_eq_true w)))).symm))
            · refine o_aload_n hC dX8_both_97 (by rfl) ?_
              refine o_lload hC dX8_both_98 (by rfl) ?_
              refine o_lload hC dX8_both_100 (by rfl) ?_
              refine o_callV2 hC rl_BW_good rl_Ns_nw (by exact hB.2.2.2.2.2) YX8_heapTerm IX8_heapTerm VX8_heapTerm (mX8_95 hC) (by rw [hB.1]; exact cf_X8_heapTerm l D ids H0 _ _ m T _ _ _ _ _ hq2.rf (by omega)) (by exact hq2.1.1) rfl rfl (Nat.le_of_ble_eq_true rfl) (by rw [hB.2.1]; first | exact Nat.le_of_ble_eq_true rfl | (dsimp only; omega)) (by rw [hB.2.1]; first | exact Nat.le_of_ble_eq_true rfl | (dsimp only; omega)) (by rw [hB.2.1]; first | exact Nat.le_of_ble_eq_true rfl | (dsimp only; omega)) (by rw [hB.2.1]; first | exact Nat.le_of_ble_eq_true rfl | (dsimp only; omega)) dX8_both_102 (fun v h_102 n_102 p_102 => ?_)
              obtain ⟨rfl, rfl, q1⟩ := p_102
              try dsimp only [Option.toList, List.cons_append, List.nil_append]
              refine o_iinc hC dX8_both_105 (by rfl) (rl_inc _) (Nat.le_of_ble_eq_true rfl) ?_
              refine o_goto (tgt := 22) hC dX8_both_108 (by decide) ?_
              refine ih2 (j + 1) _ _ (vp_updL hn2 k2 (A.2.2.2.2.1 (12 * a + i) ||| A.2.2.2.2.1 (12 * b + j))) (vp_updL hl2 k2 (A.2.2.2.2.2.1 (12 * a + i) ||| A.2.2.2.2.2.1 (12 * b + j))) _ _ (by omega) (by omega) (hq2.tr q1) ?_
              rw [tls, up_at, up_at, tls_eq (F := hn2) (G := hl2) (fun q hq => ⟨up_ne (by omega), up_ne (by omega)⟩), hls2, tls, List.map_append, ← List.append_assoc, List.filter_append (l₁ := _ ++ _)]
              congr 1
              exact (List.filter_cons_of_pos (p := fun e => decide (tok e)) (a := (A.2.2.2.2.1 (12 * a + i) ||| A.2.2.2.2.1 (12 * b + j), A.2.2.2.2.2.1 (12 * a + i) ||| A.2.2.2.2.2.1 (12 * b + j))) (l := []) (decide_eq_true ((lg_cmp_eq _ _).mp c_94))).symm
      obtain ⟨hm0, g12, g13, g14, g15, g16, g17, g18, g19, g20, g21, g22⟩ := id hq1
      have g0 := hm0.1
      have gk := hm0.2.1
      refine o_iload hC dX8_both_8 (by rfl) ?_
      refine o_aload_n hC dX8_both_10 (by rfl) ?_
      refine o_getf hC (fX8_53 hC rfl) dX8_both_11 (by repeat (first | with_reducible assumption | (rw [rl_u_s]; done) | (rw [rl_u_s]; rfl) | rw [rl_u_n (by first | with_reducible assumption | omega)])) (by first | rfl | with_reducible assumption) ?_
      refine o_iload_n hC dX8_both_14 (by rfl) ?_
      refine o_ialdN (t0 := 0) (k := a) hC rfl dX8_both_15 (by repeat (first | with_reducible assumption | (rw [rl_u_s]; done) | (rw [rl_u_s]; rfl) | rw [rl_u_n (by first | with_reducible assumption | omega)])) (by omega) (by decide) ?_
      rw [ha.1]
      refine o_icmp_ge (tgt := 117) hC dX8_both_16 (by decide) (fun c_16 => ?_) (fun c_16 => ?_)
      · exact absurd c_16 (nI_ge (by omega) (by omega))
      · refine o_iconst (v := nI 0) hC dX8_both_19 (by decide +kernel) ?_
        refine o_istore hC dX8_both_20 (Nat.le_of_ble_eq_true rfl) ?_
        exact loop2 Lb.length 0 k1 _ hn1 hl1 _ _ (by omega) (by omega) hq1 (by rw [hls, tls, List.map_nil, List.append_nil])
  show rl_G X (rl_e D ids H0) 0 [some (.ref m), some (.int (nI c)), some (.int (nI a)), some (.int (nI b)), none, none, none, none, none, none] [] h n 0 0
  refine o_aload_n hC dX8_both_0 (by rfl) ?_
  refine o_iconst (v := nI 0) hC dX8_both_1 (by decide +kernel) ?_
  refine o_putf hC (fX8_82 hC rfl) (fwX8 rfl rfl rfl (Or.inl rfl)) dX8_both_2 (by repeat (first | with_reducible assumption | (rw [rl_u_s]; done) | (rw [rl_u_s]; rfl) | rw [rl_u_n (by first | with_reducible assumption | omega)])) (Nat.le_of_ble_eq_true rfl) ?_
  try simp only [List.set_cons_zero, List.set_cons_succ]
  refine o_iconst (v := nI 0) hC dX8_both_5 (by decide +kernel) ?_
  refine o_istore hC dX8_both_6 (Nat.le_of_ble_eq_true rfl) ?_
  exact loop1 La.length 0 0 _ A.2.2.2.2.2.2.1 A.2.2.2.2.2.2.2.1 _ _ _ (by omega) (by omega) (hq.ob T fu 0 (by omega)) rfl
