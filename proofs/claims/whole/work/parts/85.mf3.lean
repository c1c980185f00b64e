/-! THE MODEL, functionally: turn, not -/
theorem tadd_no {L : List tT} {t : tT} (h : ¬ tok t) : tadd L t = L := if_pos h
theorem tadd_ab {L : List tT} {t : tT} (h : ∃ e ∈ L, tle e t) : tadd L t = L := by
  unfold tadd
  by_cases ho : tok t
  · rw [if_neg (fun q => q ho), if_pos h]
  · rw [if_pos ho]
theorem tadd_new {L : List tT} {t : tT} (ho : tok t) (h : ¬ ∃ e ∈ L, tle e t) : tadd L t = L.filter (fun e => decide (¬ tle t e)) ++ [t] := by
  unfold tadd
  rw [if_neg (fun q => q ho), if_neg h]
/-- NOT of the model: FULL is none -/
def wrn (A : md_D) (c : Nat) (fu' : Int32) (r : Option (List tT)) : Prop := (∃ L : List tT, r = some L ∧ fu' = nI 0 ∧ mws A c L ∧ wok L) ∨ (r = none ∧ fu' = nI 1)
theorem tnot_full {W : List tT} {c e : Int64} {j r : Nat} (hW : wok W) (hj : j < W.length) (hr : r < 36) (h : 161 ≤ (tfl (tall (tfn W) c e 0 j ++ (List.range (r + 1)).filterMap (tvar (tfn W j) c e))).length) : 12 < (tfl (tall (tfn W) c e 0 W.length)).length := by
  have hs : tcs (tfn W) c e j = (List.range (r + 1)).filterMap (tvar (tfn W j) c e) ++ (List.range' (r + 1) (36 - (r + 1))).filterMap (tvar (tfn W j) c e) := by
    unfold tcs
    have e2 := List.range'_append_1 (s := 0) (m := r + 1) (n := 36 - (r + 1))
    rw [Nat.zero_add, show r + 1 + (36 - (r + 1)) = 36 by omega] at e2
    rw [← List.filterMap_append, List.range_eq_range', List.range_eq_range', e2]
  have hp : ∀ i : Nat, i < W.length → ∀ q : Nat, q < W.length → i ≠ q → ¬ tle (tfn W i) (tfn W q) := by
    intro i hi q hq hiq w
    have gi : tfn W i = W[i] := by unfold tfn; rw [List.getD_eq_getElem?_getD, List.getElem?_eq_getElem hi]; rfl
    have gq : tfn W q = W[q] := by unfold tfn; rw [List.getD_eq_getElem?_getD, List.getElem?_eq_getElem hq]; rfl
    rw [gi, gq] at w
    have h2 := List.pairwise_iff_getElem.mp hW.1
    rcases Nat.lt_or_gt_of_ne hiq with u | u
    · exact (h2 i q hi hq u).1 w
    · exact (h2 q i hq hi u).2 w
  have := tnot_long hW.2.2.2 hj hp hs
  omega

set_option maxHeartbeats 4000000 in
set_option maxRecDepth 100000 in
theorem cf_X8_turn (l : Launch) (D : va_G) (ids : Nat → ClassId) (H0 : Heap) (h : rl_H) (n : Nat) (m : Nat) (T : md_T) (fu : Int32) (k : Nat) (A : md_D) (a b : Int64) (hq : mf ids h h m T fu k A)  : rl_Met l (rl_e D ids H0) rl_BW rl_Ns yX8_turn cX8_turn 7 none ({ frames := 1, cells := 0, slots := 0, locals := 24 }) [.ref m, .long a, .long b] h n (fun v h' n' => ∃ (fu' : Int32) (k' : Nat) (hn' hl' : Nat → Int64), v = none ∧ n' = n ∧ mf ids h h' m T fu' k' (A.1, A.2.1, A.2.2.1, A.2.2.2.1, A.2.2.2.2.1, A.2.2.2.2.2.1, hn', hl', A.2.2.2.2.2.2.2.2.1, A.2.2.2.2.2.2.2.2.2.1, A.2.2.2.2.2.2.2.2.2.2) ∧ ((fu' = fu ∧ tls hn' hl' k' = tadd (tls A.2.2.2.2.2.2.1 A.2.2.2.2.2.2.2.1 k) (a, b)) ∨ (fu' = nI 1 ∧ 161 ≤ (tadd (tls A.2.2.2.2.2.2.1 A.2.2.2.2.2.2.2.1 k) (a, b)).length))) := by
  obtain ⟨hm0, g12, g13, g14, g15, g16, g17, g18, g19, g20, g21, g22⟩ := id hq
  have g0 := hm0.1
  have gk := hm0.2.1
  have b13 := hq.b13
  have b15 := hq.b15
  have b21 := hq.b21
  refine rl_Met.of (by decide +kernel) (Nat.le_of_ble_eq_true rfl) ?_
  intro X hC hB
  have loop2 : tok (a, b) → (¬ ∃ e ∈ (tls A.2.2.2.2.2.2.1 A.2.2.2.2.2.2.2.1 k), tle e (a, b)) → ∀ (mm i lf : Nat) (h1 : rl_H) (hn1 hl1 : Nat → Int64), i + mm = k → lf ≤ i → mf ids h h1 m T fu k (A.1, A.2.1, A.2.2.1, A.2.2.2.1, A.2.2.2.2.1, A.2.2.2.2.2.1, hn1, hl1, A.2.2.2.2.2.2.2.2.1, A.2.2.2.2.2.2.2.2.2.1, A.2.2.2.2.2.2.2.2.2.2) → (∀ q : Nat, i ≤ q → hn1 q = A.2.2.2.2.2.2.1 q ∧ hl1 q = A.2.2.2.2.2.2.2.1 q) → tls hn1 hl1 lf = (tls A.2.2.2.2.2.2.1 A.2.2.2.2.2.2.2.1 i).filter (fun e => decide (¬ tle (a, b) e)) → rl_G X (rl_e D ids H0) 70 [some (.ref m), some (.long a), none, some (.long b), none, some (.int (nI lf)), some (.int (nI i))] [] h1 n 0 0 := by
    intro htk hnone mm
    induction mm with
    | zero =>
      intro i lf h1 hn1 hl1 hm hl0 hq1 hsm hls
      have ei : i = k := by omega
      subst ei
      obtain ⟨hm0, g12, g13, g14, g15, g16, g17, g18, g19, g20, g21, g22⟩ := id hq1
      have g0 := hm0.1
      have gk := hm0.2.1
      refine o_iload hC dX8_turn_70 (by rfl) ?_
      refine o_aload_n hC dX8_turn_72 (by rfl) ?_
      refine o_getf hC (fX8_82 hC rfl) dX8_turn_73 (by repeat (first | with_reducible assumption | (rw [rl_u_s]; done) | (rw [rl_u_s]; rfl) | rw [rl_u_n (by first | with_reducible assumption | omega)])) (by first | rfl | with_reducible assumption) ?_
      refine o_icmp_ge (tgt := 152) hC dX8_turn_76 (by decide) (fun c_76 => ?_) (fun c_76 => ?_)
      · refine o_aload_n hC dX8_turn_152 (by rfl) ?_
        refine o_iload hC dX8_turn_153 (by rfl) ?_
        refine o_putf hC (fX8_82 hC rfl) (fwX8 rfl rfl rfl (Or.inl rfl)) dX8_turn_155 (by repeat (first | with_reducible assumption | (rw [rl_u_s]; done) | (rw [rl_u_s]; rfl) | rw [rl_u_n (by first | with_reducible assumption | omega)])) (Nat.le_of_ble_eq_true rfl) ?_
        try simp only [List.set_cons_zero, List.set_cons_succ]
        refine o_aload_n hC dX8_turn_158 (by rfl) ?_
        refine o_getf hC (fX8_82 hC rfl) dX8_turn_159 (by repeat (first | with_reducible assumption | (rw [rl_u_s]; done) | (rw [rl_u_s]; rfl) | rw [rl_u_n (by first | with_reducible assumption | omega)])) (by first | rfl | with_reducible assumption) ?_
        refine o_sipush (v := nI 160) hC dX8_turn_162 (by decide +kernel) ?_
        refine o_icmp_ne (tgt := 178) hC dX8_turn_165 (by decide) (fun c_165 => ?_) (fun c_165 => ?_)
        · have l160 : lf ≠ 160 := fun e => c_165 (by rw [e])
          have hq3 := hq1.ob T fu lf (by omega)
          refine o_aload_n hC dX8_turn_178 (by rfl) ?_
          refine o_lload_n hC dX8_turn_179 (by rfl) ?_
          refine o_lload_n hC dX8_turn_180 (by rfl) ?_
          refine o_callV2 hC rl_BW_good rl_Ns_nw (by exact hB.2.2.2.2.2) YX8_heapTerm IX8_heapTerm VX8_heapTerm (mX8_95 hC) (by rw [hB.1]; exact cf_X8_heapTerm l D ids H0 _ _ m T _ _ _ _ _ hq3.rf (by omega)) (by exact hq3.1.1) rfl rfl (Nat.le_of_ble_eq_true rfl) (by rw [hB.2.1]; first | exact Nat.le_of_ble_eq_true rfl | (dsimp only; omega)) (by rw [hB.2.1]; first | exact Nat.le_of_ble_eq_true rfl | (dsimp only; omega)) (by rw [hB.2.1]; first | exact Nat.le_of_ble_eq_true rfl | (dsimp only; omega)) (by rw [hB.2.1]; first | exact Nat.le_of_ble_eq_true rfl | (dsimp only; omega)) dX8_turn_181 (fun v h_181 n_181 p_181 => ?_)
          obtain ⟨rfl, rfl, q1⟩ := p_181
          try dsimp only [Option.toList, List.cons_append, List.nil_append]
          refine o_vret hC hB dX8_turn_184 (Nat.le_of_ble_eq_true rfl) (Nat.le_of_ble_eq_true rfl) ?_
          refine ⟨_, _, vp_updL hn1 lf a, vp_updL hl1 lf b, rfl, rfl, hq3.tr q1, Or.inl ⟨rfl, ?_⟩⟩
          rw [tadd_new htk hnone, tls, up_at, up_at, tls_eq (F := hn1) (G := hl1) (fun q hq => ⟨up_ne (by omega), up_ne (by omega)⟩), hls]
        · have l160 : lf = 160 := nI_inj2 (by omega) (by decide) c_165
          have hq2 := hq1.ob T fu lf (by omega)
          refine o_aload_n hC dX8_turn_168 (by rfl) ?_
          refine o_iconst (v := nI 1) hC dX8_turn_169 (by decide +kernel) ?_
          refine o_putf hC (fX8_91 hC rfl) (fwX8 rfl rfl rfl (Or.inl rfl)) dX8_turn_170 (by repeat (first | with_reducible assumption | (rw [rl_u_s]; done) | (rw [rl_u_s]; rfl) | rw [rl_u_n (by first | with_reducible assumption | omega)])) (Nat.le_of_ble_eq_true rfl) ?_
          try simp only [List.set_cons_zero, List.set_cons_succ]
          refine o_aload_n hC dX8_turn_173 (by rfl) ?_
          refine o_iconst (v := nI 0) hC dX8_turn_174 (by decide +kernel) ?_
          refine o_putf hC (fX8_82 hC rfl) (fwX8 rfl rfl rfl (Or.inl rfl)) dX8_turn_175 (by repeat (first | with_reducible assumption | (rw [rl_u_s]; done) | (rw [rl_u_s]; rfl) | rw [rl_u_n (by first | with_reducible assumption | omega)])) (Nat.le_of_ble_eq_true rfl) ?_
          try simp only [List.set_cons_zero, List.set_cons_succ]
          have hq3 := (hq2.ob T (nI 1) lf (by omega)).ob T (nI 1) 0 (by omega)
          refine o_aload_n hC dX8_turn_178 (by rfl) ?_
          refine o_lload_n hC dX8_turn_179 (by rfl) ?_
          refine o_lload_n hC dX8_turn_180 (by rfl) ?_
          refine o_callV2 hC rl_BW_good rl_Ns_nw (by exact hB.2.2.2.2.2) YX8_heapTerm IX8_heapTerm VX8_heapTerm (mX8_95 hC) (by rw [hB.1]; exact cf_X8_heapTerm l D ids H0 _ _ m T _ _ _ _ _ hq3.rf (by omega)) (by exact hq3.1.1) rfl rfl (Nat.le_of_ble_eq_true rfl) (by rw [hB.2.1]; first | exact Nat.le_of_ble_eq_true rfl | (dsimp only; omega)) (by rw [hB.2.1]; first | exact Nat.le_of_ble_eq_true rfl | (dsimp only; omega)) (by rw [hB.2.1]; first | exact Nat.le_of_ble_eq_true rfl | (dsimp only; omega)) (by rw [hB.2.1]; first | exact Nat.le_of_ble_eq_true rfl | (dsimp only; omega)) dX8_turn_181 (fun v h_181 n_181 p_181 => ?_)
          obtain ⟨rfl, rfl, q1⟩ := p_181
          try dsimp only [Option.toList, List.cons_append, List.nil_append]
          refine o_vret hC hB dX8_turn_184 (Nat.le_of_ble_eq_true rfl) (Nat.le_of_ble_eq_true rfl) ?_
          refine ⟨_, _, _, _, rfl, rfl, hq3.tr q1, Or.inr ⟨rfl, ?_⟩⟩
          rw [tadd_new htk hnone, ← hls, List.length_append, tls_len]
          exact Nat.succ_le_succ (Nat.le_of_eq l160.symm)
      · exact absurd (nI_le (by omega) (by omega)) c_76
    | succ mm ih =>
      intro i lf h1 hn1 hl1 hm hl0 hq1 hsm hls
      obtain ⟨hm0, g12, g13, g14, g15, g16, g17, g18, g19, g20, g21, g22⟩ := id hq1
      have g0 := hm0.1
      have gk := hm0.2.1
      have e1 := (hsm i (Nat.le_refl _)).1
      have e2 := (hsm i (Nat.le_refl _)).2
      refine o_iload hC dX8_turn_70 (by rfl) ?_
      refine o_aload_n hC dX8_turn_72 (by rfl) ?_
      refine o_getf hC (fX8_82 hC rfl) dX8_turn_73 (by repeat (first | with_reducible assumption | (rw [rl_u_s]; done) | (rw [rl_u_s]; rfl) | rw [rl_u_n (by first | with_reducible assumption | omega)])) (by first | rfl | with_reducible assumption) ?_
      refine o_icmp_ge (tgt := 152) hC dX8_turn_76 (by decide) (fun c_76 => ?_) (fun c_76 => ?_)
      · exact absurd c_76 (nI_ge (by omega) (by omega))
      · refine o_lload_n hC dX8_turn_79 (by rfl) ?_
        refine o_aload_n hC dX8_turn_80 (by rfl) ?_
        refine o_getf hC (fX8_63 hC rfl) dX8_turn_81 (by repeat (first | with_reducible assumption | (rw [rl_u_s]; done) | (rw [rl_u_s]; rfl) | rw [rl_u_n (by first | with_reducible assumption | omega)])) (by first | rfl | with_reducible assumption) ?_
        refine o_iload hC dX8_turn_84 (by rfl) ?_
        refine o_laldN (t0 := 1) hC rfl dX8_turn_86 (by repeat (first | with_reducible assumption | (rw [rl_u_s]; done) | (rw [rl_u_s]; rfl) | rw [rl_u_n (by first | with_reducible assumption | omega)])) (by omega) (by decide) ?_
        refine o_ldc2 hC nX8_85 dX8_turn_87 ?_
        refine o_lxor hC dX8_turn_90 ?_
        refine o_land hC dX8_turn_91 ?_
        refine o_lconst (v := 0) hC dX8_turn_92 (by decide +kernel) ?_
        refine o_lcmp hC dX8_turn_93 ?_
        refine o_if_ne (tgt := 115) hC dX8_turn_94 (by decide) (fun c_94 => ?_) (fun c_94 => ?_)
        · have nk : ¬ tle (a, b) (A.2.2.2.2.2.2.1 i, A.2.2.2.2.2.2.2.1 i) := by
            rw [← e1, ← e2]
            first
            | exact fun w => c_94 ((lg_cmp_eq _ _).mpr w.1)
            | exact fun w => c_112 ((lg_cmp_eq _ _).mpr w.2)
          refine o_aload_n hC dX8_turn_115 (by rfl) ?_
          refine o_getf hC (fX8_63 hC rfl) dX8_turn_116 (by repeat (first | with_reducible assumption | (rw [rl_u_s]; done) | (rw [rl_u_s]; rfl) | rw [rl_u_n (by first | with_reducible assumption | omega)])) (by first | rfl | with_reducible assumption) ?_
          refine o_iload hC dX8_turn_119 (by rfl) ?_
          refine o_aload_n hC dX8_turn_121 (by rfl) ?_
          refine o_getf hC (fX8_63 hC rfl) dX8_turn_122 (by repeat (first | with_reducible assumption | (rw [rl_u_s]; done) | (rw [rl_u_s]; rfl) | rw [rl_u_n (by first | with_reducible assumption | omega)])) (by first | rfl | with_reducible assumption) ?_
          refine o_iload hC dX8_turn_125 (by rfl) ?_
          refine o_laldN (t0 := 1) hC rfl dX8_turn_127 (by repeat (first | with_reducible assumption | (rw [rl_u_s]; done) | (rw [rl_u_s]; rfl) | rw [rl_u_n (by first | with_reducible assumption | omega)])) (by omega) (by decide) ?_
          refine o_lastN (t0 := 1) hC rfl dX8_turn_128 (by repeat (first | with_reducible assumption | (rw [rl_u_s]; done) | (rw [rl_u_s]; rfl) | rw [rl_u_n (by first | with_reducible assumption | omega)])) (by omega) (by decide) ?_
          refine o_aload_n hC dX8_turn_129 (by rfl) ?_
          refine o_getf hC (fX8_66 hC rfl) dX8_turn_130 (by repeat (first | with_reducible assumption | (rw [rl_u_s]; done) | (rw [rl_u_s]; rfl) | rw [rl_u_n (by first | with_reducible assumption | omega)])) (by first | rfl | with_reducible assumption) ?_
          refine o_iload hC dX8_turn_133 (by rfl) ?_
          refine o_aload_n hC dX8_turn_135 (by rfl) ?_
          refine o_getf hC (fX8_66 hC rfl) dX8_turn_136 (by repeat (first | with_reducible assumption | (rw [rl_u_s]; done) | (rw [rl_u_s]; rfl) | rw [rl_u_n (by first | with_reducible assumption | omega)])) (by first | rfl | with_reducible assumption) ?_
          refine o_iload hC dX8_turn_139 (by rfl) ?_
          refine o_laldN (t0 := 1) hC rfl dX8_turn_141 (by repeat (first | with_reducible assumption | (rw [rl_u_s]; done) | (rw [rl_u_s]; rfl) | rw [rl_u_n (by first | with_reducible assumption | omega)])) (by omega) (by decide) ?_
          refine o_lastN (t0 := 1) hC rfl dX8_turn_142 (by repeat (first | with_reducible assumption | (rw [rl_u_s]; done) | (rw [rl_u_s]; rfl) | rw [rl_u_n (by first | with_reducible assumption | omega)])) (by omega) (by decide) ?_
          refine o_iinc hC dX8_turn_143 (by rfl) (rl_inc _) (Nat.le_of_ble_eq_true rfl) ?_
          refine o_iinc hC dX8_turn_146 (by rfl) (rl_inc _) (Nat.le_of_ble_eq_true rfl) ?_
          refine o_goto (tgt := 70) hC dX8_turn_149 (by decide) ?_
          refine ih (i + 1) (lf + 1) _ (vp_updL hn1 lf (hn1 i)) (vp_updL hl1 lf (hl1 i)) (by omega) (by omega) ((hq1.s18 _).s19 _) (fun q hq => ⟨(up_ne (by omega)).trans (hsm q (by omega)).1, (up_ne (by omega)).trans (hsm q (by omega)).2⟩) ?_
          rw [tls, up_at, up_at, tls_eq (F := hn1) (G := hl1) (fun q hq => ⟨up_ne (by omega), up_ne (by omega)⟩), hls, tls, List.filter_append, tf_pos nk, List.filter_nil, e1, e2]
        · refine o_lload_n hC dX8_turn_97 (by rfl) ?_
          refine o_aload_n hC dX8_turn_98 (by rfl) ?_
          refine o_getf hC (fX8_66 hC rfl) dX8_turn_99 (by repeat (first | with_reducible assumption | (rw [rl_u_s]; done) | (rw [rl_u_s]; rfl) | rw [rl_u_n (by first | with_reducible assumption | omega)])) (by first | rfl | with_reducible assumption) ?_
          refine o_iload hC dX8_turn_102 (by rfl) ?_
          refine o_laldN (t0 := 1) hC rfl dX8_turn_104 (by repeat (first | with_reducible assumption | (rw [rl_u_s]; done) | (rw [rl_u_s]; rfl) | rw [rl_u_n (by first | with_reducible assumption | omega)])) (by omega) (by decide) ?_
          refine o_ldc2 hC nX8_85 dX8_turn_105 ?_
          refine o_lxor hC dX8_turn_108 ?_
          refine o_land hC dX8_turn_109 ?_
          refine o_lconst (v := 0) hC dX8_turn_110 (by decide +kernel) ?_
          refine o_lcmp hC dX8_turn_111 ?_
          refine o_if_eq (tgt := 146) hC dX8_turn_112 (by decide) (fun c_112 => ?_) (fun c_112 => ?_)
          · refine o_iinc hC dX8_turn_146 (by rfl) (rl_inc _) (Nat.le_of_ble_eq_true rfl) ?_
            refine o_goto (tgt := 70) hC dX8_turn_149 (by decide) ?_
            refine ih (i + 1) lf _ hn1 hl1 (by omega) (by omega) hq1 (fun q hq => hsm q (by omega)) ?_
            rw [hls, tls, List.filter_append, tf_neg (show tle (a, b) (A.2.2.2.2.2.2.1 i, A.2.2.2.2.2.2.2.1 i) from by rw [← e1, ← e2]; exact ⟨(lg_cmp_eq _ _).mp c_94, (lg_cmp_eq _ _).mp c_112⟩), List.filter_nil, List.append_nil]
          · have nk : ¬ tle (a, b) (A.2.2.2.2.2.2.1 i, A.2.2.2.2.2.2.2.1 i) := by
              rw [← e1, ← e2]
              first
              | exact fun w => c_94 ((lg_cmp_eq _ _).mpr w.1)
              | exact fun w => c_112 ((lg_cmp_eq _ _).mpr w.2)
            refine o_aload_n hC dX8_turn_115 (by rfl) ?_
            refine o_getf hC (fX8_63 hC rfl) dX8_turn_116 (by repeat (first | with_reducible assumption | (rw [rl_u_s]; done) | (rw [rl_u_s]; rfl) | rw [rl_u_n (by first | with_reducible assumption | omega)])) (by first | rfl | with_reducible assumption) ?_
            refine o_iload hC dX8_turn_119 (by rfl) ?_
            refine o_aload_n hC dX8_turn_121 (by rfl) ?_
            refine o_getf hC (fX8_63 hC rfl) dX8_turn_122 (by repeat (first | with_reducible assumption | (rw [rl_u_s]; done) | (rw [rl_u_s]; rfl) | rw [rl_u_n (by first | with_reducible assumption | omega)])) (by first | rfl | with_reducible assumption) ?_
            refine o_iload hC dX8_turn_125 (by rfl) ?_
            refine o_laldN (t0 := 1) hC rfl dX8_turn_127 (by repeat (first | with_reducible assumption | (rw [rl_u_s]; done) | (rw [rl_u_s]; rfl) | rw [rl_u_n (by first | with_reducible assumption | omega)])) (by omega) (by decide) ?_
            refine o_lastN (t0 := 1) hC rfl dX8_turn_128 (by repeat (first | with_reducible assumption | (rw [rl_u_s]; done) | (rw [rl_u_s]; rfl) | rw [rl_u_n (by first | with_reducible assumption | omega)])) (by omega) (by decide) ?_
            refine o_aload_n hC dX8_turn_129 (by rfl) ?_
            refine o_getf hC (fX8_66 hC rfl) dX8_turn_130 (by repeat (first | with_reducible assumption | (rw [rl_u_s]; done) | (rw [rl_u_s]; rfl) | rw [rl_u_n (by first | with_reducible assumption | omega)])) (by first | rfl | with_reducible assumption) ?_
            refine o_iload hC dX8_turn_133 (by rfl) ?_
            refine o_aload_n hC dX8_turn_135 (by rfl) ?_
            refine o_getf hC (fX8_66 hC rfl) dX8_turn_136 (by repeat (first | with_reducible assumption | (rw [rl_u_s]; done) | (rw [rl_u_s]; rfl) | rw [rl_u_n (by first | with_reducible assumption | omega)])) (by first | rfl | with_reducible assumption) ?_
            refine o_iload hC dX8_turn_139 (by rfl) ?_
            refine o_laldN (t0 := 1) hC rfl dX8_turn_141 (by repeat (first | with_reducible assumption | (rw [rl_u_s]; done) | (rw [rl_u_s]; rfl) | rw [rl_u_n (by first | with_reducible assumption | omega)])) (by omega) (by decide) ?_
            refine o_lastN (t0 := 1) hC rfl dX8_turn_142 (by repeat (first | with_reducible assumption | (rw [rl_u_s]; done) | (rw [rl_u_s]; rfl) | rw [rl_u_n (by first | with_reducible assumption | omega)])) (by omega) (by decide) ?_
            refine o_iinc hC dX8_turn_143 (by rfl) (rl_inc _) (Nat.le_of_ble_eq_true rfl) ?_
            refine o_iinc hC dX8_turn_146 (by rfl) (rl_inc _) (Nat.le_of_ble_eq_true rfl) ?_
            refine o_goto (tgt := 70) hC dX8_turn_149 (by decide) ?_
            refine ih (i + 1) (lf + 1) _ (vp_updL hn1 lf (hn1 i)) (vp_updL hl1 lf (hl1 i)) (by omega) (by omega) ((hq1.s18 _).s19 _) (fun q hq => ⟨(up_ne (by omega)).trans (hsm q (by omega)).1, (up_ne (by omega)).trans (hsm q (by omega)).2⟩) ?_
            rw [tls, up_at, up_at, tls_eq (F := hn1) (G := hl1) (fun q hq => ⟨up_ne (by omega), up_ne (by omega)⟩), hls, tls, List.filter_append, tf_pos nk, List.filter_nil, e1, e2]
  have loop1 : tok (a, b) → ∀ (mm i : Nat), i + mm = k → (∀ q : Nat, q < i → ¬ tle (A.2.2.2.2.2.2.1 q, A.2.2.2.2.2.2.2.1 q) (a, b)) → rl_G X (rl_e D ids H0) 12 [some (.ref m), some (.long a), none, some (.long b), none, some (.int (nI i)), none] [] h n 0 0 := by
    intro htk mm
    induction mm with
    | zero =>
      intro i hm hno
      refine o_iload hC dX8_turn_12 (by rfl) ?_
      refine o_aload_n hC dX8_turn_14 (by rfl) ?_
      refine o_getf hC (fX8_82 hC rfl) dX8_turn_15 (by repeat (first | with_reducible assumption | (rw [rl_u_s]; done) | (rw [rl_u_s]; rfl) | rw [rl_u_n (by first | with_reducible assumption | omega)])) (by first | rfl | with_reducible assumption) ?_
      refine o_icmp_ge (tgt := 64) hC dX8_turn_18 (by decide) (fun c_18 => ?_) (fun c_18 => ?_)
      · refine o_iconst (v := nI 0) hC dX8_turn_64 (by decide +kernel) ?_
        refine o_istore hC dX8_turn_65 (Nat.le_of_ble_eq_true rfl) ?_
        refine o_iconst (v := nI 0) hC dX8_turn_67 (by decide +kernel) ?_
        refine o_istore hC dX8_turn_68 (Nat.le_of_ble_eq_true rfl) ?_
        exact loop2 htk (fun ⟨e, he, hle⟩ => by obtain ⟨q, hq, rfl⟩ := tls_mem.mp he; exact hno q (by omega) hle) k 0 0 _ A.2.2.2.2.2.2.1 A.2.2.2.2.2.2.2.1 (by omega) (by omega) hq (fun _ _ => ⟨rfl, rfl⟩) rfl
      · exact absurd (nI_le (by omega) (by omega)) c_18
    | succ mm ih =>
      intro i hm hno
      refine o_iload hC dX8_turn_12 (by rfl) ?_
      refine o_aload_n hC dX8_turn_14 (by rfl) ?_
      refine o_getf hC (fX8_82 hC rfl) dX8_turn_15 (by repeat (first | with_reducible assumption | (rw [rl_u_s]; done) | (rw [rl_u_s]; rfl) | rw [rl_u_n (by first | with_reducible assumption | omega)])) (by first | rfl | with_reducible assumption) ?_
      refine o_icmp_ge (tgt := 64) hC dX8_turn_18 (by decide) (fun c_18 => ?_) (fun c_18 => ?_)
      · exact absurd c_18 (nI_ge (by omega) (by omega))
      · refine o_aload_n hC dX8_turn_21 (by rfl) ?_
        refine o_getf hC (fX8_63 hC rfl) dX8_turn_22 (by repeat (first | with_reducible assumption | (rw [rl_u_s]; done) | (rw [rl_u_s]; rfl) | rw [rl_u_n (by first | with_reducible assumption | omega)])) (by first | rfl | with_reducible assumption) ?_
        refine o_iload hC dX8_turn_25 (by rfl) ?_
        refine o_laldN (t0 := 1) hC rfl dX8_turn_27 (by repeat (first | with_reducible assumption | (rw [rl_u_s]; done) | (rw [rl_u_s]; rfl) | rw [rl_u_n (by first | with_reducible assumption | omega)])) (by omega) (by decide) ?_
        refine o_lload_n hC dX8_turn_28 (by rfl) ?_
        refine o_ldc2 hC nX8_85 dX8_turn_29 ?_
        refine o_lxor hC dX8_turn_32 ?_
        refine o_land hC dX8_turn_33 ?_
        refine o_lconst (v := 0) hC dX8_turn_34 (by decide +kernel) ?_
        refine o_lcmp hC dX8_turn_35 ?_
        refine o_if_ne (tgt := 58) hC dX8_turn_36 (by decide) (fun c_36 => ?_) (fun c_36 => ?_)
        · refine o_iinc hC dX8_turn_58 (by rfl) (rl_inc _) (Nat.le_of_ble_eq_true rfl) ?_
          refine o_goto (tgt := 12) hC dX8_turn_61 (by decide) ?_
          refine ih (i + 1) (by omega) (fun q hq => ?_)
          by_cases e : q = i
          · subst e
            first
            | exact fun w => c_36 ((lg_cmp_eq _ _).mpr w.1)
            | exact fun w => c_54 ((lg_cmp_eq _ _).mpr w.2)
          · exact hno q (by omega)
        · refine o_aload_n hC dX8_turn_39 (by rfl) ?_
          refine o_getf hC (fX8_66 hC rfl) dX8_turn_40 (by repeat (first | with_reducible assumption | (rw [rl_u_s]; done) | (rw [rl_u_s]; rfl) | rw [rl_u_n (by first | with_reducible assumption | omega)])) (by first | rfl | with_reducible assumption) ?_
          refine o_iload hC dX8_turn_43 (by rfl) ?_
          refine o_laldN (t0 := 1) hC rfl dX8_turn_45 (by repeat (first | with_reducible assumption | (rw [rl_u_s]; done) | (rw [rl_u_s]; rfl) | rw [rl_u_n (by first | with_reducible assumption | omega)])) (by omega) (by decide) ?_
          refine o_lload_n hC dX8_turn_46 (by rfl) ?_
          refine o_ldc2 hC nX8_85 dX8_turn_47 ?_
          refine o_lxor hC dX8_turn_50 ?_
          refine o_land hC dX8_turn_51 ?_
          refine o_lconst (v := 0) hC dX8_turn_52 (by decide +kernel) ?_
          refine o_lcmp hC dX8_turn_53 ?_
          refine o_if_ne (tgt := 58) hC dX8_turn_54 (by decide) (fun c_54 => ?_) (fun c_54 => ?_)
          · refine o_iinc hC dX8_turn_58 (by rfl) (rl_inc _) (Nat.le_of_ble_eq_true rfl) ?_
            refine o_goto (tgt := 12) hC dX8_turn_61 (by decide) ?_
            refine ih (i + 1) (by omega) (fun q hq => ?_)
            by_cases e : q = i
            · subst e
              first
              | exact fun w => c_36 ((lg_cmp_eq _ _).mpr w.1)
              | exact fun w => c_54 ((lg_cmp_eq _ _).mpr w.2)
            · exact hno q (by omega)
          · refine o_vret hC hB dX8_turn_57 (Nat.le_of_ble_eq_true rfl) (Nat.le_of_ble_eq_true rfl) ?_
            exact ⟨fu, k, A.2.2.2.2.2.2.1, A.2.2.2.2.2.2.2.1, rfl, rfl, hq, Or.inl ⟨rfl, (tadd_ab (t := (a, b)) ⟨(A.2.2.2.2.2.2.1 i, A.2.2.2.2.2.2.2.1 i), tls_mem.mpr ⟨i, by omega, rfl⟩, (lg_cmp_eq _ _).mp c_36, (lg_cmp_eq _ _).mp c_54⟩).symm⟩⟩
  show rl_G X (rl_e D ids H0) 0 [some (.ref m), some (.long a), none, some (.long b), none, none, none] [] h n 0 0
  refine o_lload_n hC dX8_turn_0 (by rfl) ?_
  refine o_lload_n hC dX8_turn_1 (by rfl) ?_
  refine o_land hC dX8_turn_2 ?_
  refine o_lconst (v := 0) hC dX8_turn_3 (by decide +kernel) ?_
  refine o_lcmp hC dX8_turn_4 ?_
  refine o_if_eq (tgt := 9) hC dX8_turn_5 (by decide) (fun c_5 => ?_) (fun c_5 => ?_)
  · refine o_iconst (v := nI 0) hC dX8_turn_9 (by decide +kernel) ?_
    refine o_istore hC dX8_turn_10 (Nat.le_of_ble_eq_true rfl) ?_
    exact loop1 ((lg_cmp_eq _ _).mp c_5) k 0 (by omega) (fun q hq => absurd hq (Nat.not_lt_zero q))
  · refine o_vret hC hB dX8_turn_8 (Nat.le_of_ble_eq_true rfl) (Nat.le_of_ble_eq_true rfl) ?_
    exact ⟨fu, k, A.2.2.2.2.2.2.1, A.2.2.2.2.2.2.2.1, rfl, rfl, hq, Or.inl ⟨rfl, (tadd_no (fun w => c_5 ((lg_cmp_eq _ _).mpr w))).symm⟩⟩
