/-! THE MODEL, functionally: not -/
theorem mws_fn {A : md_D} {c j : Nat} {W : List tT} (h : mws A c W) (hj : j < W.length) : tfn W j = (A.2.2.2.2.1 (12 * c + j), A.2.2.2.2.2.1 (12 * c + j)) := by
  have e := h.2.2
  rw [← e]
  exact tfn_tls hj
theorem wno_cons (t : tT) (R W : List tT) : wno (t :: R) W = (wst (tall (tfn W) t.1 t.2 0 W.length)).bind (wno R) := rfl
theorem drop_s {L : List tT} {i : Nat} (h : i < L.length) : L.drop i = tfn L i :: L.drop (i + 1) := by
  rw [List.drop_eq_getElem_cons h]
  unfold tfn
  rw [List.getD_eq_getElem?_getD, List.getElem?_eq_getElem h]
  rfl
theorem rng_fm (f : Nat → Option tT) (r : Nat) : (List.range (r + 1)).filterMap f = (List.range r).filterMap f ++ (f r).toList := by
  rw [List.range_succ, List.filterMap_append]
  congr 1
theorem wok_1 : wok [((0 : Int64), (0 : Int64))] := ⟨List.pairwise_singleton _ _, fun e he => by rw [List.mem_singleton.mp he]; decide +kernel, List.pairwise_singleton _ _, by decide⟩

set_option maxHeartbeats 4000000 in
set_option maxRecDepth 100000 in
theorem cf_X8_not (l : Launch) (D : va_G) (ids : Nat → ClassId) (H0 : Heap) (h : rl_H) (n : Nat) (m : Nat) (T : md_T) (fu : Int32) (k : Nat) (A : md_D) (c a : Nat) (La : List tT) (hq : mf ids h h m T fu k A) (hc : c < 1368) (ha16 : a < 1368) (hca : a ≠ c) (ha : mws A a La) (hf0 : fu = nI 0) : rl_Met l (rl_e D ids H0) rl_BW rl_Ns yX8_not cX8_not 12 none ({ frames := 2, cells := 0, slots := 0, locals := 50 }) [.ref m, .int (nI c), .int (nI a)] h n (fun v h' n' => ∃ (fu' : Int32) (k' : Nat) (A' : md_D), v = none ∧ n' = n ∧ mf ids h h' m T fu' k' A' ∧ mro A A' c ∧ wrn A' c fu' (wno La [((0 : Int64), (0 : Int64))])) := by
  obtain ⟨hm0, g12, g13, g14, g15, g16, g17, g18, g19, g20, g21, g22⟩ := id hq
  have g0 := hm0.1
  have gk := hm0.2.1
  have b13 := hq.b13
  have b15 := hq.b15
  have b21 := hq.b21
  have la12 := ha.2.1
  refine rl_Met.of (by decide +kernel) (Nat.le_of_ble_eq_true rfl) ?_
  intro X hC hB
  have loop1 : ∀ (mm i : Nat) (h1 : rl_H) (f1 : Int32) (k1 : Nat) (A1 : md_D) (o4 o6 o8 o9 o10 : Option Value), i + mm = La.length → mf ids h h1 m T f1 k1 A1 → mro A A1 c → ((f1 = nI 0 ∧ ∃ W : List tT, mws A1 c W ∧ wok W ∧ wno La [((0 : Int64), (0 : Int64))] = wno (La.drop i) W) ∨ (f1 = nI 1 ∧ wno La [((0 : Int64), (0 : Int64))] = none)) → rl_G X (rl_e D ids H0) 7 [some (.ref m), some (.int (nI c)), some (.int (nI a)), some (.int (nI i)), o4, none, o6, none, o8, o9, o10, none] [] h1 n 0 0 := by
    intro mm
    induction mm with
    | zero =>
      intro i h1 f1 k1 A1 o4 o6 o8 o9 o10 hm hq1 hro hst
      obtain ⟨hm0, g12, g13, g14, g15, g16, g17, g18, g19, g20, g21, g22⟩ := id hq1
      have g0 := hm0.1
      have gk := hm0.2.1
      have ha1 := hro.ws hca ha
      refine o_iload_n hC dX8_not_7 (by rfl) ?_
      refine o_aload_n hC dX8_not_8 (by rfl) ?_
      refine o_getf hC (fX8_53 hC rfl) dX8_not_9 (by repeat (first | with_reducible assumption | (rw [rl_u_s]; done) | (rw [rl_u_s]; rfl) | rw [rl_u_n (by first | with_reducible assumption | omega)])) (by first | rfl | with_reducible assumption) ?_
      refine o_iload_n hC dX8_not_12 (by rfl) ?_
      refine o_ialdN (t0 := 0) (k := a) hC rfl dX8_not_13 (by repeat (first | with_reducible assumption | (rw [rl_u_s]; done) | (rw [rl_u_s]; rfl) | rw [rl_u_n (by first | with_reducible assumption | omega)])) (by omega) (by decide) ?_
      rw [ha1.1]
      refine o_icmp_ge (tgt := 193) hC dX8_not_14 (by decide) (fun c_14 => ?_) (fun c_14 => ?_)
      · refine o_vret hC hB dX8_not_193 (Nat.le_of_ble_eq_true rfl) (Nat.le_of_ble_eq_true rfl) ?_
        refine ⟨f1, k1, A1, rfl, rfl, hq1, hro, ?_⟩
        rcases hst with ⟨rfl, W, w1, w2, w3⟩ | ⟨rfl, w3⟩
        · rw [show La.drop i = [] from List.drop_eq_nil_of_le (by omega)] at w3
          exact Or.inl ⟨W, w3, rfl, w1, w2⟩
        · exact Or.inr ⟨w3, rfl⟩
      · exact absurd (nI_le (by omega) (by omega)) c_14
    | succ mm ih =>
      intro i h1 f1 k1 A1 o4 o6 o8 o9 o10 hm hq1 hro hst
      obtain ⟨hm0, g12, g13, g14, g15, g16, g17, g18, g19, g20, g21, g22⟩ := id hq1
      have g0 := hm0.1
      have gk := hm0.2.1
      have ha1 := hro.ws hca ha
      refine o_iload_n hC dX8_not_7 (by rfl) ?_
      refine o_aload_n hC dX8_not_8 (by rfl) ?_
      refine o_getf hC (fX8_53 hC rfl) dX8_not_9 (by repeat (first | with_reducible assumption | (rw [rl_u_s]; done) | (rw [rl_u_s]; rfl) | rw [rl_u_n (by first | with_reducible assumption | omega)])) (by first | rfl | with_reducible assumption) ?_
      refine o_iload_n hC dX8_not_12 (by rfl) ?_
      refine o_ialdN (t0 := 0) (k := a) hC rfl dX8_not_13 (by repeat (first | with_reducible assumption | (rw [rl_u_s]; done) | (rw [rl_u_s]; rfl) | rw [rl_u_n (by first | with_reducible assumption | omega)])) (by omega) (by decide) ?_
      rw [ha1.1]
      refine o_icmp_ge (tgt := 193) hC dX8_not_14 (by decide) (fun c_14 => ?_) (fun c_14 => ?_)
      · refine o_vret hC hB dX8_not_193 (Nat.le_of_ble_eq_true rfl) (Nat.le_of_ble_eq_true rfl) ?_
        exact absurd c_14 (nI_ge (by omega) (by omega))
      · refine o_aload_n hC dX8_not_17 (by rfl) ?_
        refine o_getf hC (fX8_91 hC rfl) dX8_not_18 (by repeat (first | with_reducible assumption | (rw [rl_u_s]; done) | (rw [rl_u_s]; rfl) | rw [rl_u_n (by first | with_reducible assumption | omega)])) (by first | rfl | with_reducible assumption) ?_
        refine o_if_ne (tgt := 193) hC dX8_not_21 (by decide) (fun c_21 => ?_) (fun c_21 => ?_)
        · refine o_vret hC hB dX8_not_193 (Nat.le_of_ble_eq_true rfl) (Nat.le_of_ble_eq_true rfl) ?_
          refine ⟨f1, k1, A1, rfl, rfl, hq1, hro, ?_⟩
          rcases hst with ⟨rfl, W, w1, w2, w3⟩ | ⟨rfl, w3⟩
          · exact absurd rfl c_21
          · exact Or.inr ⟨w3, rfl⟩
        · rcases hst with ⟨rfl, W, hw1, hw2, w3⟩ | ⟨rfl, w3⟩
          rotate_left
          · exact absurd c_21 (by decide +kernel)
          have hdr : wno (La.drop i) W = (wst (tall (tfn W) (A1.2.2.2.2.1 (12 * a + i)) (A1.2.2.2.2.2.1 (12 * a + i)) 0 W.length)).bind (wno (La.drop (i + 1))) := by
            rw [drop_s (by omega), wno_cons, mws_fn ha1 (by omega)]
          have lw12 := hw2.2.2.2
          refine o_aload_n hC dX8_not_24 (by rfl) ?_
          refine o_getf hC (fX8_56 hC rfl) dX8_not_25 (by repeat (first | with_reducible assumption | (rw [rl_u_s]; done) | (rw [rl_u_s]; rfl) | rw [rl_u_n (by first | with_reducible assumption | omega)])) (by first | rfl | with_reducible assumption) ?_
          refine o_bipush (v := nI 12) hC dX8_not_28 (by decide +kernel) ?_
          refine o_iload_n hC dX8_not_30 (by rfl) ?_
          refine o_imul hC dX8_not_31 ?_
          try rw [nI_mul]
          refine o_iload_n hC dX8_not_32 (by rfl) ?_
          refine o_iadd hC dX8_not_33 ?_
          try rw [nI_add]
          refine o_laldN (t0 := 1) hC rfl dX8_not_34 (by repeat (first | with_reducible assumption | (rw [rl_u_s]; done) | (rw [rl_u_s]; rfl) | rw [rl_u_n (by first | with_reducible assumption | omega)])) (by omega) (by decide) ?_
          refine o_lstore hC dX8_not_35 (Nat.le_of_ble_eq_true rfl) ?_
          refine o_aload_n hC dX8_not_37 (by rfl) ?_
          refine o_getf hC (fX8_60 hC rfl) dX8_not_38 (by repeat (first | with_reducible assumption | (rw [rl_u_s]; done) | (rw [rl_u_s]; rfl) | rw [rl_u_n (by first | with_reducible assumption | omega)])) (by first | rfl | with_reducible assumption) ?_
          refine o_bipush (v := nI 12) hC dX8_not_41 (by decide +kernel) ?_
          refine o_iload_n hC dX8_not_43 (by rfl) ?_
          refine o_imul hC dX8_not_44 ?_
          try rw [nI_mul]
          refine o_iload_n hC dX8_not_45 (by rfl) ?_
          refine o_iadd hC dX8_not_46 ?_
          try rw [nI_add]
          refine o_laldN (t0 := 1) hC rfl dX8_not_47 (by repeat (first | with_reducible assumption | (rw [rl_u_s]; done) | (rw [rl_u_s]; rfl) | rw [rl_u_n (by first | with_reducible assumption | omega)])) (by omega) (by decide) ?_
          refine o_lstore hC dX8_not_48 (Nat.le_of_ble_eq_true rfl) ?_
          refine o_aload_n hC dX8_not_50 (by rfl) ?_
          refine o_iconst (v := nI 0) hC dX8_not_51 (by decide +kernel) ?_
          refine o_putf hC (fX8_82 hC rfl) (fwX8 rfl rfl rfl (Or.inl rfl)) dX8_not_52 (by repeat (first | with_reducible assumption | (rw [rl_u_s]; done) | (rw [rl_u_s]; rfl) | rw [rl_u_n (by first | with_reducible assumption | omega)])) (Nat.le_of_ble_eq_true rfl) ?_
          try simp only [List.set_cons_zero, List.set_cons_succ]
          refine o_iconst (v := nI 0) hC dX8_not_55 (by decide +kernel) ?_
          refine o_istore hC dX8_not_56 (Nat.le_of_ble_eq_true rfl) ?_
          have loop2 : ∀ (m2 j : Nat) (h2 : rl_H) (f2 : Int32) (k2 : Nat) (hn2 hl2 : Nat → Int64) (o9 o10 : Option Value), j + m2 = W.length → mf ids h h2 m T f2 k2 (A1.1, A1.2.1, A1.2.2.1, A1.2.2.2.1, A1.2.2.2.2.1, A1.2.2.2.2.2.1, hn2, hl2, A1.2.2.2.2.2.2.2.2.1, A1.2.2.2.2.2.2.2.2.2.1, A1.2.2.2.2.2.2.2.2.2.2) → ((f2 = nI 0 ∧ tls hn2 hl2 k2 = tfl (tall (tfn W) (A1.2.2.2.2.1 (12 * a + i)) (A1.2.2.2.2.2.1 (12 * a + i)) 0 j)) ∨ (f2 = nI 1 ∧ 12 < (tfl (tall (tfn W) (A1.2.2.2.2.1 (12 * a + i)) (A1.2.2.2.2.2.1 (12 * a + i)) 0 W.length)).length)) → rl_G X (rl_e D ids H0) 58 [some (.ref m), some (.int (nI c)), some (.int (nI a)), some (.int (nI i)), some (.long (A1.2.2.2.2.1 (12 * a + i))), none, some (.long (A1.2.2.2.2.2.1 (12 * a + i))), none, some (.int (nI j)), o9, o10, none] [] h2 n 0 0 := by
            intro m2
            induction m2 with
            | zero =>
              intro j h2 f2 k2 hn2 hl2 o9 o10 hm2 hq2 hst2
              have ej : j = W.length := by omega
              subst ej
              obtain ⟨hm0, g12, g13, g14, g15, g16, g17, g18, g19, g20, g21, g22⟩ := id hq2
              have g0 := hm0.1
              have gk := hm0.2.1
              refine o_iload hC dX8_not_58 (by rfl) ?_
              refine o_aload_n hC dX8_not_60 (by rfl) ?_
              refine o_getf hC (fX8_53 hC rfl) dX8_not_61 (by repeat (first | with_reducible assumption | (rw [rl_u_s]; done) | (rw [rl_u_s]; rfl) | rw [rl_u_n (by first | with_reducible assumption | omega)])) (by first | rfl | with_reducible assumption) ?_
              refine o_iload_n hC dX8_not_64 (by rfl) ?_
              refine o_ialdN (t0 := 0) (k := c) hC rfl dX8_not_65 (by repeat (first | with_reducible assumption | (rw [rl_u_s]; done) | (rw [rl_u_s]; rfl) | rw [rl_u_n (by first | with_reducible assumption | omega)])) (by omega) (by decide) ?_
              rw [hw1.1]
              refine o_icmp_ge (tgt := 182) hC dX8_not_66 (by decide) (fun c_66 => ?_) (fun c_66 => ?_)
              · refine o_aload_n hC dX8_not_182 (by rfl) ?_
                refine o_iload_n hC dX8_not_183 (by rfl) ?_
                refine o_callV1 hC rl_BW_good rl_Ns_nw (by exact hB.2.2.2.2.2) YX8_settle IX8_settle VX8_settle (mX8_99 hC) (by rw [hB.1]; exact cf_X8_settle l D ids H0 _ _ m T _ _ _ c hq2.rf (by omega)) (by exact hq2.1.1) rfl rfl (Nat.le_of_ble_eq_true rfl) (by rw [hB.2.1]; first | exact Nat.le_of_ble_eq_true rfl | (dsimp only; omega)) (by rw [hB.2.1]; first | exact Nat.le_of_ble_eq_true rfl | (dsimp only; omega)) (by rw [hB.2.1]; first | exact Nat.le_of_ble_eq_true rfl | (dsimp only; omega)) (by rw [hB.2.1]; first | exact Nat.le_of_ble_eq_true rfl | (dsimp only; omega)) dX8_not_184 (fun v h_184 n_184 p_184 => ?_)
                obtain ⟨fs, As, rfl, rfl, q8, q9, q10⟩ := p_184
                try dsimp only [Option.toList, List.cons_append, List.nil_append]
                refine o_iinc hC dX8_not_187 (by rfl) (rl_inc _) (Nat.le_of_ble_eq_true rfl) ?_
                refine o_goto (tgt := 7) hC dX8_not_190 (by decide) ?_
                refine ih (i + 1) _ fs _ As _ _ _ _ _ (by omega) (hq2.tr q8) (hro.tr (mro.tr ⟨rfl, rfl, rfl, fun _ _ => rfl, fun _ _ => ⟨rfl, rfl⟩, rfl⟩ q9)) ?_
                rcases hst2 with ⟨rfl, hls⟩ | ⟨rfl, hfu⟩
                · have htk : ∀ e ∈ tls hn2 hl2 k2, tok e := by
                    rw [hls]
                    exact fun e he => (tfl_mem he).2
                  have ek : tkeep (fun i => (hn2 i, hl2 i)) k2 k2 = tfl (tall (tfn W) (A1.2.2.2.2.1 (12 * a + i)) (A1.2.2.2.2.2.1 (12 * a + i)) 0 W.length) := by
                    rw [keep_tfl htk, hls]
                    exact tfl_id _ (tfl_ac _) (fun e he => (tfl_mem he).2)
                  rcases (wre.of ek q10 : wre As c (nI 0) fs (wst (tall (tfn W) (A1.2.2.2.2.1 (12 * a + i)) (A1.2.2.2.2.2.1 (12 * a + i)) 0 W.length))) with ⟨L, h3, h4, h5⟩ | ⟨h3, h4, h5⟩
                  · exact Or.inl ⟨h4, L, h5, wst_ok h3, by rw [w3, hdr, h3]; rfl⟩
                  · exact Or.inr ⟨h4, by rw [w3, hdr, h3]; rfl⟩
                · refine Or.inr ⟨?_, by rw [w3, hdr, show wst (tall (tfn W) (A1.2.2.2.2.1 (12 * a + i)) (A1.2.2.2.2.2.1 (12 * a + i)) 0 W.length) = none from if_neg (by omega)]; rfl⟩
                  rcases q10 with ⟨-, h4, -⟩ | ⟨-, h4, -⟩ <;> exact h4
              · exact absurd (nI_le (by omega) (by omega)) c_66
            | succ m2 ih2 =>
              intro j h2 f2 k2 hn2 hl2 o9 o10 hm2 hq2 hst2
              have loop3 : ∀ (m3 r : Nat) (h3 : rl_H) (f3 : Int32) (k3 : Nat) (hn3 hl3 : Nat → Int64) (o10 : Option Value), r + m3 = 36 → mf ids h h3 m T f3 k3 (A1.1, A1.2.1, A1.2.2.1, A1.2.2.2.1, A1.2.2.2.2.1, A1.2.2.2.2.2.1, hn3, hl3, A1.2.2.2.2.2.2.2.2.1, A1.2.2.2.2.2.2.2.2.2.1, A1.2.2.2.2.2.2.2.2.2.2) → ((f3 = nI 0 ∧ tls hn3 hl3 k3 = tfl ((tall (tfn W) (A1.2.2.2.2.1 (12 * a + i)) (A1.2.2.2.2.2.1 (12 * a + i)) 0 j) ++ ((List.range r).filterMap (tvar (tfn W j) (A1.2.2.2.2.1 (12 * a + i)) (A1.2.2.2.2.2.1 (12 * a + i)))))) ∨ (f3 = nI 1 ∧ 12 < (tfl (tall (tfn W) (A1.2.2.2.2.1 (12 * a + i)) (A1.2.2.2.2.2.1 (12 * a + i)) 0 W.length)).length)) → rl_G X (rl_e D ids H0) 72 [some (.ref m), some (.int (nI c)), some (.int (nI a)), some (.int (nI i)), some (.long (A1.2.2.2.2.1 (12 * a + i))), none, some (.long (A1.2.2.2.2.2.1 (12 * a + i))), none, some (.int (nI j)), some (.int (nI r)), o10, none] [] h3 n 0 0 := by
                intro m3
                induction m3 with
                | zero =>
                  intro r h3 f3 k3 hn3 hl3 o10 hm3 hq3 hst3
                  have er : r = 36 := by omega
                  subst er
                  refine o_iload hC dX8_not_72 (by rfl) ?_
                  refine o_bipush (v := nI 36) hC dX8_not_74 (by decide +kernel) ?_
                  refine o_icmp_ge (tgt := 176) hC dX8_not_76 (by decide) (fun c_76 => ?_) (fun c_76 => ?_)
                  · refine o_iinc hC dX8_not_176 (by rfl) (rl_inc _) (Nat.le_of_ble_eq_true rfl) ?_
                    refine o_goto (tgt := 58) hC dX8_not_179 (by decide) ?_
                    refine ih2 (j + 1) _ _ _ hn3 hl3 _ _ (by omega) hq3 ?_
                    rw [tall_app _ _ _ j 1 0]
                    show (_ ∧ _ = tfl (_ ++ (tcs _ _ _ (0 + j) ++ []))) ∨ _
                    rw [List.append_nil, Nat.zero_add]
                    exact hst3
                  · exact absurd (nI_le (by omega) (by omega)) c_76
                | succ m3 ih3 =>
                  intro r h3 f3 k3 hn3 hl3 o10 hm3 hq3 hst3
                  obtain ⟨hm0, g12, g13, g14, g15, g16, g17, g18, g19, g20, g21, g22⟩ := id hq3
                  have g0 := hm0.1
                  have gk := hm0.2.1
                  refine o_iload hC dX8_not_72 (by rfl) ?_
                  refine o_bipush (v := nI 36) hC dX8_not_74 (by decide +kernel) ?_
                  refine o_icmp_ge (tgt := 176) hC dX8_not_76 (by decide) (fun c_76 => ?_) (fun c_76 => ?_)
                  · exact absurd c_76 (nI_ge (by omega) (by omega))
                  · refine o_lconst (v := 1) hC dX8_not_79 (by decide +kernel) ?_
                    refine o_iload hC dX8_not_80 (by rfl) ?_
                    refine o_lshl hC dX8_not_82 ?_
                    refine o_lstore hC dX8_not_83 (Nat.le_of_ble_eq_true rfl) ?_
                    refine o_lload hC dX8_not_85 (by rfl) ?_
                    refine o_lload hC dX8_not_87 (by rfl) ?_
                    refine o_land hC dX8_not_89 ?_
                    refine o_lconst (v := 0) hC dX8_not_90 (by decide +kernel) ?_
                    refine o_lcmp hC dX8_not_91 ?_
                    refine o_if_eq (tgt := 129) hC dX8_not_92 (by decide) (fun c_92 => ?_) (fun c_92 => ?_)
                    · refine o_lload hC dX8_not_129 (by rfl) ?_
                      refine o_lload hC dX8_not_131 (by rfl) ?_
                      refine o_land hC dX8_not_133 ?_
                      refine o_lconst (v := 0) hC dX8_not_134 (by decide +kernel) ?_
                      refine o_lcmp hC dX8_not_135 ?_
                      refine o_if_eq (tgt := 170) hC dX8_not_136 (by decide) (fun c_136 => ?_) (fun c_136 => ?_)
                      · refine o_iinc hC dX8_not_170 (by rfl) (rl_inc _) (Nat.le_of_ble_eq_true rfl) ?_
                        refine o_goto (tgt := 72) hC dX8_not_173 (by decide) ?_
                        have ev : tvar (tfn W j) (A1.2.2.2.2.1 (12 * a + i)) (A1.2.2.2.2.2.1 (12 * a + i)) r = none := (if_neg (show ¬ ¬ (A1.2.2.2.2.1 (12 * a + i)) &&& tbt r = 0 from fun w => w ((lg_cmp_eq _ _).mp c_92))).trans (if_neg (show ¬ ¬ (A1.2.2.2.2.2.1 (12 * a + i)) &&& tbt r = 0 from fun w => w ((lg_cmp_eq _ _).mp c_136)))
                        refine ih3 (r + 1) _ f3 k3 hn3 hl3 _ (by omega) hq3 ?_
                        rw [rng_fm, ev]
                        show (_ ∧ _ = tfl (_ ++ (_ ++ []))) ∨ _
                        rw [List.append_nil]
                        exact hst3
                      · refine o_aload_n hC dX8_not_139 (by rfl) ?_
                        refine o_aload_n hC dX8_not_140 (by rfl) ?_
                        refine o_getf hC (fX8_56 hC rfl) dX8_not_141 (by repeat (first | with_reducible assumption | (rw [rl_u_s]; done) | (rw [rl_u_s]; rfl) | rw [rl_u_n (by first | with_reducible assumption | omega)])) (by first | rfl | with_reducible assumption) ?_
                        refine o_bipush (v := nI 12) hC dX8_not_144 (by decide +kernel) ?_
                        refine o_iload_n hC dX8_not_146 (by rfl) ?_
                        refine o_imul hC dX8_not_147 ?_
                        try rw [nI_mul]
                        refine o_iload hC dX8_not_148 (by rfl) ?_
                        refine o_iadd hC dX8_not_150 ?_
                        try rw [nI_add]
                        refine o_laldN (t0 := 1) hC rfl dX8_not_151 (by repeat (first | with_reducible assumption | (rw [rl_u_s]; done) | (rw [rl_u_s]; rfl) | rw [rl_u_n (by first | with_reducible assumption | omega)])) (by omega) (by decide) ?_
                        refine o_lload hC dX8_not_152 (by rfl) ?_
                        refine o_lor hC dX8_not_154 ?_
                        refine o_aload_n hC dX8_not_155 (by rfl) ?_
                        refine o_getf hC (fX8_60 hC rfl) dX8_not_156 (by repeat (first | with_reducible assumption | (rw [rl_u_s]; done) | (rw [rl_u_s]; rfl) | rw [rl_u_n (by first | with_reducible assumption | omega)])) (by first | rfl | with_reducible assumption) ?_
                        refine o_bipush (v := nI 12) hC dX8_not_159 (by decide +kernel) ?_
                        refine o_iload_n hC dX8_not_161 (by rfl) ?_
                        refine o_imul hC dX8_not_162 ?_
                        try rw [nI_mul]
                        refine o_iload hC dX8_not_163 (by rfl) ?_
                        refine o_iadd hC dX8_not_165 ?_
                        try rw [nI_add]
                        refine o_laldN (t0 := 1) hC rfl dX8_not_166 (by repeat (first | with_reducible assumption | (rw [rl_u_s]; done) | (rw [rl_u_s]; rfl) | rw [rl_u_n (by first | with_reducible assumption | omega)])) (by omega) (by decide) ?_
                        refine o_callV2 hC rl_BW_good rl_Ns_nw (by exact hB.2.2.2.2.2) YX8_turn IX8_turn VX8_turn (mX8_106 hC) (by rw [hB.1]; exact cf_X8_turn l D ids H0 _ _ m T _ _ _ _ _ hq3.rf) (by exact hq3.1.1) rfl rfl (Nat.le_of_ble_eq_true rfl) (by rw [hB.2.1]; first | exact Nat.le_of_ble_eq_true rfl | (dsimp only; omega)) (by rw [hB.2.1]; first | exact Nat.le_of_ble_eq_true rfl | (dsimp only; omega)) (by rw [hB.2.1]; first | exact Nat.le_of_ble_eq_true rfl | (dsimp only; omega)) (by rw [hB.2.1]; first | exact Nat.le_of_ble_eq_true rfl | (dsimp only; omega)) dX8_not_167 (fun v h_167 n_167 p_167 => ?_)
                        obtain ⟨f9, k9, hn9, hl9, rfl, rfl, q1, q2⟩ := p_167
                        try dsimp only [Option.toList, List.cons_append, List.nil_append]
                        refine o_iinc hC dX8_not_170 (by rfl) (rl_inc _) (Nat.le_of_ble_eq_true rfl) ?_
                        refine o_goto (tgt := 72) hC dX8_not_173 (by decide) ?_
                        have ev : tvar (tfn W j) (A1.2.2.2.2.1 (12 * a + i)) (A1.2.2.2.2.2.1 (12 * a + i)) r = some (A1.2.2.2.2.1 (12 * c + j) ||| tbt r, A1.2.2.2.2.2.1 (12 * c + j)) := (if_neg (show ¬ ¬ (A1.2.2.2.2.1 (12 * a + i)) &&& tbt r = 0 from fun w => w ((lg_cmp_eq _ _).mp c_92))).trans ((if_pos (show ¬ (A1.2.2.2.2.2.1 (12 * a + i)) &&& tbt r = 0 from fun w => c_136 ((lg_cmp_eq _ _).mpr w))).trans (by rw [mws_fn hw1 (show j < W.length by omega)]))
                        refine ih3 (r + 1) _ f9 k9 hn9 hl9 _ (by omega) (hq3.tr q1) ?_
                        rcases hst3 with ⟨rfl, hls⟩ | ⟨rfl, hfu⟩
                        · have eq1 : tfl ((tall (tfn W) (A1.2.2.2.2.1 (12 * a + i)) (A1.2.2.2.2.2.1 (12 * a + i)) 0 j) ++ ((List.range (r + 1)).filterMap (tvar (tfn W j) (A1.2.2.2.2.1 (12 * a + i)) (A1.2.2.2.2.2.1 (12 * a + i))))) = tadd (tls hn3 hl3 k3) (A1.2.2.2.2.1 (12 * c + j) ||| tbt r, A1.2.2.2.2.2.1 (12 * c + j)) := by
                            rw [rng_fm, ev, hls, ← List.append_assoc]
                            exact tfl_snoc _ _
                          rcases q2 with ⟨rfl, h5⟩ | ⟨rfl, h5⟩
                          · exact Or.inl ⟨rfl, h5.trans eq1.symm⟩
                          · exact Or.inr ⟨rfl, tnot_full hw2 (show j < W.length by omega) (show r < 36 by omega) (by rw [eq1]; exact h5)⟩
                        · refine Or.inr ⟨?_, hfu⟩
                          rcases q2 with ⟨h5, -⟩ | ⟨h5, -⟩ <;> exact h5
                    · refine o_aload_n hC dX8_not_95 (by rfl) ?_
                      refine o_aload_n hC dX8_not_96 (by rfl) ?_
                      refine o_getf hC (fX8_56 hC rfl) dX8_not_97 (by repeat (first | with_reducible assumption | (rw [rl_u_s]; done) | (rw [rl_u_s]; rfl) | rw [rl_u_n (by first | with_reducible assumption | omega)])) (by first | rfl | with_reducible assumption) ?_
                      refine o_bipush (v := nI 12) hC dX8_not_100 (by decide +kernel) ?_
                      refine o_iload_n hC dX8_not_102 (by rfl) ?_
                      refine o_imul hC dX8_not_103 ?_
                      try rw [nI_mul]
                      refine o_iload hC dX8_not_104 (by rfl) ?_
                      refine o_iadd hC dX8_not_106 ?_
                      try rw [nI_add]
                      refine o_laldN (t0 := 1) hC rfl dX8_not_107 (by repeat (first | with_reducible assumption | (rw [rl_u_s]; done) | (rw [rl_u_s]; rfl) | rw [rl_u_n (by first | with_reducible assumption | omega)])) (by omega) (by decide) ?_
                      refine o_aload_n hC dX8_not_108 (by rfl) ?_
                      refine o_getf hC (fX8_60 hC rfl) dX8_not_109 (by repeat (first | with_reducible assumption | (rw [rl_u_s]; done) | (rw [rl_u_s]; rfl) | rw [rl_u_n (by first | with_reducible assumption | omega)])) (by first | rfl | with_reducible assumption) ?_
                      refine o_bipush (v := nI 12) hC dX8_not_112 (by decide +kernel) ?_
                      refine o_iload_n hC dX8_not_114 (by rfl) ?_
                      refine o_imul hC dX8_not_115 ?_
                      try rw [nI_mul]
                      refine o_iload hC dX8_not_116 (by rfl) ?_
                      refine o_iadd hC dX8_not_118 ?_
                      try rw [nI_add]
                      refine o_laldN (t0 := 1) hC rfl dX8_not_119 (by repeat (first | with_reducible assumption | (rw [rl_u_s]; done) | (rw [rl_u_s]; rfl) | rw [rl_u_n (by first | with_reducible assumption | omega)])) (by omega) (by decide) ?_
                      refine o_lload hC dX8_not_120 (by rfl) ?_
                      refine o_lor hC dX8_not_122 ?_
                      refine o_callV2 hC rl_BW_good rl_Ns_nw (by exact hB.2.2.2.2.2) YX8_turn IX8_turn VX8_turn (mX8_106 hC) (by rw [hB.1]; exact cf_X8_turn l D ids H0 _ _ m T _ _ _ _ _ hq3.rf) (by exact hq3.1.1) rfl rfl (Nat.le_of_ble_eq_true rfl) (by rw [hB.2.1]; first | exact Nat.le_of_ble_eq_true rfl | (dsimp only; omega)) (by rw [hB.2.1]; first | exact Nat.le_of_ble_eq_true rfl | (dsimp only; omega)) (by rw [hB.2.1]; first | exact Nat.le_of_ble_eq_true rfl | (dsimp only; omega)) (by rw [hB.2.1]; first | exact Nat.le_of_ble_eq_true rfl | (dsimp only; omega)) dX8_not_123 (fun v h_123 n_123 p_123 => ?_)
                      obtain ⟨f9, k9, hn9, hl9, rfl, rfl, q1, q2⟩ := p_123
                      try dsimp only [Option.toList, List.cons_append, List.nil_append]
                      refine o_goto (tgt := 170) hC dX8_not_126 (by decide) ?_
                      refine o_iinc hC dX8_not_170 (by rfl) (rl_inc _) (Nat.le_of_ble_eq_true rfl) ?_
                      refine o_goto (tgt := 72) hC dX8_not_173 (by decide) ?_
                      have ev : tvar (tfn W j) (A1.2.2.2.2.1 (12 * a + i)) (A1.2.2.2.2.2.1 (12 * a + i)) r = some (A1.2.2.2.2.1 (12 * c + j), A1.2.2.2.2.2.1 (12 * c + j) ||| tbt r) := (if_pos (show ¬ (A1.2.2.2.2.1 (12 * a + i)) &&& tbt r = 0 from fun w => c_92 ((lg_cmp_eq _ _).mpr w))).trans (by rw [mws_fn hw1 (show j < W.length by omega)])
                      refine ih3 (r + 1) _ f9 k9 hn9 hl9 _ (by omega) (hq3.tr q1) ?_
                      rcases hst3 with ⟨rfl, hls⟩ | ⟨rfl, hfu⟩
                      · have eq1 : tfl ((tall (tfn W) (A1.2.2.2.2.1 (12 * a + i)) (A1.2.2.2.2.2.1 (12 * a + i)) 0 j) ++ ((List.range (r + 1)).filterMap (tvar (tfn W j) (A1.2.2.2.2.1 (12 * a + i)) (A1.2.2.2.2.2.1 (12 * a + i))))) = tadd (tls hn3 hl3 k3) (A1.2.2.2.2.1 (12 * c + j), A1.2.2.2.2.2.1 (12 * c + j) ||| tbt r) := by
                          rw [rng_fm, ev, hls, ← List.append_assoc]
                          exact tfl_snoc _ _
                        rcases q2 with ⟨rfl, h5⟩ | ⟨rfl, h5⟩
                        · exact Or.inl ⟨rfl, h5.trans eq1.symm⟩
                        · exact Or.inr ⟨rfl, tnot_full hw2 (show j < W.length by omega) (show r < 36 by omega) (by rw [eq1]; exact h5)⟩
                      · refine Or.inr ⟨?_, hfu⟩
                        rcases q2 with ⟨h5, -⟩ | ⟨h5, -⟩ <;> exact h5
              obtain ⟨hm0, g12, g13, g14, g15, g16, g17, g18, g19, g20, g21, g22⟩ := id hq2
              have g0 := hm0.1
              have gk := hm0.2.1
              refine o_iload hC dX8_not_58 (by rfl) ?_
              refine o_aload_n hC dX8_not_60 (by rfl) ?_
              refine o_getf hC (fX8_53 hC rfl) dX8_not_61 (by repeat (first | with_reducible assumption | (rw [rl_u_s]; done) | (rw [rl_u_s]; rfl) | rw [rl_u_n (by first | with_reducible assumption | omega)])) (by first | rfl | with_reducible assumption) ?_
              refine o_iload_n hC dX8_not_64 (by rfl) ?_
              refine o_ialdN (t0 := 0) (k := c) hC rfl dX8_not_65 (by repeat (first | with_reducible assumption | (rw [rl_u_s]; done) | (rw [rl_u_s]; rfl) | rw [rl_u_n (by first | with_reducible assumption | omega)])) (by omega) (by decide) ?_
              rw [hw1.1]
              refine o_icmp_ge (tgt := 182) hC dX8_not_66 (by decide) (fun c_66 => ?_) (fun c_66 => ?_)
              · exact absurd c_66 (nI_ge (by omega) (by omega))
              · refine o_iconst (v := nI 0) hC dX8_not_69 (by decide +kernel) ?_
                refine o_istore hC dX8_not_70 (Nat.le_of_ble_eq_true rfl) ?_
                exact loop3 36 0 _ _ _ hn2 hl2 _ (by omega) hq2 (by rw [List.range_zero, List.filterMap_nil, List.append_nil]; exact hst2)
          exact loop2 W.length 0 _ _ _ A1.2.2.2.2.2.2.1 A1.2.2.2.2.2.2.2.1 _ _ (by omega) (hq1.ob T (nI 0) 0 (by omega)) (Or.inl ⟨rfl, rfl⟩)
  show rl_G X (rl_e D ids H0) 0 [some (.ref m), some (.int (nI c)), some (.int (nI a)), none, none, none, none, none, none, none, none, none] [] h n 0 0
  refine o_aload_n hC dX8_not_0 (by rfl) ?_
  refine o_iload_n hC dX8_not_1 (by rfl) ?_
  refine o_callV1 hC rl_BW_good rl_Ns_nw (by exact hB.2.2.2.2.2) YX8_truth IX8_truth VX8_truth (mX8_103 hC) (by rw [hB.1]; exact cf_X8_truth l D ids H0 _ _ m T _ _ _ c hq (by omega)) (by exact g0) rfl rfl (Nat.le_of_ble_eq_true rfl) (by rw [hB.2.1]; first | exact Nat.le_of_ble_eq_true rfl | (dsimp only; omega)) (by rw [hB.2.1]; first | exact Nat.le_of_ble_eq_true rfl | (dsimp only; omega)) (by rw [hB.2.1]; first | exact Nat.le_of_ble_eq_true rfl | (dsimp only; omega)) (by rw [hB.2.1]; first | exact Nat.le_of_ble_eq_true rfl | (dsimp only; omega)) dX8_not_2 (fun v h_2 n_2 p_2 => ?_)
  obtain ⟨rfl, rfl, q0⟩ := p_2
  try dsimp only [Option.toList, List.cons_append, List.nil_append]
  refine o_iconst (v := nI 0) hC dX8_not_5 (by decide +kernel) ?_
  refine o_istore_n hC dX8_not_6 (Nat.le_of_ble_eq_true rfl) ?_
  refine loop1 La.length 0 _ _ _ (A.1, A.2.1, A.2.2.1, upd A.2.2.2.1 c (nI 1), vp_updL A.2.2.2.2.1 (12 * c) 0, vp_updL A.2.2.2.2.2.1 (12 * c) 0, A.2.2.2.2.2.2.1, A.2.2.2.2.2.2.2.1, A.2.2.2.2.2.2.2.2.1, A.2.2.2.2.2.2.2.2.2.1, A.2.2.2.2.2.2.2.2.2.2) _ _ _ _ _ (by omega) q0 ⟨rfl, rfl, rfl, fun q hq => if_neg hq, fun q hq => ⟨up_ne (by omega), up_ne (by omega)⟩, rfl⟩ (Or.inl ⟨hf0, [(0, 0)], ⟨if_pos rfl, by decide, ?_⟩, wok_1, rfl⟩)
  show [(vp_updL _ (12 * c) 0 (12 * c + 0), vp_updL _ (12 * c) 0 (12 * c + 0))] = _
  rw [Nat.add_zero, up_at, up_at]
