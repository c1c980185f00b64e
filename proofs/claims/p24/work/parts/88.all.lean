section
/-! THE MODEL, functionally: not -/
theorem mws_fn {A : md_D} {c j : Nat} {W : List tT} (h : mws A c W) (hj : j < W.length) : tfn W j = (A.2.2.2.2.1 (12 * c + j), A.2.2.2.2.2.1 (12 * c + j)) := by
  have e := h.2.2
  rw [← e]
  exact tfn_tls hj
theorem wno_cons (t : tT) (R W : List tT) : wno (t :: R) W = (wst (tall (tfn W) t.1 t.2 0 W.length)).bind (wno R) := rfl
theorem drop_s {L : List tT} {i : Nat} (h : i < L.length) : L.drop i = tfn L i :: L.drop (i + 1) := by
  rw [List.drop_eq_getElem_cons h]
  unfold tfn
  rw [List.getD_eq_getElem?_getD, List.getElem?_eq_getElem h]
  rfl
theorem rng_fm (f : Nat → Option tT) (r : Nat) : (List.range (r + 1)).filterMap f = (List.range r).filterMap f ++ (f r).toList := by
  rw [List.range_succ, List.filterMap_append]
  congr 1
theorem wok_1 : wok [((0 : Int64), (0 : Int64))] := ⟨List.pairwise_singleton _ _, fun e he => by rw [List.mem_singleton.mp he]; decide +kernel, List.pairwise_singleton _ _, by decide⟩

set_option maxHeartbeats 4000000 in
set_option maxRecDepth 100000 in
theorem cf_X8_not (l : Launch) (D : va_G) (ids : Nat → ClassId) (H0 : Heap) (h : rl_H) (n : Nat) (m : Nat) (T : md_T) (fu : Int32) (k : Nat) (A : md_D) (c a : Nat) (La : List tT) (hq : mf ids h h m T fu k A) (hc : c < 1368) (ha16 : a < 1368) (hca : a ≠ c) (ha : mws A a La) (hf0 : fu = nI 0) : rl_Met l (rl_e D ids H0) rl_BW rl_Ns yX8_not cX8_not 12 none ({ frames := 2, cells := 0, slots := 0, locals := 50 }) [.ref m, .int (nI c), .int (nI a)] h n (fun v h' n' => ∃ (fu' : Int32) (k' : Nat) (A' : md_D), v = none ∧ n' = n ∧ mf ids h h' m T fu' k' A' ∧ mro A A' c ∧ wrn A' c fu' (wno La [((0 : Int64), (0 : Int64))])) := by
  obtain ⟨hm0, g12, g13, g14, g15, g16, g17, g18, g19, g20, g21, g22⟩ := id hq
  have g0 := hm0.1
  have gk := hm0.2.1
  have b13 := hq.b13
  have b15 := hq.b15
  have b21 := hq.b21
  have la12 := ha.2.1
  refine rl_Met.of (by decide +kernel) (Nat.le_of_ble_eq_true rfl) ?_
  intro X hC hB
  have loop1 : ∀ (mm i : Nat) (h1 : rl_H) (f1 : Int32) (k1 : Nat) (A1 : md_D) (o4 o6 o8 o9 o10 : Option Value), i + mm = La.length → mf ids h h1 m T f1 k1 A1 → mro A A1 c → ((f1 = nI 0 ∧ ∃ W : List tT, mws A1 c W ∧ wok W ∧ wno La [((0 : Int64), (0 : Int64))] = wno (La.drop i) W) ∨ (f1 = nI 1 ∧ wno La [((0 : Int64), (0 : Int64))] = none)) → rl_G X (rl_e D ids H0) 7 [some (.ref m), some (.int (nI c)), some (.int (nI a)), some (.int (nI i)), o4, none, o6, none, o8, o9, o10, none] [] h1 n 0 0 := by
    intro mm
    induction mm with
    | zero =>
      intro i h1 f1 k1 A1 o4 o6 o8 o9 o10 hm hq1 hro hst
      obtain ⟨hm0, g12, g13, g14, g15, g16, g17, g18, g19, g20, g21, g22⟩ := id hq1
      have g0 := hm0.1
      have gk := hm0.2.1
      have ha1 := hro.ws hca ha
      refine o_iload_n hC dX8_not_7 (by rfl) ?_
      refine o_aload_n hC dX8_not_8 (by rfl) ?_
      refine o_getf hC (fX8_53 hC rfl) dX8_not_9 (by repeat (first | with_reducible assumption | (rw [rl_u_s]; done) | (rw [rl_u_s]; rfl) | rw [rl_u_n (by first | with_reducible assumption | omega)])) (by first | rfl | with_reducible assumption) ?_
      refine o_iload_n hC dX8_not_12 (by rfl) ?_
      refine o_ialdN (t0 := 0) (k := a) hC rfl dX8_not_13 (by repeat (first | with_reducible assumption | (rw [rl_u_s]; done) | (rw [rl_u_s]; rfl) | rw [rl_u_n (by first | with_reducible assumption | omega)])) (by omega) (by decide) ?_
      rw [ha1.1]
      refine o_icmp_ge (tgt := 193) hC dX8_not_14 (by decide) (fun c_14 => ?_) (fun c_14 => ?_)
      · refine o_vret hC hB dX8_not_193 (Nat.le_of_ble_eq_true rfl) (Nat.le_of_ble_eq_true rfl) ?_
        refine ⟨f1, k1, A1, rfl, rfl, hq1, hro, ?_⟩
        rcases hst with ⟨rfl, W, w1, w2, w3⟩ | ⟨rfl, w3⟩
        · rw [show La.drop i = [] from List.drop_eq_nil_of_le (by omega)] at w3
          exact Or.inl ⟨W, w3, rfl, w1, w2⟩
        · exact Or.inr ⟨w3, rfl⟩
      · exact absurd (nI_le (by omega) (by omega)) c_14
    | succ mm ih =>
      intro i h1 f1 k1 A1 o4 o6 o8 o9 o10 hm hq1 hro hst
      obtain ⟨hm0, g12, g13, g14, g15, g16, g17, g18, g19, g20, g21, g22⟩ := id hq1
      have g0 := hm0.1
      have gk := hm0.2.1
      have ha1 := hro.ws hca ha
      refine o_iload_n hC dX8_not_7 (by rfl) ?_
      refine o_aload_n hC dX8_not_8 (by rfl) ?_
      refine o_getf hC (fX8_53 hC rfl) dX8_not_9 (by repeat (first | with_reducible assumption | (rw [rl_u_s]; done) | (rw [rl_u_s]; rfl) | rw [rl_u_n (by first | with_reducible assumption | omega)])) (by first | rfl | with_reducible assumption) ?_
      refine o_iload_n hC dX8_not_12 (by rfl) ?_
      refine o_ialdN (t0 := 0) (k := a) hC rfl dX8_not_13 (by repeat (first | with_reducible assumption | (rw [rl_u_s]; done) | (rw [rl_u_s]; rfl) | rw [rl_u_n (by first | with_reducible assumption | omega)])) (by omega) (by decide) ?_
      rw [ha1.1]
      refine o_icmp_ge (tgt := 193) hC dX8_not_14 (by decide) (fun c_14 => ?_) (fun c_14 => ?_)
      · refine o_vret hC hB dX8_not_193 (Nat.le_of_ble_eq_true rfl) (Nat.le_of_ble_eq_true rfl) ?_
        exact absurd c_14 (nI_ge (by omega) (by omega))
      · refine o_aload_n hC dX8_not_17 (by rfl) ?_
        refine o_getf hC (fX8_91 hC rfl) dX8_not_18 (by repeat (first | with_reducible assumption | (rw [rl_u_s]; done) | (rw [rl_u_s]; rfl) | rw [rl_u_n (by first | with_reducible assumption | omega)])) (by first | rfl | with_reducible assumption) ?_
        refine o_if_ne (tgt := 193) hC dX8_not_21 (by decide) (fun c_21 => ?_) (fun c_21 => ?_)
        · refine o_vret hC hB dX8_not_193 (Nat.le_of_ble_eq_true rfl) (Nat.le_of_ble_eq_true rfl) ?_
          refine ⟨f1, k1, A1, rfl, rfl, hq1, hro, ?_⟩
          rcases hst with ⟨rfl, W, w1, w2, w3⟩ | ⟨rfl, w3⟩
          · exact absurd rfl c_21
          · exact Or.inr ⟨w3, rfl⟩
        · rcases hst with ⟨rfl, W, hw1, hw2, w3⟩ | ⟨rfl, w3⟩
          rotate_left
          · exact absurd c_21 (by decide +kernel)
          have hdr : wno (La.drop i) W = (wst (tall (tfn W) (A1.2.2.2.2.1 (12 * a + i)) (A1.2.2.2.2.2.1 (12 * a + i)) 0 W.length)).bind (wno (La.drop (i + 1))) := by
            rw [drop_s (by omega), wno_cons, mws_fn ha1 (by omega)]
          have lw12 := hw2.2.2.2
          refine o_aload_n hC dX8_not_24 (by rfl) ?_
          refine o_getf hC (fX8_56 hC rfl) dX8_not_25 (by repeat (first | with_reducible assumption | (rw [rl_u_s]; done) | (rw [rl_u_s]; rfl) | rw [rl_u_n (by first | with_reducible assumption | omega)])) (by first | rfl | with_reducible assumption) ?_
          refine o_bipush (v := nI 12) hC dX8_not_28 (by decide +kernel) ?_
          refine o_iload_n hC dX8_not_30 (by rfl) ?_
          refine o_imul hC dX8_not_31 ?_
          try rw [nI_mul]
          refine o_iload_n hC dX8_not_32 (by rfl) ?_
          refine o_iadd hC dX8_not_33 ?_
          try rw [nI_add]
          refine o_laldN (t0 := 1) hC rfl dX8_not_34 (by repeat (first | with_reducible assumption | (rw [rl_u_s]; done) | (rw [rl_u_s]; rfl) | rw [rl_u_n (by first | with_reducible assumption | omega)])) (by omega) (by decide) ?_
          refine o_lstore hC dX8_not_35 (Nat.le_of_ble_eq_true rfl) ?_
          refine o_aload_n hC dX8_not_37 (by rfl) ?_
          refine o_getf hC (fX8_60 hC rfl) dX8_not_38 (by repeat (first | with_reducible assumption | (rw [rl_u_s]; done) | (rw [rl_u_s]; rfl) | rw [rl_u_n (by first | with_reducible assumption | omega)])) (by first | rfl | with_reducible assumption) ?_
          refine o_bipush (v := nI 12) hC dX8_not_41 (by decide +kernel) ?_
          refine o_iload_n hC dX8_not_43 (by rfl) ?_
          refine o_imul hC dX8_not_44 ?_
          try rw [nI_mul]
          refine o_iload_n hC dX8_not_45 (by rfl) ?_
          refine o_iadd hC dX8_not_46 ?_
          try rw [nI_add]
          refine o_laldN (t0 := 1) hC rfl dX8_not_47 (by repeat (first | with_reducible assumption | (rw [rl_u_s]; done) | (rw [rl_u_s]; rfl) | rw [rl_u_n (by first | with_reducible assumption | omega)])) (by omega) (by decide) ?_
          refine o_lstore hC dX8_not_48 (Nat.le_of_ble_eq_true rfl) ?_
          refine o_aload_n hC dX8_not_50 (by rfl) ?_
          refine o_iconst (v := nI 0) hC dX8_not_51 (by decide +kernel) ?_
          refine o_putf hC (fX8_82 hC rfl) (fwX8 rfl rfl rfl (Or.inl rfl)) dX8_not_52 (by repeat (first | with_reducible assumption | (rw [rl_u_s]; done) | (rw [rl_u_s]; rfl) | rw [rl_u_n (by first | with_reducible assumption | omega)])) (Nat.le_of_ble_eq_true rfl) ?_
          try simp only [List.set_cons_zero, List.set_cons_succ]
          refine o_iconst (v := nI 0) hC dX8_not_55 (by decide +kernel) ?_
          refine o_istore hC dX8_not_56 (Nat.le_of_ble_eq_true rfl) ?_
          have loop2 : ∀ (m2 j : Nat) (h2 : rl_H) (f2 : Int32) (k2 : Nat) (hn2 hl2 : Nat → Int64) (o9 o10 : Option Value), j + m2 = W.length → mf ids h h2 m T f2 k2 (A1.1, A1.2.1, A1.2.2.1, A1.2.2.2.1, A1.2.2.2.2.1, A1.2.2.2.2.2.1, hn2, hl2, A1.2.2.2.2.2.2.2.2.1, A1.2.2.2.2.2.2.2.2.2.1, A1.2.2.2.2.2.2.2.2.2.2) → ((f2 = nI 0 ∧ tls hn2 hl2 k2 = tfl (tall (tfn W) (A1.2.2.2.2.1 (12 * a + i)) (A1.2.2.2.2.2.1 (12 * a + i)) 0 j)) ∨ (f2 = nI 1 ∧ 12 < (tfl (tall (tfn W) (A1.2.2.2.2.1 (12 * a + i)) (A1.2.2.2.2.2.1 (12 * a + i)) 0 W.length)).length)) → rl_G X (rl_e D ids H0) 58 [some (.ref m), some (.int (nI c)), some (.int (nI a)), some (.int (nI i)), some (.long (A1.2.2.2.2.1 (12 * a + i))), none, some (.long (A1.2.2.2.2.2.1 (12 * a + i))), none, some (.int (nI j)), o9, o10, none] [] h2 n 0 0 := by
            intro m2
            induction m2 with
            | zero =>
              intro j h2 f2 k2 hn2 hl2 o9 o10 hm2 hq2 hst2
              have ej : j = W.length := by omega
              subst ej
              obtain ⟨hm0, g12, g13, g14, g15, g16, g17, g18, g19, g20, g21, g22⟩ := id hq2
              have g0 := hm0.1
              have gk := hm0.2.1
              refine o_iload hC dX8_not_58 (by rfl) ?_
              refine o_aload_n hC dX8_not_60 (by rfl) ?_
              refine o_getf hC (fX8_53 hC rfl) dX8_not_61 (by repeat (first | with_reducible assumption | (rw [rl_u_s]; done) | (rw [rl_u_s]; rfl) | rw [rl_u_n (by first | with_reducible assumption | omega)])) (by first | rfl | with_reducible assumption) ?_
              refine o_iload_n hC dX8_not_64 (by rfl) ?_
              refine o_ialdN (t0 := 0) (k := c) hC rfl dX8_not_65 (by repeat (first | with_reducible assumption | (rw [rl_u_s]; done) | (rw [rl_u_s]; rfl) | rw [rl_u_n (by first | with_reducible assumption | omega)])) (by omega) (by decide) ?_
              rw [hw1.1]
              refine o_icmp_ge (tgt := 182) hC dX8_not_66 (by decide) (fun c_66 => ?_) (fun c_66 => ?_)
              · refine o_aload_n hC dX8_not_182 (by rfl) ?_
                refine o_iload_n hC dX8_not_183 (by rfl) ?_
                refine o_callV1 hC rl_BW_good rl_Ns_nw (by exact hB.2.2.2.2.2) YX8_settle IX8_settle VX8_settle (mX8_99 hC) (by rw [hB.1]; exact cf_X8_settle l D ids H0 _ _ m T _ _ _ c hq2.rf (by omega)) (by exact hq2.1.1) rfl rfl (Nat.le_of_ble_eq_true rfl) (by rw [hB.2.1]; first | exact Nat.le_of_ble_eq_true rfl | (dsimp only; omega)) (by rw [hB.2.1]; first | exact Nat.le_of_ble_eq_true rfl | (dsimp only; omega)) (by rw [hB.2.1]; first | exact Nat.le_of_ble_eq_true rfl | (dsimp only; omega)) (by rw [hB.2.1]; first | exact Nat.le_of_ble_eq_true rfl | (dsimp only; omega)) dX8_not_184 (fun v h_184 n_184 p_184 => ?_)
                obtain ⟨fs, As, rfl, rfl, q8, q9, q10⟩ := p_184
                try dsimp only [Option.toList, List.cons_append, List.nil_append]
                refine o_iinc hC dX8_not_187 (by rfl) (rl_inc _) (Nat.le_of_ble_eq_true rfl) ?_
                refine o_goto (tgt := 7) hC dX8_not_190 (by decide) ?_
                refine ih (i + 1) _ fs _ As _ _ _ _ _ (by omega) (hq2.tr q8) (hro.tr (mro.tr ⟨rfl, rfl, rfl, fun _ _ => rfl, fun _ _ => ⟨rfl, rfl⟩, rfl⟩ q9)) ?_
                rcases hst2 with ⟨rfl, hls⟩ | ⟨rfl, hfu⟩
                · have htk : ∀ e ∈ tls hn2 hl2 k2, tok e := by
                    rw [hls]
                    exact fun e he => (tfl_mem he).2
                  have ek : tkeep (fun i => (hn2 i, hl2 i)) k2 k2 = tfl (tall (tfn W) (A1.2.2.2.2.1 (12 * a + i)) (A1.2.2.2.2.2.1 (12 * a + i)) 0 W.length) := by
                    rw [keep_tfl htk, hls]
                    exact tfl_id _ (tfl_ac _) (fun e he => (tfl_mem he).2)
                  rcases (wre.of ek q10 : wre As c (nI 0) fs (wst (tall (tfn W) (A1.2.2.2.2.1 (12 * a + i)) (A1.2.2.2.2.2.1 (12 * a + i)) 0 W.length))) with ⟨L, h3, h4, h5⟩ | ⟨h3, h4, h5⟩
                  · exact Or.inl ⟨h4, L, h5, wst_ok h3, by rw [w3, hdr, h3]; rfl⟩
                  · exact Or.inr ⟨h4, by rw [w3, hdr, h3]; rfl⟩
                · refine Or.inr ⟨?_, by rw [w3, hdr, show wst (tall (tfn W) (A1.2.2.2.2.1 (12 * a + i)) (A1.2.2.2.2.2.1 (12 * a + i)) 0 W.length) = none from if_neg (by omega)]; rfl⟩
                  rcases q10 with ⟨-, h4, -⟩ | ⟨-, h4, -⟩ <;> exact h4
              · exact absurd (nI_le (by omega) (by omega)) c_66
            | succ m2 ih2 =>
              intro j h2 f2 k2 hn2 hl2 o9 o10 hm2 hq2 hst2
              have loop3 : ∀ (m3 r : Nat) (h3 : rl_H) (f3 : Int32) (k3 : Nat) (hn3 hl3 : Nat → Int64) (o10 : Option Value), r + m3 = 36 → mf ids h h3 m T f3 k3 (A1.1, A1.2.1, A1.2.2.1, A1.2.2.2.1, A1.2.2.2.2.1, A1.2.2.2.2.2.1, hn3, hl3, A1.2.2.2.2.2.2.2.2.1, A1.2.2.2.2.2.2.2.2.2.1, A1.2.2.2.2.2.2.2.2.2.2) → ((f3 = nI 0 ∧ tls hn3 hl3 k3 = tfl ((tall (tfn W) (A1.2.2.2.2.1 (12 * a + i)) (A1.2.2.2.2.2.1 (12 * a + i)) 0 j) ++ ((List.range r).filterMap (tvar (tfn W j) (A1.2.2.2.2.1 (12 * a + i)) (A1.2.2.2.2.2.1 (12 * a + i)))))) ∨ (f3 = nI 1 ∧ 12 < (tfl (tall (tfn W) (A1.2.2.2.2.1 (12 * a + i)) (A1.2.2.2.2.2.1 (12 * a + i)) 0 W.length)).length)) → rl_G X (rl_e D ids H0) 72 [some (.ref m), some (.int (nI c)), some (.int (nI a)), some (.int (nI i)), some (.long (A1.2.2.2.2.1 (12 * a + i))), none, some (.long (A1.2.2.2.2.2.1 (12 * a + i))), none, some (.int (nI j)), some (.int (nI r)), o10, none] [] h3 n 0 0 := by
                intro m3
                induction m3 with
                | zero =>
                  intro r h3 f3 k3 hn3 hl3 o10 hm3 hq3 hst3
                  have er : r = 36 := by omega
                  subst er
                  refine o_iload hC dX8_not_72 (by rfl) ?_
                  refine o_bipush (v := nI 36) hC dX8_not_74 (by decide +kernel) ?_
                  refine o_icmp_ge (tgt := 176) hC dX8_not_76 (by decide) (fun c_76 => ?_) (fun c_76 => ?_)
                  · refine o_iinc hC dX8_not_176 (by rfl) (rl_inc _) (Nat.le_of_ble_eq_true rfl) ?_
                    refine o_goto (tgt := 58) hC dX8_not_179 (by decide) ?_
                    refine ih2 (j + 1) _ _ _ hn3 hl3 _ _ (by omega) hq3 ?_
                    rw [tall_app _ _ _ j 1 0]
                    show (_ ∧ _ = tfl (_ ++ (tcs _ _ _ (0 + j) ++ []))) ∨ _
                    rw [List.append_nil, Nat.zero_add]
                    exact hst3
                  · exact absurd (nI_le (by omega) (by omega)) c_76
                | succ m3 ih3 =>
                  intro r h3 f3 k3 hn3 hl3 o10 hm3 hq3 hst3
                  obtain ⟨hm0, g12, g13, g14, g15, g16, g17, g18, g19, g20, g21, g22⟩ := id hq3
                  have g0 := hm0.1
                  have gk := hm0.2.1
                  refine o_iload hC dX8_not_72 (by rfl) ?_
                  refine o_bipush (v := nI 36) hC dX8_not_74 (by decide +kernel) ?_
                  refine o_icmp_ge (tgt := 176) hC dX8_not_76 (by decide) (fun c_76 => ?_) (fun c_76 => ?_)
                  · exact absurd c_76 (nI_ge (by omega) (by omega))
                  · refine o_lconst (v := 1) hC dX8_not_79 (by decide +kernel) ?_
                    refine o_iload hC dX8_not_80 (by rfl) ?_
                    refine o_lshl hC dX8_not_82 ?_
                    refine o_lstore hC dX8_not_83 (Nat.le_of_ble_eq_true rfl) ?_
                    refine o_lload hC dX8_not_85 (by rfl) ?_
                    refine o_lload hC dX8_not_87 (by rfl) ?_
                    refine o_land hC dX8_not_89 ?_
                    refine o_lconst (v := 0) hC dX8_not_90 (by decide +kernel) ?_
                    refine o_lcmp hC dX8_not_91 ?_
                    refine o_if_eq (tgt := 129) hC dX8_not_92 (by decide) (fun c_92 => ?_) (fun c_92 => ?_)
                    · refine o_lload hC dX8_not_129 (by rfl) ?_
                      refine o_lload hC dX8_not_131 (by rfl) ?_
                      refine o_land hC dX8_not_133 ?_
                      refine o_lconst (v := 0) hC dX8_not_134 (by decide +kernel) ?_
                      refine o_lcmp hC dX8_not_135 ?_
                      refine o_if_eq (tgt := 170) hC dX8_not_136 (by decide) (fun c_136 => ?_) (fun c_136 => ?_)
                      · refine o_iinc hC dX8_not_170 (by rfl) (rl_inc _) (Nat.le_of_ble_eq_true rfl) ?_
                        refine o_goto (tgt := 72) hC dX8_not_173 (by decide) ?_
                        have ev : tvar (tfn W j) (A1.2.2.2.2.1 (12 * a + i)) (A1.2.2.2.2.2.1 (12 * a + i)) r = none := (if_neg (show ¬ ¬ (A1.2.2.2.2.1 (12 * a + i)) &&& tbt r = 0 from fun w => w ((lg_cmp_eq _ _).mp c_92))).trans (if_neg (show ¬ ¬ (A1.2.2.2.2.2.1 (12 * a + i)) &&& tbt r = 0 from fun w => w ((lg_cmp_eq _ _).mp c_136)))
                        refine ih3 (r + 1) _ f3 k3 hn3 hl3 _ (by omega) hq3 ?_
                        rw [rng_fm, ev]
                        show (_ ∧ _ = tfl (_ ++ (_ ++ []))) ∨ _
                        rw [List.append_nil]
                        exact hst3
                      · refine o_aload_n hC dX8_not_139 (by rfl) ?_
                        refine o_aload_n hC dX8_not_140 (by rfl) ?_
                        refine o_getf hC (fX8_56 hC rfl) dX8_not_141 (by repeat (first | with_reducible assumption | (rw [rl_u_s]; done) | (rw [rl_u_s]; rfl) | rw [rl_u_n (by first | with_reducible assumption | omega)])) (by first | rfl | with_reducible assumption) ?_
                        refine o_bipush (v := nI 12) hC dX8_not_144 (by decide +kernel) ?_
                        refine o_iload_n hC dX8_not_146 (by rfl) ?_
                        refine o_imul hC dX8_not_147 ?_
                        try rw [nI_mul]
                        refine o_iload hC dX8_not_148 (by rfl) ?_
                        refine o_iadd hC dX8_not_150 ?_
                        try rw [nI_add]
                        refine o_laldN (t0 := 1) hC rfl dX8_not_151 (by repeat (first | with_reducible assumption | (rw [rl_u_s]; done) | (rw [rl_u_s]; rfl) | rw [rl_u_n (by first | with_reducible assumption | omega)])) (by omega) (by decide) ?_
                        refine o_lload hC dX8_not_152 (by rfl) ?_
                        refine o_lor hC dX8_not_154 ?_
                        refine o_aload_n hC dX8_not_155 (by rfl) ?_
                        refine o_getf hC (fX8_60 hC rfl) dX8_not_156 (by repeat (first | with_reducible assumption | (rw [rl_u_s]; done) | (rw [rl_u_s]; rfl) | rw [rl_u_n (by first | with_reducible assumption | omega)])) (by first | rfl | with_reducible assumption) ?_
                        refine o_bipush (v := nI 12) hC dX8_not_159 (by decide +kernel) ?_
                        refine o_iload_n hC dX8_not_161 (by rfl) ?_
                        refine o_imul hC dX8_not_162 ?_
                        try rw [nI_mul]
                        refine o_iload hC dX8_not_163 (by rfl) ?_
                        refine o_iadd hC dX8_not_165 ?_
                        try rw [nI_add]
                        refine o_laldN (t0 := 1) hC rfl dX8_not_166 (by repeat (first | with_reducible assumption | (rw [rl_u_s]; done) | (rw [rl_u_s]; rfl) | rw [rl_u_n (by first | with_reducible assumption | omega)])) (by omega) (by decide) ?_
                        refine o_callV2 hC rl_BW_good rl_Ns_nw (by exact hB.2.2.2.2.2) YX8_turn IX8_turn VX8_turn (mX8_106 hC) (by rw [hB.1]; exact cf_X8_turn l D ids H0 _ _ m T _ _ _ _ _ hq3.rf) (by exact hq3.1.1) rfl rfl (Nat.le_of_ble_eq_true rfl) (by rw [hB.2.1]; first | exact Nat.le_of_ble_eq_true rfl | (dsimp only; omega)) (by rw [hB.2.1]; first | exact Nat.le_of_ble_eq_true rfl | (dsimp only; omega)) (by rw [hB.2.1]; first | exact Nat.le_of_ble_eq_true rfl | (dsimp only; omega)) (by rw [hB.2.1]; first | exact Nat.le_of_ble_eq_true rfl | (dsimp only; omega)) dX8_not_167 (fun v h_167 n_167 p_167 => ?_)
                        obtain ⟨f9, k9, hn9, hl9, rfl, rfl, q1, q2⟩ := p_167
                        try dsimp only [Option.toList, List.cons_append, List.nil_append]
                        refine o_iinc hC dX8_not_170 (by rfl) (rl_inc _) (Nat.le_of_ble_eq_true rfl) ?_
                        refine o_goto (tgt := 72) hC dX8_not_173 (by decide) ?_
                        have ev : tvar (tfn W j) (A1.2.2.2.2.1 (12 * a + i)) (A1.2.2.2.2.2.1 (12 * a + i)) r = some (A1.2.2.2.2.1 (12 * c + j) ||| tbt r, A1.2.2.2.2.2.1 (12 * c + j)) := (if_neg (show ¬ ¬ (A1.2.2.2.2.1 (12 * a + i)) &&& tbt r = 0 from fun w => w ((lg_cmp_eq _ _).mp c_92))).trans ((if_pos (show ¬ (A1.2.2.2.2.2.1 (12 * a + i)) &&& tbt r = 0 from fun w => c_136 ((lg_cmp_eq _ _).mpr w))).trans (by rw [mws_fn hw1 (show j < W.length by omega)]))
                        refine ih3 (r + 1) _ f9 k9 hn9 hl9 _ (by omega) (hq3.tr q1) ?_
                        rcases hst3 with ⟨rfl, hls⟩ | ⟨rfl, hfu⟩
                        · have eq1 : tfl ((tall (tfn W) (A1.2.2.2.2.1 (12 * a + i)) (A1.2.2.2.2.2.1 (12 * a + i)) 0 j) ++ ((List.range (r + 1)).filterMap (tvar (tfn W j) (A1.2.2.2.2.1 (12 * a + i)) (A1.2.2.2.2.2.1 (12 * a + i))))) = tadd (tls hn3 hl3 k3) (A1.2.2.2.2.1 (12 * c + j) ||| tbt r, A1.2.2.2.2.2.1 (12 * c + j)) := by
                            rw [rng_fm, ev, hls, ← List.append_assoc]
                            exact tfl_snoc _ _
                          rcases q2 with ⟨rfl, h5⟩ | ⟨rfl, h5⟩
                          · exact Or.inl ⟨rfl, h5.trans eq1.symm⟩
                          · exact Or.inr ⟨rfl, tnot_full hw2 (show j < W.length by omega) (show r < 36 by omega) (by rw [eq1]; exact h5)⟩
                        · refine Or.inr ⟨?_, hfu⟩
                          rcases q2 with ⟨h5, -⟩ | ⟨h5, -⟩ <;> exact h5
                    · refine o_aload_n hC dX8_not_95 (by rfl) ?_
                      refine o_aload_n hC dX8_not_96 (by rfl) ?_
                      refine o_getf hC (fX8_56 hC rfl) dX8_not_97 (by repeat (first | with_reducible assumption | (rw [rl_u_s]; done) | (rw [rl_u_s]; rfl) | rw [rl_u_n (by first | with_reducible assumption | omega)])) (by first | rfl | with_reducible assumption) ?_
                      refine o_bipush (v := nI 12) hC dX8_not_100 (by decide +kernel) ?_
                      refine o_iload_n hC dX8_not_102 (by rfl) ?_
                      refine o_imul hC dX8_not_103 ?_
                      try rw [nI_mul]
                      refine o_iload hC dX8_not_104 (by rfl) ?_
                      refine o_iadd hC dX8_not_106 ?_
                      try rw [nI_add]
                      refine o_laldN (t0 := 1) hC rfl dX8_not_107 (by repeat (first | with_reducible assumption | (rw [rl_u_s]; done) | (rw [rl_u_s]; rfl) | rw [rl_u_n (by first | with_reducible assumption | omega)])) (by omega) (by decide) ?_
                      refine o_aload_n hC dX8_not_108 (by rfl) ?_
                      refine o_getf hC (fX8_60 hC rfl) dX8_not_109 (by repeat (first | with_reducible assumption | (rw [rl_u_s]; done) | (rw [rl_u_s]; rfl) | rw [rl_u_n (by first | with_reducible assumption | omega)])) (by first | rfl | with_reducible assumption) ?_
                      refine o_bipush (v := nI 12) hC dX8_not_112 (by decide +kernel) ?_
                      refine o_iload_n hC dX8_not_114 (by rfl) ?_
                      refine o_imul hC dX8_not_115 ?_
                      try rw [nI_mul]
                      refine o_iload hC dX8_not_116 (by rfl) ?_
                      refine o_iadd hC dX8_not_118 ?_
                      try rw [nI_add]
                      refine o_laldN (t0 := 1) hC rfl dX8_not_119 (by repeat (first | with_reducible assumption | (rw [rl_u_s]; done) | (rw [rl_u_s]; rfl) | rw [rl_u_n (by first | with_reducible assumption | omega)])) (by omega) (by decide) ?_
                      refine o_lload hC dX8_not_120 (by rfl) ?_
                      refine o_lor hC dX8_not_122 ?_
                      refine o_callV2 hC rl_BW_good rl_Ns_nw (by exact hB.2.2.2.2.2) YX8_turn IX8_turn VX8_turn (mX8_106 hC) (by rw [hB.1]; exact cf_X8_turn l D ids H0 _ _ m T _ _ _ _ _ hq3.rf) (by exact hq3.1.1) rfl rfl (Nat.le_of_ble_eq_true rfl) (by rw [hB.2.1]; first | exact Nat.le_of_ble_eq_true rfl | (dsimp only; omega)) (by rw [hB.2.1]; first | exact Nat.le_of_ble_eq_true rfl | (dsimp only; omega)) (by rw [hB.2.1]; first | exact Nat.le_of_ble_eq_true rfl | (dsimp only; omega)) (by rw [hB.2.1]; first | exact Nat.le_of_ble_eq_true rfl | (dsimp only; omega)) dX8_not_123 (fun v h_123 n_123 p_123 => ?_)
                      obtain ⟨f9, k9, hn9, hl9, rfl, rfl, q1, q2⟩ := p_123
                      try dsimp only [Option.toList, List.cons_append, List.nil_append]
                      refine o_goto (tgt := 170) hC dX8_not_126 (by decide) ?_
                      refine o_iinc hC dX8_not_170 (by rfl) (rl_inc _) (Nat.le_of_ble_eq_true rfl) ?_
                      refine o_goto (tgt := 72) hC dX8_not_173 (by decide) ?_
                      have ev : tvar (tfn W j) (A1.2.2.2.2.1 (12 * a + i)) (A1.2.2.2.2.2.1 (12 * a + i)) r = some (A1.2.2.2.2.1 (12 * c + j), A1.2.2.2.2.2.1 (12 * c + j) ||| tbt r) := (if_pos (show ¬ (A1.2.2.2.2.1 (12 * a + i)) &&& tbt r = 0 from fun w => c_92 ((lg_cmp_eq _ _).mpr w))).trans (by rw [mws_fn hw1 (show j < W.length by omega)])
                      refine ih3 (r + 1) _ f9 k9 hn9 hl9 _ (by omega) (hq3.tr q1) ?_
                      rcases hst3 with ⟨rfl, hls⟩ | ⟨rfl, hfu⟩
                      · have eq1 : tfl ((tall (tfn W) (A1.2.2.2.2.1 (12 * a + i)) (A1.2.2.2.2.2.1 (12 * a + i)) 0 j) ++ ((List.range (r + 1)).filterMap (tvar (tfn W j) (A1.2.2.2.2.1 (12 * a + i)) (A1.2.2.2.2.2.1 (12 * a + i))))) = tadd (tls hn3 hl3 k3) (A1.2.2.2.2.1 (12 * c + j), A1.2.2.2.2.2.1 (12 * c + j) ||| tbt r) := by
                          rw [rng_fm, ev, hls, ← List.append_assoc]
                          exact tfl_snoc _ _
                        rcases q2 with ⟨rfl, h5⟩ | ⟨rfl, h5⟩
                        · exact Or.inl ⟨rfl, h5.trans eq1.symm⟩
                        · exact Or.inr ⟨rfl, tnot_full hw2 (show j < W.length by omega) (show r < 36 by omega) (by rw [eq1]; exact h5)⟩
                      · refine Or.inr ⟨?_, hfu⟩
                        rcases q2 with ⟨h5, -⟩ | ⟨h5, -⟩ <;> exact h5
              obtain ⟨hm0, g12, g13, g14, g15, g16, g17, g18, g19, g20, g21, g22⟩ := id hq2
              have g0 := hm0.1
              have gk := hm0.2.1
              refine o_iload hC dX8_not_58 (by rfl) ?_
              refine o_aload_n hC dX8_not_60 (by rfl) ?_
              refine o_getf hC (fX8_53 hC rfl) dX8_not_61 (by repeat (first | with_reducible assumption | (rw [rl_u_s]; done) | (rw [rl_u_s]; rfl) | rw [rl_u_n (by first | with_reducible assumption | omega)])) (by first | rfl | with_reducible assumption) ?_
              refine o_iload_n hC dX8_not_64 (by rfl) ?_
              refine o_ialdN (t0 := 0) (k := c) hC rfl dX8_not_65 (by repeat (first | with_reducible assumption | (rw [rl_u_s]; done) | (rw [rl_u_s]; rfl) | rw [rl_u_n (by first | with_reducible assumption | omega)])) (by omega) (by decide) ?_
              rw [hw1.1]
              refine o_icmp_ge (tgt := 182) hC dX8_not_66 (by decide) (fun c_66 => ?_) (fun c_66 => ?_)
              · exact absurd c_66 (nI_ge (by omega) (by omega))
              · refine o_iconst (v := nI 0) hC dX8_not_69 (by decide +kernel) ?_
                refine o_istore hC dX8_not_70 (Nat.le_of_ble_eq_true rfl) ?_
                exact loop3 36 0 _ _ _ hn2 hl2 _ (by omega) hq2 (by rw [List.range_zero, List.filterMap_nil, List.append_nil]; exact hst2)
          exact loop2 W.length 0 _ _ _ A1.2.2.2.2.2.2.1 A1.2.2.2.2.2.2.2.1 _ _ (by omega) (hq1.ob T (nI 0) 0 (by omega)) (Or.inl ⟨rfl, rfl⟩)
  show rl_G X (rl_e D ids H0) 0 [some (.ref m), some (.int (nI c)), some (.int (nI a)), none, none, none, none, none, none, none, none, none] [] h n 0 0
  refine o_aload_n hC dX8_not_0 (by rfl) ?_
  refine o_iload_n hC dX8_not_1 (by rfl) ?_
  refine o_callV1 hC rl_BW_good rl_Ns_nw (by exact hB.2.2.2.2.2) YX8_truth IX8_truth VX8_truth (mX8_103 hC) (by rw [hB.1]; exact cf_X8_truth l D ids H0 _ _ m T _ _ _ c hq (by omega)) (by exact g0) rfl rfl (Nat.le_of_ble_eq_true rfl) (by rw [hB.2.1]; first | exact Nat.le_of_ble_eq_true rfl | (dsimp only; omega)) (by rw [hB.2.1]; first | exact Nat.le_of_ble_eq_true rfl | (dsimp only; omega)) (by rw [hB.2.1]; first | exact Nat.le_of_ble_eq_true rfl | (dsimp only; omega)) (by rw [hB.2.1]; first | exact Nat.le_of_ble_eq_true rfl | (dsimp only; omega)) dX8_not_2 (fun v h_2 n_2 p_2 => ?_)
  obtain ⟨rfl, rfl, q0⟩ := p_2
  try dsimp only [Option.toList, List.cons_append, List.nil_append]
  refine o_iconst (v := nI 0) hC dX8_not_5 (by decide +kernel) ?_
  refine o_istore_n hC dX8_not_6 (Nat.le_of_ble_eq_true rfl) ?_
  refine loop1 La.length 0 _ _ _ (A.1, A.2.1, A.2.2.1, upd A.2.2.2.1 c (nI 1), vp_updL A.2.2.2.2.1 (12 * c) 0, vp_updL A.2.2.2.2.2.1 (12 * c) 0, A.2.2.2.2.2.2.1, A.2.2.2.2.2.2.2.1, A.2.2.2.2.2.2.2.2.1, A.2.2.2.2.2.2.2.2.2.1, A.2.2.2.2.2.2.2.2.2.2) _ _ _ _ _ (by omega) q0 ⟨rfl, rfl, rfl, fun q hq => if_neg hq, fun q hq => ⟨up_ne (by omega), up_ne (by omega)⟩, rfl⟩ (Or.inl ⟨hf0, [(0, 0)], ⟨if_pos rfl, by decide, ?_⟩, wok_1, rfl⟩)
  show [(vp_updL _ (12 * c) 0 (12 * c + 0), vp_updL _ (12 * c) 0 (12 * c + 0))] = _
  rw [Nat.add_zero, up_at, up_at]
end
section
/-! THE MODEL, functionally: cellAt, against, find, take, copy -/
/-- TUPLE t of node a's table -/
abbrev mcl (A : md_D) (a t : Nat) : Nat → Int32 := fun c => A.1 ((80 * a + t) * 6 + c)
/-- how the TUPLE in work stands to it -/
abbrev mag (A : md_D) (a w t : Nat) : Int32 := tb_ord A.2.2.2.2.2.2.2.2.1 (mcl A a t) w 0
/-- the first from t on that is the same -/
def mfi (A : md_D) (a w : Nat) : Nat → Nat → Int32
  | 0, _ => -1
  | f + 1, t => if mag A a w t = 0 then nI t else mfi A a w f (t + 1)

set_option maxHeartbeats 4000000 in
set_option maxRecDepth 100000 in
theorem cf_X8_cellAt (l : Launch) (D : va_G) (ids : Nat → ClassId) (H0 : Heap) (h : rl_H) (n : Nat) (m : Nat) (T : md_T) (fu : Int32) (k : Nat) (A : md_D) (a t c : Nat) (hq : mf ids h h m T fu k A) (ha : (80 * a + t) * 6 + c < 8160) : rl_Met l (rl_e D ids H0) rl_BW rl_Ns yX8_cellAt cX8_cellAt 4 (some .int) ({ frames := 0, cells := 0, slots := 0, locals := 0 }) [.ref m, .int (nI a), .int (nI t), .int (nI c)] h n (fun v h' n' => v = some (.int (mcl A a t c)) ∧ h' = h ∧ n' = n) := by
  obtain ⟨hm0, g12, g13, g14, g15, g16, g17, g18, g19, g20, g21, g22⟩ := id hq
  have g0 := hm0.1
  have gk := hm0.2.1
  have b13 := hq.b13
  have b15 := hq.b15
  have b21 := hq.b21
  refine rl_Met.of (by decide +kernel) (Nat.le_of_ble_eq_true rfl) ?_
  intro X hC hB
  show rl_G X (rl_e D ids H0) 0 [some (.ref m), some (.int (nI a)), some (.int (nI t)), some (.int (nI c))] [] h n 0 0
  refine o_aload_n hC dX8_cellAt_0 (by rfl) ?_
  refine o_getf hC (fX8_43 hC rfl) dX8_cellAt_1 (by repeat (first | with_reducible assumption | (rw [rl_u_s]; done) | (rw [rl_u_s]; rfl) | rw [rl_u_n (by first | with_reducible assumption | omega)])) (by first | rfl | with_reducible assumption) ?_
  refine o_bipush (v := nI 80) hC dX8_cellAt_4 (by decide +kernel) ?_
  refine o_iload_n hC dX8_cellAt_6 (by rfl) ?_
  refine o_imul hC dX8_cellAt_7 ?_
  try rw [nI_mul]
  refine o_iload_n hC dX8_cellAt_8 (by rfl) ?_
  refine o_iadd hC dX8_cellAt_9 ?_
  try rw [nI_add]
  refine o_bipush (v := nI 6) hC dX8_cellAt_10 (by decide +kernel) ?_
  refine o_imul hC dX8_cellAt_12 ?_
  try rw [nI_mul]
  refine o_iload_n hC dX8_cellAt_13 (by rfl) ?_
  refine o_iadd hC dX8_cellAt_14 ?_
  try rw [nI_add]
  refine o_ialdN (t0 := 0) hC rfl dX8_cellAt_15 (by repeat (first | with_reducible assumption | (rw [rl_u_s]; done) | (rw [rl_u_s]; rfl) | rw [rl_u_n (by first | with_reducible assumption | omega)])) (by omega) (by decide) ?_
  refine o_iret hC hB dX8_cellAt_16 (Nat.le_of_ble_eq_true rfl) (Nat.le_of_ble_eq_true rfl) ?_
  exact ⟨rfl, rfl, rfl⟩

set_option maxHeartbeats 4000000 in
set_option maxRecDepth 100000 in
theorem cf_X8_against (l : Launch) (D : va_G) (ids : Nat → ClassId) (H0 : Heap) (h : rl_H) (n : Nat) (m : Nat) (T : md_T) (fu : Int32) (k : Nat) (A : md_D) (S : md_A) (a t w : Nat) (hq : mf ids h h m T fu k A) (hs : md_sa ids h m S) (ha : a < 16) (ht : t < 80) (hw : S.2.2.2.2.2.2.2.2.2.2 a = nI w) (hw6 : w ≤ 6) : rl_Met l (rl_e D ids H0) rl_BW rl_Ns yX8_against cX8_against 5 (some .int) ({ frames := 1, cells := 0, slots := 0, locals := 23 }) [.ref m, .int (nI a), .int (nI t)] h n (fun v h' n' => v = some (.int (mag A a w t)) ∧ h' = h ∧ n' = n) := by
  obtain ⟨hm0, g12, g13, g14, g15, g16, g17, g18, g19, g20, g21, g22⟩ := id hq
  have g0 := hm0.1
  have gk := hm0.2.1
  have b13 := hq.b13
  have b15 := hq.b15
  have b21 := hq.b21
  obtain ⟨a1, a2, a3, a4, a5, a6, a7, a8, a9, a10, a11⟩ := id hs
  refine rl_Met.of (by decide +kernel) (Nat.le_of_ble_eq_true rfl) ?_
  intro X hC hB
  have loop : ∀ (mm c : Nat) (o4 : Option Value), c + mm = w → mag A a w t = tb_ord A.2.2.2.2.2.2.2.2.1 (mcl A a t) mm c → rl_G X (rl_e D ids H0) 2 [some (.ref m), some (.int (nI a)), some (.int (nI t)), some (.int (nI c)), o4] [] h n 0 0 := by
    intro mm
    induction mm with
    | zero =>
      intro c o4 hm hs1
      refine o_iload_n hC dX8_against_2 (by rfl) ?_
      refine o_aload_n hC dX8_against_3 (by rfl) ?_
      refine o_getf hC (fX8_40 hC rfl) dX8_against_4 (by repeat (first | with_reducible assumption | (rw [rl_u_s]; done) | (rw [rl_u_s]; rfl) | rw [rl_u_n (by first | with_reducible assumption | omega)])) (by first | rfl | with_reducible assumption) ?_
      refine o_iload_n hC dX8_against_7 (by rfl) ?_
      refine o_ialdN (t0 := 0) (k := a) hC rfl dX8_against_8 (by repeat (first | with_reducible assumption | (rw [rl_u_s]; done) | (rw [rl_u_s]; rfl) | rw [rl_u_n (by first | with_reducible assumption | omega)])) (by omega) (by decide) ?_
      rw [hw]
      refine o_icmp_ge (tgt := 55) hC dX8_against_9 (by decide) (fun c_9 => ?_) (fun c_9 => ?_)
      · refine o_iconst (v := nI 0) hC dX8_against_55 (by decide +kernel) ?_
        refine o_iret hC hB dX8_against_56 (Nat.le_of_ble_eq_true rfl) (Nat.le_of_ble_eq_true rfl) ?_
        exact ⟨by rw [hs1]; rfl, rfl, rfl⟩
      · exact absurd (nI_le (by omega) (by omega)) c_9
    | succ mm ih =>
      intro c o4 hm hs1
      refine o_iload_n hC dX8_against_2 (by rfl) ?_
      refine o_aload_n hC dX8_against_3 (by rfl) ?_
      refine o_getf hC (fX8_40 hC rfl) dX8_against_4 (by repeat (first | with_reducible assumption | (rw [rl_u_s]; done) | (rw [rl_u_s]; rfl) | rw [rl_u_n (by first | with_reducible assumption | omega)])) (by first | rfl | with_reducible assumption) ?_
      refine o_iload_n hC dX8_against_7 (by rfl) ?_
      refine o_ialdN (t0 := 0) (k := a) hC rfl dX8_against_8 (by repeat (first | with_reducible assumption | (rw [rl_u_s]; done) | (rw [rl_u_s]; rfl) | rw [rl_u_n (by first | with_reducible assumption | omega)])) (by omega) (by decide) ?_
      rw [hw]
      refine o_icmp_ge (tgt := 55) hC dX8_against_9 (by decide) (fun c_9 => ?_) (fun c_9 => ?_)
      · refine o_iconst (v := nI 0) hC dX8_against_55 (by decide +kernel) ?_
        refine o_iret hC hB dX8_against_56 (Nat.le_of_ble_eq_true rfl) (Nat.le_of_ble_eq_true rfl) ?_
        first
        | exact ⟨by rw [hs1, tb_ord, if_neg c_29, if_pos c_40], rfl, rfl⟩
        | exact ⟨by rw [hs1, tb_ord, if_neg c_29, if_neg c_40], rfl, rfl⟩
        | exact absurd c_9 (nI_ge (by omega) (by omega))
      · refine o_aload_n hC dX8_against_12 (by rfl) ?_
        refine o_iload_n hC dX8_against_13 (by rfl) ?_
        refine o_iload_n hC dX8_against_14 (by rfl) ?_
        refine o_iload_n hC dX8_against_15 (by rfl) ?_
        refine o_callV3 hC rl_BW_good rl_Ns_nw (by exact hB.2.2.2.2.2) YX8_cellAt IX8_cellAt VX8_cellAt (mX8_138 hC) (by rw [hB.1]; exact cf_X8_cellAt l D ids H0 _ _ m T _ _ _ a t c hq (by omega)) (by exact hq.1.1) rfl rfl (Nat.le_of_ble_eq_true rfl) (by rw [hB.2.1]; first | exact Nat.le_of_ble_eq_true rfl | (dsimp only; omega)) (by rw [hB.2.1]; first | exact Nat.le_of_ble_eq_true rfl | (dsimp only; omega)) (by rw [hB.2.1]; first | exact Nat.le_of_ble_eq_true rfl | (dsimp only; omega)) (by rw [hB.2.1]; first | exact Nat.le_of_ble_eq_true rfl | (dsimp only; omega)) dX8_against_16 (fun v h_16 n_16 p_16 => ?_)
        obtain ⟨rfl, rfl, rfl⟩ := p_16
        try dsimp only [Option.toList, List.cons_append, List.nil_append]
        refine o_istore hC dX8_against_19 (Nat.le_of_ble_eq_true rfl) ?_
        refine o_aload_n hC dX8_against_21 (by rfl) ?_
        refine o_getf hC (fX8_69 hC rfl) dX8_against_22 (by repeat (first | with_reducible assumption | (rw [rl_u_s]; done) | (rw [rl_u_s]; rfl) | rw [rl_u_n (by first | with_reducible assumption | omega)])) (by first | rfl | with_reducible assumption) ?_
        refine o_iload_n hC dX8_against_25 (by rfl) ?_
        refine o_ialdN (t0 := 0) hC rfl dX8_against_26 (by repeat (first | with_reducible assumption | (rw [rl_u_s]; done) | (rw [rl_u_s]; rfl) | rw [rl_u_n (by first | with_reducible assumption | omega)])) (by omega) (by decide) ?_
        refine o_iload hC dX8_against_27 (by rfl) ?_
        refine o_icmp_eq (tgt := 49) hC dX8_against_29 (by decide) (fun c_29 => ?_) (fun c_29 => ?_)
        · refine o_iinc hC dX8_against_49 (by rfl) (rl_inc _) (Nat.le_of_ble_eq_true rfl) ?_
          refine o_goto (tgt := 2) hC dX8_against_52 (by decide) ?_
          exact ih (c + 1) _ (by omega) (by rw [hs1, tb_ord, if_pos c_29])
        · refine o_aload_n hC dX8_against_32 (by rfl) ?_
          refine o_getf hC (fX8_69 hC rfl) dX8_against_33 (by repeat (first | with_reducible assumption | (rw [rl_u_s]; done) | (rw [rl_u_s]; rfl) | rw [rl_u_n (by first | with_reducible assumption | omega)])) (by first | rfl | with_reducible assumption) ?_
          refine o_iload_n hC dX8_against_36 (by rfl) ?_
          refine o_ialdN (t0 := 0) hC rfl dX8_against_37 (by repeat (first | with_reducible assumption | (rw [rl_u_s]; done) | (rw [rl_u_s]; rfl) | rw [rl_u_n (by first | with_reducible assumption | omega)])) (by omega) (by decide) ?_
          refine o_iload hC dX8_against_38 (by rfl) ?_
          refine o_icmp_ge (tgt := 47) hC dX8_against_40 (by decide) (fun c_40 => ?_) (fun c_40 => ?_)
          · refine o_iconst (v := nI 1) hC dX8_against_47 (by decide +kernel) ?_
            refine o_iret hC hB dX8_against_48 (Nat.le_of_ble_eq_true rfl) (Nat.le_of_ble_eq_true rfl) ?_
            first
            | exact ⟨by rw [hs1, tb_ord, if_neg c_29, if_pos c_40], rfl, rfl⟩
            | exact ⟨by rw [hs1, tb_ord, if_neg c_29, if_neg c_40], rfl, rfl⟩
            | exact absurd c_9 (nI_ge (by omega) (by omega))
          · refine o_iconst (v := (-1 : Int32)) hC dX8_against_43 (by decide +kernel) ?_
            refine o_goto (tgt := 48) hC dX8_against_44 (by decide) ?_
            refine o_iret hC hB dX8_against_48 (Nat.le_of_ble_eq_true rfl) (Nat.le_of_ble_eq_true rfl) ?_
            first
            | exact ⟨by rw [hs1, tb_ord, if_neg c_29, if_pos c_40], rfl, rfl⟩
            | exact ⟨by rw [hs1, tb_ord, if_neg c_29, if_neg c_40], rfl, rfl⟩
            | exact absurd c_9 (nI_ge (by omega) (by omega))
  show rl_G X (rl_e D ids H0) 0 [some (.ref m), some (.int (nI a)), some (.int (nI t)), none, none] [] h n 0 0
  refine o_iconst (v := nI 0) hC dX8_against_0 (by decide +kernel) ?_
  refine o_istore_n hC dX8_against_1 (Nat.le_of_ble_eq_true rfl) ?_
  exact loop w 0 _ (by omega) rfl

set_option maxHeartbeats 4000000 in
set_option maxRecDepth 100000 in
theorem cf_X8_find (l : Launch) (D : va_G) (ids : Nat → ClassId) (H0 : Heap) (h : rl_H) (n : Nat) (m : Nat) (T : md_T) (fu : Int32) (k : Nat) (A : md_D) (S : md_A) (a w tu : Nat) (hq : mf ids h h m T fu k A) (hs : md_sa ids h m S) (ha : a < 16) (hw : S.2.2.2.2.2.2.2.2.2.2 a = nI w) (hw6 : w ≤ 6) (htu : A.2.1 a = nI tu) (htu8 : tu ≤ 80) : rl_Met l (rl_e D ids H0) rl_BW rl_Ns yX8_find cX8_find 3 (some .int) ({ frames := 2, cells := 0, slots := 0, locals := 47 }) [.ref m, .int (nI a)] h n (fun v h' n' => v = some (.int (mfi A a w tu 0)) ∧ h' = h ∧ n' = n) := by
  obtain ⟨hm0, g12, g13, g14, g15, g16, g17, g18, g19, g20, g21, g22⟩ := id hq
  have g0 := hm0.1
  have gk := hm0.2.1
  have b13 := hq.b13
  have b15 := hq.b15
  have b21 := hq.b21
  obtain ⟨a1, a2, a3, a4, a5, a6, a7, a8, a9, a10, a11⟩ := id hs
  refine rl_Met.of (by decide +kernel) (Nat.le_of_ble_eq_true rfl) ?_
  intro X hC hB
  have loop : ∀ (mm t : Nat), t + mm = tu → mfi A a w tu 0 = mfi A a w mm t → rl_G X (rl_e D ids H0) 2 [some (.ref m), some (.int (nI a)), some (.int (nI t))] [] h n 0 0 := by
    intro mm
    induction mm with
    | zero =>
      intro t hm hs1
      refine o_iload_n hC dX8_find_2 (by rfl) ?_
      refine o_aload_n hC dX8_find_3 (by rfl) ?_
      refine o_getf hC (fX8_46 hC rfl) dX8_find_4 (by repeat (first | with_reducible assumption | (rw [rl_u_s]; done) | (rw [rl_u_s]; rfl) | rw [rl_u_n (by first | with_reducible assumption | omega)])) (by first | rfl | with_reducible assumption) ?_
      refine o_iload_n hC dX8_find_7 (by rfl) ?_
      refine o_ialdN (t0 := 0) (k := a) hC rfl dX8_find_8 (by repeat (first | with_reducible assumption | (rw [rl_u_s]; done) | (rw [rl_u_s]; rfl) | rw [rl_u_n (by first | with_reducible assumption | omega)])) (by omega) (by decide) ?_
      rw [htu]
      refine o_icmp_ge (tgt := 29) hC dX8_find_9 (by decide) (fun c_9 => ?_) (fun c_9 => ?_)
      · refine o_iconst (v := (-1 : Int32)) hC dX8_find_29 (by decide +kernel) ?_
        refine o_iret hC hB dX8_find_30 (Nat.le_of_ble_eq_true rfl) (Nat.le_of_ble_eq_true rfl) ?_
        exact ⟨by rw [hs1]; rfl, rfl, rfl⟩
      · exact absurd (nI_le (by omega) (by omega)) c_9
    | succ mm ih =>
      intro t hm hs1
      refine o_iload_n hC dX8_find_2 (by rfl) ?_
      refine o_aload_n hC dX8_find_3 (by rfl) ?_
      refine o_getf hC (fX8_46 hC rfl) dX8_find_4 (by repeat (first | with_reducible assumption | (rw [rl_u_s]; done) | (rw [rl_u_s]; rfl) | rw [rl_u_n (by first | with_reducible assumption | omega)])) (by first | rfl | with_reducible assumption) ?_
      refine o_iload_n hC dX8_find_7 (by rfl) ?_
      refine o_ialdN (t0 := 0) (k := a) hC rfl dX8_find_8 (by repeat (first | with_reducible assumption | (rw [rl_u_s]; done) | (rw [rl_u_s]; rfl) | rw [rl_u_n (by first | with_reducible assumption | omega)])) (by omega) (by decide) ?_
      rw [htu]
      refine o_icmp_ge (tgt := 29) hC dX8_find_9 (by decide) (fun c_9 => ?_) (fun c_9 => ?_)
      · refine o_iconst (v := (-1 : Int32)) hC dX8_find_29 (by decide +kernel) ?_
        refine o_iret hC hB dX8_find_30 (Nat.le_of_ble_eq_true rfl) (Nat.le_of_ble_eq_true rfl) ?_
        exact absurd c_9 (nI_ge (by omega) (by omega))
      · refine o_aload_n hC dX8_find_12 (by rfl) ?_
        refine o_iload_n hC dX8_find_13 (by rfl) ?_
        refine o_iload_n hC dX8_find_14 (by rfl) ?_
        refine o_callV2 hC rl_BW_good rl_Ns_nw (by exact hB.2.2.2.2.2) YX8_against IX8_against VX8_against (mX8_141 hC) (by rw [hB.1]; exact cf_X8_against l D ids H0 _ _ m T _ _ _ S a t w hq hs (by omega) (by omega) hw hw6) (by exact hq.1.1) rfl rfl (Nat.le_of_ble_eq_true rfl) (by rw [hB.2.1]; first | exact Nat.le_of_ble_eq_true rfl | (dsimp only; omega)) (by rw [hB.2.1]; first | exact Nat.le_of_ble_eq_true rfl | (dsimp only; omega)) (by rw [hB.2.1]; first | exact Nat.le_of_ble_eq_true rfl | (dsimp only; omega)) (by rw [hB.2.1]; first | exact Nat.le_of_ble_eq_true rfl | (dsimp only; omega)) dX8_find_15 (fun v h_15 n_15 p_15 => ?_)
        obtain ⟨rfl, rfl, rfl⟩ := p_15
        try dsimp only [Option.toList, List.cons_append, List.nil_append]
        refine o_if_ne (tgt := 23) hC dX8_find_18 (by decide) (fun c_18 => ?_) (fun c_18 => ?_)
        · refine o_iinc hC dX8_find_23 (by rfl) (rl_inc _) (Nat.le_of_ble_eq_true rfl) ?_
          refine o_goto (tgt := 2) hC dX8_find_26 (by decide) ?_
          exact ih (t + 1) (by omega) (by rw [hs1, mfi, if_neg c_18])
        · refine o_iload_n hC dX8_find_21 (by rfl) ?_
          refine o_iret hC hB dX8_find_22 (Nat.le_of_ble_eq_true rfl) (Nat.le_of_ble_eq_true rfl) ?_
          exact ⟨by rw [hs1, mfi, if_pos (by first | exact c_18 | exact Classical.not_not.mp c_18)], rfl, rfl⟩
  show rl_G X (rl_e D ids H0) 0 [some (.ref m), some (.int (nI a)), none] [] h n 0 0
  refine o_iconst (v := nI 0) hC dX8_find_0 (by decide +kernel) ?_
  refine o_istore_n hC dX8_find_1 (Nat.le_of_ble_eq_true rfl) ?_
  exact loop tu 0 (by omega) rfl

set_option maxHeartbeats 4000000 in
set_option maxRecDepth 100000 in
theorem cf_X8_take (l : Launch) (D : va_G) (ids : Nat → ClassId) (H0 : Heap) (h : rl_H) (n : Nat) (m : Nat) (T : md_T) (fu : Int32) (k : Nat) (A : md_D) (a t w : Nat) (hq : mf ids h h m T fu k A) (ha : a < 16) (ht : t < 80) (hw : w ≤ 6) : rl_Met l (rl_e D ids H0) rl_BW rl_Ns yX8_take cX8_take 5 none ({ frames := 1, cells := 0, slots := 0, locals := 23 }) [.ref m, .int (nI a), .int (nI t), .int (nI w)] h n (fun v h' n' => ∃ tp' : Nat → Int32, v = none ∧ n' = n ∧ mf ids h h' m T fu k (A.1, A.2.1, A.2.2.1, A.2.2.2.1, A.2.2.2.2.1, A.2.2.2.2.2.1, A.2.2.2.2.2.2.1, A.2.2.2.2.2.2.2.1, tp', A.2.2.2.2.2.2.2.2.2.1, A.2.2.2.2.2.2.2.2.2.2) ∧ (∀ q : Nat, tp' q = if q < w then mcl A a t q else A.2.2.2.2.2.2.2.2.1 q)) := by
  obtain ⟨hm0, g12, g13, g14, g15, g16, g17, g18, g19, g20, g21, g22⟩ := id hq
  have g0 := hm0.1
  have gk := hm0.2.1
  have b13 := hq.b13
  have b15 := hq.b15
  have b21 := hq.b21
  refine rl_Met.of (by decide +kernel) (Nat.le_of_ble_eq_true rfl) ?_
  intro X hC hB
  have loop : ∀ (mm c : Nat) (h1 : rl_H) (tp1 : Nat → Int32), c + mm = w → mf ids h h1 m T fu k (A.1, A.2.1, A.2.2.1, A.2.2.2.1, A.2.2.2.2.1, A.2.2.2.2.2.1, A.2.2.2.2.2.2.1, A.2.2.2.2.2.2.2.1, tp1, A.2.2.2.2.2.2.2.2.2.1, A.2.2.2.2.2.2.2.2.2.2) → (∀ q : Nat, tp1 q = if q < c then mcl A a t q else A.2.2.2.2.2.2.2.2.1 q) → rl_G X (rl_e D ids H0) 3 [some (.ref m), some (.int (nI a)), some (.int (nI t)), some (.int (nI w)), some (.int (nI c))] [] h1 n 0 0 := by
    intro mm
    induction mm with
    | zero =>
      intro c h1 tp1 hm hq1 htp
      have ec : c = w := by omega
      subst ec
      refine o_iload hC dX8_take_3 (by rfl) ?_
      refine o_iload_n hC dX8_take_5 (by rfl) ?_
      refine o_icmp_ge (tgt := 30) hC dX8_take_6 (by decide) (fun c_6 => ?_) (fun c_6 => ?_)
      · refine o_vret hC hB dX8_take_30 (Nat.le_of_ble_eq_true rfl) (Nat.le_of_ble_eq_true rfl) ?_
        exact ⟨tp1, rfl, rfl, hq1, htp⟩
      · exact absurd (nI_le (by omega) (by omega)) c_6
    | succ mm ih =>
      intro c h1 tp1 hm hq1 htp
      obtain ⟨hm0, g12, g13, g14, g15, g16, g17, g18, g19, g20, g21, g22⟩ := id hq1
      have g0 := hm0.1
      have gk := hm0.2.1
      refine o_iload hC dX8_take_3 (by rfl) ?_
      refine o_iload_n hC dX8_take_5 (by rfl) ?_
      refine o_icmp_ge (tgt := 30) hC dX8_take_6 (by decide) (fun c_6 => ?_) (fun c_6 => ?_)
      · refine o_vret hC hB dX8_take_30 (Nat.le_of_ble_eq_true rfl) (Nat.le_of_ble_eq_true rfl) ?_
        exact absurd c_6 (nI_ge (by omega) (by omega))
      · refine o_aload_n hC dX8_take_9 (by rfl) ?_
        refine o_getf hC (fX8_69 hC rfl) dX8_take_10 (by repeat (first | with_reducible assumption | (rw [rl_u_s]; done) | (rw [rl_u_s]; rfl) | rw [rl_u_n (by first | with_reducible assumption | omega)])) (by first | rfl | with_reducible assumption) ?_
        refine o_iload hC dX8_take_13 (by rfl) ?_
        refine o_aload_n hC dX8_take_15 (by rfl) ?_
        refine o_iload_n hC dX8_take_16 (by rfl) ?_
        refine o_iload_n hC dX8_take_17 (by rfl) ?_
        refine o_iload hC dX8_take_18 (by rfl) ?_
        refine o_callV3 hC rl_BW_good rl_Ns_nw (by exact hB.2.2.2.2.2) YX8_cellAt IX8_cellAt VX8_cellAt (mX8_138 hC) (by rw [hB.1]; exact cf_X8_cellAt l D ids H0 _ _ m T _ _ _ a t c hq1.rf (by omega)) (by exact hq1.rf.1.1) rfl rfl (Nat.le_of_ble_eq_true rfl) (by rw [hB.2.1]; first | exact Nat.le_of_ble_eq_true rfl | (dsimp only; omega)) (by rw [hB.2.1]; first | exact Nat.le_of_ble_eq_true rfl | (dsimp only; omega)) (by rw [hB.2.1]; first | exact Nat.le_of_ble_eq_true rfl | (dsimp only; omega)) (by rw [hB.2.1]; first | exact Nat.le_of_ble_eq_true rfl | (dsimp only; omega)) dX8_take_20 (fun v h_20 n_20 p_20 => ?_)
        obtain ⟨rfl, rfl, rfl⟩ := p_20
        try dsimp only [Option.toList, List.cons_append, List.nil_append]
        refine o_iastN (t0 := 0) hC rfl dX8_take_23 (by repeat (first | with_reducible assumption | (rw [rl_u_s]; done) | (rw [rl_u_s]; rfl) | rw [rl_u_n (by first | with_reducible assumption | omega)])) (by omega) (by decide) ?_
        refine o_iinc hC dX8_take_24 (by rfl) (rl_inc _) (Nat.le_of_ble_eq_true rfl) ?_
        refine o_goto (tgt := 3) hC dX8_take_27 (by decide) ?_
        exact ih (c + 1) _ (upd tp1 c (mcl A a t c)) (by omega) (hq1.s20 _) (fun q => by
          by_cases e : q = c
          · subst e
            rw [upd_at, if_pos (by omega)]
          · rw [show upd tp1 c (mcl A a t c) q = tp1 q from if_neg e, htp q]
            by_cases e2 : q < c
            · rw [if_pos e2, if_pos (by omega)]
            · rw [if_neg e2, if_neg (by omega)])
  show rl_G X (rl_e D ids H0) 0 [some (.ref m), some (.int (nI a)), some (.int (nI t)), some (.int (nI w)), none] [] h n 0 0
  refine o_iconst (v := nI 0) hC dX8_take_0 (by decide +kernel) ?_
  refine o_istore hC dX8_take_1 (Nat.le_of_ble_eq_true rfl) ?_
  exact loop w 0 _ A.2.2.2.2.2.2.2.2.1 (by omega) hq (fun q => (if_neg (by omega)).symm)

set_option maxHeartbeats 4000000 in
set_option maxRecDepth 100000 in
theorem cf_X8_copy (l : Launch) (D : va_G) (ids : Nat → ClassId) (H0 : Heap) (h : rl_H) (n : Nat) (m : Nat) (T : md_T) (fu : Int32) (k : Nat) (A : md_D) (a b : Nat) (Lb : List tT) (hq : mf ids h h m T fu k A) (ha : a < 1368) (hb16 : b < 1368) (hab : b ≠ a) (hb : mws A b Lb) : rl_Met l (rl_e D ids H0) rl_BW rl_Ns yX8_copy cX8_copy 4 none ({ frames := 0, cells := 0, slots := 0, locals := 0 }) [.ref m, .int (nI a), .int (nI b)] h n (fun v h' n' => ∃ A' : md_D, v = none ∧ n' = n ∧ mf ids h h' m T fu k A' ∧ mro A A' a ∧ mws A' a Lb) := by
  obtain ⟨hm0, g12, g13, g14, g15, g16, g17, g18, g19, g20, g21, g22⟩ := id hq
  have g0 := hm0.1
  have gk := hm0.2.1
  have b13 := hq.b13
  have b15 := hq.b15
  have b21 := hq.b21
  have lb12 := hb.2.1
  refine rl_Met.of (by decide +kernel) (Nat.le_of_ble_eq_true rfl) ?_
  intro X hC hB
  have loop : ∀ (mm j : Nat) (h1 : rl_H) (A1 : md_D), j + mm = Lb.length → mf ids h h1 m T fu k A1 → mro A A1 a ∧ A1.2.2.2.1 a = nI Lb.length ∧ (∀ i : Nat, i < j → A1.2.2.2.2.1 (12 * a + i) = A.2.2.2.2.1 (12 * b + i) ∧ A1.2.2.2.2.2.1 (12 * a + i) = A.2.2.2.2.2.1 (12 * b + i)) → rl_G X (rl_e D ids H0) 14 [some (.ref m), some (.int (nI a)), some (.int (nI b)), some (.int (nI j))] [] h1 n 0 0 := by
    intro mm
    induction mm with
    | zero =>
      intro j h1 A1 hm hq1 hr
      have ej : j = Lb.length := by omega
      subst ej
      obtain ⟨hro, ht1, hcp⟩ := hr
      have hb1 := hro.2.2.2.1 b hab
      obtain ⟨hm0, g12, g13, g14, g15, g16, g17, g18, g19, g20, g21, g22⟩ := id hq1
      have g0 := hm0.1
      have gk := hm0.2.1
      refine o_iload_n hC dX8_copy_14 (by rfl) ?_
      refine o_aload_n hC dX8_copy_15 (by rfl) ?_
      refine o_getf hC (fX8_53 hC rfl) dX8_copy_16 (by repeat (first | with_reducible assumption | (rw [rl_u_s]; done) | (rw [rl_u_s]; rfl) | rw [rl_u_n (by first | with_reducible assumption | omega)])) (by first | rfl | with_reducible assumption) ?_
      refine o_iload_n hC dX8_copy_19 (by rfl) ?_
      refine o_ialdN (t0 := 0) (k := b) hC rfl dX8_copy_20 (by repeat (first | with_reducible assumption | (rw [rl_u_s]; done) | (rw [rl_u_s]; rfl) | rw [rl_u_n (by first | with_reducible assumption | omega)])) (by omega) (by decide) ?_
      rw [hb1, hb.1]
      refine o_icmp_ge (tgt := 74) hC dX8_copy_21 (by decide) (fun c_21 => ?_) (fun c_21 => ?_)
      · refine o_vret hC hB dX8_copy_74 (Nat.le_of_ble_eq_true rfl) (Nat.le_of_ble_eq_true rfl) ?_
        refine ⟨A1, rfl, rfl, hq1, hro, ht1, hb.2.1, (tls_eq (fun i hi => hcp i hi)).trans hb.2.2⟩
      · exact absurd (nI_le (by omega) (by omega)) c_21
    | succ mm ih =>
      intro j h1 A1 hm hq1 hr
      obtain ⟨hro, ht1, hcp⟩ := hr
      have hb1 := hro.2.2.2.1 b hab
      obtain ⟨hm0, g12, g13, g14, g15, g16, g17, g18, g19, g20, g21, g22⟩ := id hq1
      have g0 := hm0.1
      have gk := hm0.2.1
      refine o_iload_n hC dX8_copy_14 (by rfl) ?_
      refine o_aload_n hC dX8_copy_15 (by rfl) ?_
      refine o_getf hC (fX8_53 hC rfl) dX8_copy_16 (by repeat (first | with_reducible assumption | (rw [rl_u_s]; done) | (rw [rl_u_s]; rfl) | rw [rl_u_n (by first | with_reducible assumption | omega)])) (by first | rfl | with_reducible assumption) ?_
      refine o_iload_n hC dX8_copy_19 (by rfl) ?_
      refine o_ialdN (t0 := 0) (k := b) hC rfl dX8_copy_20 (by repeat (first | with_reducible assumption | (rw [rl_u_s]; done) | (rw [rl_u_s]; rfl) | rw [rl_u_n (by first | with_reducible assumption | omega)])) (by omega) (by decide) ?_
      rw [hb1, hb.1]
      refine o_icmp_ge (tgt := 74) hC dX8_copy_21 (by decide) (fun c_21 => ?_) (fun c_21 => ?_)
      · refine o_vret hC hB dX8_copy_74 (Nat.le_of_ble_eq_true rfl) (Nat.le_of_ble_eq_true rfl) ?_
        exact absurd c_21 (nI_ge (by omega) (by omega))
      · refine o_aload_n hC dX8_copy_24 (by rfl) ?_
        refine o_getf hC (fX8_56 hC rfl) dX8_copy_25 (by repeat (first | with_reducible assumption | (rw [rl_u_s]; done) | (rw [rl_u_s]; rfl) | rw [rl_u_n (by first | with_reducible assumption | omega)])) (by first | rfl | with_reducible assumption) ?_
        refine o_bipush (v := nI 12) hC dX8_copy_28 (by decide +kernel) ?_
        refine o_iload_n hC dX8_copy_30 (by rfl) ?_
        refine o_imul hC dX8_copy_31 ?_
        try rw [nI_mul]
        refine o_iload_n hC dX8_copy_32 (by rfl) ?_
        refine o_iadd hC dX8_copy_33 ?_
        try rw [nI_add]
        refine o_aload_n hC dX8_copy_34 (by rfl) ?_
        refine o_getf hC (fX8_56 hC rfl) dX8_copy_35 (by repeat (first | with_reducible assumption | (rw [rl_u_s]; done) | (rw [rl_u_s]; rfl) | rw [rl_u_n (by first | with_reducible assumption | omega)])) (by first | rfl | with_reducible assumption) ?_
        refine o_bipush (v := nI 12) hC dX8_copy_38 (by decide +kernel) ?_
        refine o_iload_n hC dX8_copy_40 (by rfl) ?_
        refine o_imul hC dX8_copy_41 ?_
        try rw [nI_mul]
        refine o_iload_n hC dX8_copy_42 (by rfl) ?_
        refine o_iadd hC dX8_copy_43 ?_
        try rw [nI_add]
        refine o_laldN (t0 := 1) hC rfl dX8_copy_44 (by repeat (first | with_reducible assumption | (rw [rl_u_s]; done) | (rw [rl_u_s]; rfl) | rw [rl_u_n (by first | with_reducible assumption | omega)])) (by omega) (by decide) ?_
        refine o_lastN (t0 := 1) hC rfl dX8_copy_45 (by repeat (first | with_reducible assumption | (rw [rl_u_s]; done) | (rw [rl_u_s]; rfl) | rw [rl_u_n (by first | with_reducible assumption | omega)])) (by omega) (by decide) ?_
        refine o_aload_n hC dX8_copy_46 (by rfl) ?_
        refine o_getf hC (fX8_60 hC rfl) dX8_copy_47 (by repeat (first | with_reducible assumption | (rw [rl_u_s]; done) | (rw [rl_u_s]; rfl) | rw [rl_u_n (by first | with_reducible assumption | omega)])) (by first | rfl | with_reducible assumption) ?_
        refine o_bipush (v := nI 12) hC dX8_copy_50 (by decide +kernel) ?_
        refine o_iload_n hC dX8_copy_52 (by rfl) ?_
        refine o_imul hC dX8_copy_53 ?_
        try rw [nI_mul]
        refine o_iload_n hC dX8_copy_54 (by rfl) ?_
        refine o_iadd hC dX8_copy_55 ?_
        try rw [nI_add]
        refine o_aload_n hC dX8_copy_56 (by rfl) ?_
        refine o_getf hC (fX8_60 hC rfl) dX8_copy_57 (by repeat (first | with_reducible assumption | (rw [rl_u_s]; done) | (rw [rl_u_s]; rfl) | rw [rl_u_n (by first | with_reducible assumption | omega)])) (by first | rfl | with_reducible assumption) ?_
        refine o_bipush (v := nI 12) hC dX8_copy_60 (by decide +kernel) ?_
        refine o_iload_n hC dX8_copy_62 (by rfl) ?_
        refine o_imul hC dX8_copy_63 ?_
        try rw [nI_mul]
        refine o_iload_n hC dX8_copy_64 (by rfl) ?_
        refine o_iadd hC dX8_copy_65 ?_
        try rw [nI_add]
        refine o_laldN (t0 := 1) hC rfl dX8_copy_66 (by repeat (first | with_reducible assumption | (rw [rl_u_s]; done) | (rw [rl_u_s]; rfl) | rw [rl_u_n (by first | with_reducible assumption | omega)])) (by omega) (by decide) ?_
        refine o_lastN (t0 := 1) hC rfl dX8_copy_67 (by repeat (first | with_reducible assumption | (rw [rl_u_s]; done) | (rw [rl_u_s]; rfl) | rw [rl_u_n (by first | with_reducible assumption | omega)])) (by omega) (by decide) ?_
        refine o_iinc hC dX8_copy_68 (by rfl) (rl_inc _) (Nat.le_of_ble_eq_true rfl) ?_
        refine o_goto (tgt := 14) hC dX8_copy_71 (by decide) ?_
        refine ih (j + 1) _ _ (by omega) ((hq1.s16 _).s17 _) ⟨hro.tr ⟨rfl, rfl, rfl, fun _ _ => rfl, fun q hq => ⟨up_ne (by omega), up_ne (by omega)⟩, rfl⟩, ht1, fun i hi => ?_⟩
        by_cases e : i = j
        · subst e
          refine ⟨up_at.trans ?_, up_at.trans ?_⟩
          · exact (hro.2.2.2.2.1 _ (by omega)).1
          · exact (hro.2.2.2.2.1 _ (by omega)).2
        · exact ⟨(up_ne (by omega)).trans (hcp i (by omega)).1, (up_ne (by omega)).trans (hcp i (by omega)).2⟩
  show rl_G X (rl_e D ids H0) 0 [some (.ref m), some (.int (nI a)), some (.int (nI b)), none] [] h n 0 0
  refine o_aload_n hC dX8_copy_0 (by rfl) ?_
  refine o_getf hC (fX8_53 hC rfl) dX8_copy_1 (by repeat (first | with_reducible assumption | (rw [rl_u_s]; done) | (rw [rl_u_s]; rfl) | rw [rl_u_n (by first | with_reducible assumption | omega)])) (by first | rfl | with_reducible assumption) ?_
  refine o_iload_n hC dX8_copy_4 (by rfl) ?_
  refine o_aload_n hC dX8_copy_5 (by rfl) ?_
  refine o_getf hC (fX8_53 hC rfl) dX8_copy_6 (by repeat (first | with_reducible assumption | (rw [rl_u_s]; done) | (rw [rl_u_s]; rfl) | rw [rl_u_n (by first | with_reducible assumption | omega)])) (by first | rfl | with_reducible assumption) ?_
  refine o_iload_n hC dX8_copy_9 (by rfl) ?_
  refine o_ialdN (t0 := 0) (k := b) hC rfl dX8_copy_10 (by repeat (first | with_reducible assumption | (rw [rl_u_s]; done) | (rw [rl_u_s]; rfl) | rw [rl_u_n (by first | with_reducible assumption | omega)])) (by omega) (by decide) ?_
  rw [hb.1]
  refine o_iastN (t0 := 0) hC rfl dX8_copy_11 (by repeat (first | with_reducible assumption | (rw [rl_u_s]; done) | (rw [rl_u_s]; rfl) | rw [rl_u_n (by first | with_reducible assumption | omega)])) (by omega) (by decide) ?_
  refine o_iconst (v := nI 0) hC dX8_copy_12 (by decide +kernel) ?_
  refine o_istore_n hC dX8_copy_13 (Nat.le_of_ble_eq_true rfl) ?_
  exact loop Lb.length 0 _ _ (by omega) (hq.s15 _ (md_bd b15 ⟨Lb.length, by omega, rfl⟩)) ⟨⟨rfl, rfl, rfl, fun i hi => if_neg hi, fun _ _ => ⟨rfl, rfl⟩, rfl⟩, if_pos rfl, fun i hi => absurd hi (by omega)⟩
end
section
/-! THE MODEL, functionally: comes -/
/-- nothing but node a's table (and the heap) has changed -/
def mto (A B : md_D) (a : Nat) : Prop := (∀ q : Nat, (q < 480 * a ∨ 480 * a + 480 ≤ q) → B.1 q = A.1 q) ∧ (∀ i : Nat, i ≠ a → B.2.1 i = A.2.1 i) ∧ B.2.2.1 = A.2.2.1 ∧ (∀ i : Nat, (i < 80 * a ∨ 80 * a + 80 ≤ i) → B.2.2.2.1 i = A.2.2.2.1 i) ∧ (∀ q : Nat, (q < 960 * a ∨ 960 * a + 960 ≤ q) → B.2.2.2.2.1 q = A.2.2.2.2.1 q ∧ B.2.2.2.2.2.1 q = A.2.2.2.2.2.1 q) ∧ B.2.2.2.2.2.2.2.2 = A.2.2.2.2.2.2.2.2
theorem mto.rf {A : md_D} {a : Nat} : mto A A a := ⟨fun _ _ => rfl, fun _ _ => rfl, rfl, fun _ _ => rfl, fun _ _ => ⟨rfl, rfl⟩, rfl⟩
theorem mto.tr {A B C : md_D} {a : Nat} (h : mto A B a) (g : mto B C a) : mto A C a := by
  obtain ⟨h1, h2, h3, h4, h5, h6⟩ := h
  obtain ⟨g1, g2, g3, g4, g5, g6⟩ := g
  exact ⟨fun q hq => (g1 q hq).trans (h1 q hq), fun q hq => (g2 q hq).trans (h2 q hq), g3.trans h3, fun i hi => (g4 i hi).trans (h4 i hi), fun q hq => ⟨(g5 q hq).1.trans (h5 q hq).1, (g5 q hq).2.trans (h5 q hq).2⟩, g6.trans h6⟩
theorem mto.ro {A B : md_D} {a c : Nat} (h : mro A B c) (h1 : 80 * a ≤ c) (h2 : c < 80 * a + 80) : mto A B a := by
  obtain ⟨e1, e2, e3, e4, e5, e6⟩ := h
  exact ⟨fun q _ => congrFun e1 q, fun q _ => congrFun e2 q, e3, fun i hi => e4 i (by omega), fun q hq => e5 q (by omega), e6⟩
theorem mto.ws {A B : md_D} {a b : Nat} {L : List tT} (h : mto A B a) (hb : b < 80 * a ∨ 80 * a + 80 ≤ b) (H : mws A b L) : mws B b L := by
  obtain ⟨h1, h2, h3, h4, h5, h6⟩ := h
  obtain ⟨g1, g2, g3⟩ := H
  refine ⟨(h4 b hb).trans g1, g2, (tls_eq (fun i hi => ?_)).trans g3⟩
  exact h5 (12 * b + i) (by omega)
/-- a row of a table -/
def mrw (A : md_D) (a w j : Nat) (r : arow) : Prop := rcl (mcl A a j) w = r.1 ∧ mws A (80 * a + j) r.2
/-- a table -/
def mtb (A : md_D) (a w : Nat) (tab : List arow) : Prop := A.2.1 a = nI tab.length ∧ ∀ j : Nat, j < tab.length → mrw A a w j (ark tab j)
theorem mrw.of {A B : md_D} {a w j : Nat} {r : arow} (hw : w ≤ 6) (h : mrw A a w j r) (h1 : ∀ q : Nat, (80 * a + j) * 6 ≤ q → q < (80 * a + j) * 6 + 6 → B.1 q = A.1 q) (h2 : mws A (80 * a + j) r.2 → mws B (80 * a + j) r.2) : mrw B a w j r := ⟨(rsg_eq (fun i _ hi => h1 _ (by omega) (by omega))).trans h.1, h2 h.2⟩
theorem mrw.ro {A B : md_D} {a w j c : Nat} {r : arow} (hw : w ≤ 6) (h : mrw A a w j r) (hr : mro A B c) (hc : 80 * a + j ≠ c) : mrw B a w j r := h.of hw (fun q _ _ => congrFun hr.1 q) (hr.ws hc)
theorem mtb.to {A B : md_D} {a b w : Nat} {tab : List arow} (hw : w ≤ 6) (hl : tab.length ≤ 80) (h : mtb A b w tab) (hr : mto A B a) (hab : b ≠ a) : mtb B b w tab := ⟨(hr.2.1 b hab).trans h.1, fun j hj => (h.2 j hj).of hw (fun q h1 h2 => hr.1 q (by omega)) (hr.ws (by omega))⟩
theorem ark_ins {tab : List arow} {r : arow} {p : Nat} (hp : p ≤ tab.length) (j : Nat) : ark (tab.take p ++ r :: tab.drop p) j = if j < p then ark tab j else if j = p then r else ark tab (j - 1) := by
  unfold ark
  rw [List.getD_eq_getElem?_getD, List.getD_eq_getElem?_getD, List.getD_eq_getElem?_getD]
  have hl : (tab.take p).length = p := by rw [List.length_take]; omega
  by_cases e : j < p
  · rw [if_pos e, List.getElem?_append_left (by omega), List.getElem?_take_of_lt e]
  · rw [if_neg e, List.getElem?_append_right (by omega), hl]
    by_cases e2 : j = p
    · rw [if_pos e2, e2, Nat.sub_self]
      rfl
    · rw [if_neg e2, show j - p = (j - 1 - p) + 1 by omega, List.getElem?_cons_succ, List.getElem?_drop, show p + (j - 1 - p) = j - 1 by omega]
/-- between: those from p on stand one further -/
def mcs (A B : md_D) (a b w p : Nat) (tab : List arow) (ts : List tT) : Prop := mto A B a ∧ B.2.1 a = nI tab.length ∧ mws B b ts ∧ (∀ j : Nat, j < p → mrw B a w j (ark tab j)) ∧ (∀ j : Nat, p < j → j ≤ tab.length → mrw B a w j (ark tab (j - 1)))
theorem mcs.st {A B C : md_D} {f : Nat → Int32} {a b w p : Nat} {tab : List arow} {ts : List tT} (hw : w ≤ 6) (hl : tab.length < 80) (hp : p < tab.length) (hb : b < 80 * a ∨ 80 * a + 80 ≤ b) (h : mcs A B a b w (p + 1) tab ts) (hf : ∀ q : Nat, f q = if (80 * a + (p + 1)) * 6 ≤ q ∧ q < (80 * a + (p + 1)) * 6 + 6 then B.1 (q - 6) else B.1 q) (hr : mro (f, B.2.1, B.2.2.1, B.2.2.2.1, B.2.2.2.2.1, B.2.2.2.2.2.1, B.2.2.2.2.2.2.1, B.2.2.2.2.2.2.2.1, B.2.2.2.2.2.2.2.2.1, B.2.2.2.2.2.2.2.2.2.1, B.2.2.2.2.2.2.2.2.2.2) C (80 * a + (p + 1))) (hu : mws C (80 * a + (p + 1)) (ark tab p).2) : mcs A C a b w p tab ts := by
  obtain ⟨h1, h2, h3, h4, h5⟩ := h
  have hB : mto B (f, B.2.1, B.2.2.1, B.2.2.2.1, B.2.2.2.2.1, B.2.2.2.2.2.1, B.2.2.2.2.2.2.1, B.2.2.2.2.2.2.2.1, B.2.2.2.2.2.2.2.2.1, B.2.2.2.2.2.2.2.2.2.1, B.2.2.2.2.2.2.2.2.2.2) a := ⟨fun q hq => (hf q).trans (if_neg (by omega)), fun _ _ => rfl, rfl, fun _ _ => rfl, fun _ _ => ⟨rfl, rfl⟩, rfl⟩
  have hC : mto B C a := hB.tr (mto.ro hr (by omega) (by omega))
  have ec : C.1 = f := hr.1
  have keep : ∀ (j : Nat) (r : arow), j ≠ p + 1 → mrw B a w j r → mrw C a w j r := fun j r hj H => by
    refine H.of hw (fun q q1 q2 => ?_) (fun H => hr.ws (by omega) H)
    rw [ec, hf q]
    exact if_neg (by omega)
  refine ⟨h1.tr hC, ?_, hC.ws hb h3, fun j hj => keep j _ (by omega) (h4 j (by omega)), fun j hj hj2 => ?_⟩
  · rw [show C.2.1 = B.2.1 from hr.2.1]
    exact h2
  · by_cases e : j = p + 1
    · subst e
      refine ⟨?_, hu⟩
      rw [Nat.add_sub_cancel, ← (h4 p (by omega)).1]
      refine rsg_eq (fun i _ hi => ?_)
      show C.1 _ = B.1 _
      rw [ec, hf, if_pos (by omega)]
      exact congrArg B.1 (by omega)
    · exact keep j _ e (h5 j (by omega) hj2)
theorem mcs.en {A B C : md_D} {f : Nat → Int32} {a b w p : Nat} {tab : List arow} {ts : List tT} (hw : w ≤ 6) (hl : tab.length < 80) (hp : p ≤ tab.length) (h : mcs A B a b w p tab ts) (hf : ∀ q : Nat, f q = if (80 * a + p) * 6 ≤ q ∧ q < (80 * a + p) * 6 + 6 then A.2.2.2.2.2.2.2.2.1 (q - (80 * a + p) * 6) else B.1 q) (hr : mro (f, B.2.1, B.2.2.1, B.2.2.2.1, B.2.2.2.2.1, B.2.2.2.2.2.1, B.2.2.2.2.2.2.1, B.2.2.2.2.2.2.2.1, B.2.2.2.2.2.2.2.2.1, B.2.2.2.2.2.2.2.2.2.1, B.2.2.2.2.2.2.2.2.2.2) C (80 * a + p)) (hu : mws C (80 * a + p) ts) : mtb (C.1, upd C.2.1 a (nI (tab.length + 1)), C.2.2.1, C.2.2.2.1, C.2.2.2.2.1, C.2.2.2.2.2.1, C.2.2.2.2.2.2.1, C.2.2.2.2.2.2.2.1, C.2.2.2.2.2.2.2.2.1, C.2.2.2.2.2.2.2.2.2.1, C.2.2.2.2.2.2.2.2.2.2) a w (tab.take p ++ (rcl A.2.2.2.2.2.2.2.2.1 w, ts) :: tab.drop p) ∧ mto A (C.1, upd C.2.1 a (nI (tab.length + 1)), C.2.2.1, C.2.2.2.1, C.2.2.2.2.1, C.2.2.2.2.2.1, C.2.2.2.2.2.2.1, C.2.2.2.2.2.2.2.1, C.2.2.2.2.2.2.2.2.1, C.2.2.2.2.2.2.2.2.2.1, C.2.2.2.2.2.2.2.2.2.2) a := by
  obtain ⟨h1, h2, h3, h4, h5⟩ := h
  have hB : mto B (f, B.2.1, B.2.2.1, B.2.2.2.1, B.2.2.2.2.1, B.2.2.2.2.2.1, B.2.2.2.2.2.2.1, B.2.2.2.2.2.2.2.1, B.2.2.2.2.2.2.2.2.1, B.2.2.2.2.2.2.2.2.2.1, B.2.2.2.2.2.2.2.2.2.2) a := ⟨fun q hq => (hf q).trans (if_neg (by omega)), fun _ _ => rfl, rfl, fun _ _ => rfl, fun _ _ => ⟨rfl, rfl⟩, rfl⟩
  have hC : mto B C a := hB.tr (mto.ro hr (by omega) (by omega))
  have hD : mto C (C.1, upd C.2.1 a (nI (tab.length + 1)), C.2.2.1, C.2.2.2.1, C.2.2.2.2.1, C.2.2.2.2.2.1, C.2.2.2.2.2.2.1, C.2.2.2.2.2.2.2.1, C.2.2.2.2.2.2.2.2.1, C.2.2.2.2.2.2.2.2.2.1, C.2.2.2.2.2.2.2.2.2.2) a := ⟨fun _ _ => rfl, fun q hq => if_neg hq, rfl, fun _ _ => rfl, fun _ _ => ⟨rfl, rfl⟩, rfl⟩
  have ec : C.1 = f := hr.1
  have keep : ∀ (j : Nat) (r : arow), j ≠ p → mrw B a w j r → mrw C a w j r := fun j r hj H => by
    refine H.of hw (fun q q1 q2 => ?_) (fun H => hr.ws (by omega) H)
    rw [ec, hf q]
    exact if_neg (by omega)
  have el : (tab.take p ++ (rcl A.2.2.2.2.2.2.2.2.1 w, ts) :: tab.drop p).length = tab.length + 1 := by
    rw [List.length_append, List.length_cons, List.length_take, List.length_drop]
    omega
  refine ⟨⟨?_, fun j hj => ?_⟩, (h1.tr hC).tr hD⟩
  · rw [el]
    exact if_pos rfl
  · rw [el] at hj
    rw [ark_ins hp]
    show mrw C a w j _
    by_cases e : j < p
    · rw [if_pos e]
      exact keep j _ (by omega) (h4 j e)
    · rw [if_neg e]
      by_cases e2 : j = p
      · subst e2
        rw [if_pos rfl]
        refine ⟨rsg_eq (fun i _ hi => ?_), hu⟩
        show C.1 _ = _
        rw [ec, hf, if_pos (by omega)]
        exact congrArg A.2.2.2.2.2.2.2.2.1 (by omega)
      · rw [if_neg e2]
        exact keep j _ e2 (h5 j (by omega) (by omega))
theorem mfi_or (A : md_D) (a w : Nat) : ∀ (f t : Nat), (mfi A a w f t = -1 ∧ ∀ j : Nat, t ≤ j → j < t + f → mag A a w j ≠ 0) ∨ ∃ j : Nat, j < t + f ∧ mfi A a w f t = nI j ∧ mag A a w j = 0
  | 0, t => Or.inl ⟨rfl, fun j h1 h2 => by omega⟩
  | f + 1, t => by
    unfold mfi
    by_cases e : mag A a w t = 0
    · rw [if_pos e]
      exact Or.inr ⟨t, by omega, rfl, e⟩
    · rw [if_neg e]
      rcases mfi_or A a w f (t + 1) with ⟨h1, h2⟩ | ⟨j, h1, h2, h3⟩
      · refine Or.inl ⟨h1, fun j q1 q2 => ?_⟩
        by_cases e2 : j = t
        · rw [e2]
          exact e
        · exact h2 j (by omega) (by omega)
      · exact Or.inr ⟨j, by omega, h2, h3⟩
theorem mag_l (A : md_D) (a w t : Nat) : mag A a w t = lcm2 (rcl A.2.2.2.2.2.2.2.2.1 w) (rcl (mcl A a t) w) := tb_ord_l _ _ _ _
theorem afb_hit {w : Nat} {tab : List arow} {key : List Int32} {t : Nat} (h : aok w tab) (ht : t < tab.length) (e : (ark tab t).1 = key) : afb tab key = t + 1 := by
  have hle : afb tab key ≤ tab.length := tb_fb_le _ _
  have h1 : t < afb tab key := by
    refine Nat.lt_of_not_le (fun q => ?_)
    refine tb_fb_ge (fun j => lcm2 (ark tab j).1 key) tab.length t q ht ?_
    show lcm2 (ark tab t).1 key ≤ 0
    rw [e, lcm2_rf]
    decide +kernel
  refine Nat.le_antisymm (Nat.le_of_not_lt (fun q => ?_)) h1
  have h2 := tb_fb_lt (fun j => lcm2 (ark tab j).1 key) tab.length (show 0 < afb tab key by omega)
  have h2 : lcm2 (ark tab (afb tab key - 1)).1 key ≤ 0 := h2
  have h3 := (List.pairwise_iff_getElem.mp h.1) t (afb tab key - 1) ht (by omega) (by omega)
  rw [← ark_at ht, ← ark_at (show afb tab key - 1 < tab.length by omega), e] at h3
  rw [lcm2_sw.mp h3] at h2
  exact absurd h2 (by decide +kernel)
theorem aput_hit {w : Nat} {tab : List arow} {key : List Int32} {ts : List tT} {t : Nat} (h : aok w tab) (hts : ts ≠ []) (ht : t < tab.length) (e : (ark tab t).1 = key) : aput tab key ts = (wst ((ark tab t).2 ++ ts)).map (fun u => tab.set t (key, u)) := by
  unfold aput
  rw [afb_hit h ht e, if_neg hts, Nat.add_sub_cancel, if_pos ⟨by omega, by rw [e]; exact lcm2_rf key⟩]
theorem aput_new {w : Nat} {tab : List arow} {key : List Int32} {ts : List tT} (h : aok w tab) (hk : key.length = w) (hts : ts ≠ []) (hn : ∀ j : Nat, j < tab.length → (ark tab j).1 ≠ key) : aput tab key ts = if 80 ≤ tab.length then none else some (tab.take (afb tab key) ++ (key, ts) :: tab.drop (afb tab key)) := by
  have hle : afb tab key ≤ tab.length := tb_fb_le _ _
  unfold aput
  rw [if_neg hts, if_neg]
  intro q
  have hj : afb tab key - 1 < tab.length := by omega
  refine hn _ hj (lcm2_0 ?_ q.2)
  rw [ark_at hj, (h.2.1 _ (List.getElem_mem hj)).1, hk]

theorem fb_ge {x : Int32} {A B : List Int32} (e : x = lcm2 A B) (h : 0 ≤ x) : lcm2 B A ≤ 0 := by
  rw [lcm2_z]
  rcases lcm2_val B A with q | q | q
  · exact Or.inl q
  · rw [e, lcm2_sw.mpr q] at h
    exact absurd h (by decide +kernel)
  · exact Or.inr q
theorem fb_lt {x : Int32} {A B : List Int32} (e : x = lcm2 A B) (h : ¬ 0 ≤ x) : ¬ lcm2 B A ≤ 0 := by
  rcases lcm2_val A B with q | q | q
  · rw [e, q] at h
    exact absurd (by decide +kernel) h
  · rw [e, q] at h
    exact absurd (by decide +kernel) h
  · rw [lcm2_sw.mp q]
    decide +kernel

set_option maxHeartbeats 4000000 in
set_option maxRecDepth 100000 in
theorem cf_X8_comes (l : Launch) (D : va_G) (ids : Nat → ClassId) (H0 : Heap) (h : rl_H) (n : Nat) (m : Nat) (T : md_T) (fu : Int32) (k : Nat) (A : md_D) (S : md_A) (a b w : Nat) (tab : List arow) (ts : List tT) (hq : mf ids h h m T fu k A) (hs : md_sa ids h m S) (ha : a < 16) (hb16 : b < 1368) (hbo : b < 80 * a ∨ 80 * a + 80 ≤ b) (hw : S.2.2.2.2.2.2.2.2.2.2 a = nI w) (hw6 : w ≤ 6) (hfu : fu = nI 0) (htab : mtb A a w tab) (hok : aok w tab) (hb : mws A b ts) (hts : wok ts) : rl_Met l (rl_e D ids H0) rl_BW rl_Ns yX8_comes cX8_comes 6 none ({ frames := 3, cells := 0, slots := 0, locals := 73 }) [.ref m, .int (nI a), .int (nI b)] h n (fun v h' n' => ∃ (fu' : Int32) (k' : Nat) (A' : md_D), v = none ∧ n' = n ∧ mf ids h h' m T fu' k' A' ∧ mto A A' a ∧ ((∃ tab' : List arow, aput tab (rcl A.2.2.2.2.2.2.2.2.1 w) ts = some tab' ∧ fu' = nI 0 ∧ mtb A' a w tab') ∨ (aput tab (rcl A.2.2.2.2.2.2.2.2.1 w) ts = none ∧ fu' = nI 1))) := by
  obtain ⟨hm0, g12, g13, g14, g15, g16, g17, g18, g19, g20, g21, g22⟩ := id hq
  have g0 := hm0.1
  have gk := hm0.2.1
  have b13 := hq.b13
  have b15 := hq.b15
  have b21 := hq.b21
  obtain ⟨a1, a2, a3, a4, a5, a6, a7, a8, a9, a10, a11⟩ := id hs
  have lt80 := hok.2.2
  have ts12 := hb.2.1
  refine rl_Met.of (by decide +kernel) (Nat.le_of_ble_eq_true rfl) ?_
  intro X hC hB
  show rl_G X (rl_e D ids H0) 0 [some (.ref m), some (.int (nI a)), some (.int (nI b)), none, none, none] [] h n 0 0
  refine o_aload_n hC dX8_comes_0 (by rfl) ?_
  refine o_getf hC (fX8_91 hC rfl) dX8_comes_1 (by repeat (first | with_reducible assumption | (rw [rl_u_s]; done) | (rw [rl_u_s]; rfl) | rw [rl_u_n (by first | with_reducible assumption | omega)])) (by first | rfl | with_reducible assumption) ?_
  refine o_if_ne (tgt := 16) hC dX8_comes_4 (by decide) (fun c_4 => ?_) (fun c_4 => ?_)
  · refine o_vret hC hB dX8_comes_16 (Nat.le_of_ble_eq_true rfl) (Nat.le_of_ble_eq_true rfl) ?_
    first
    | exact absurd hfu c_4
    | exact ⟨_, _, _, rfl, rfl, hq, mto.rf, Or.inl ⟨tab, if_pos (List.eq_nil_of_length_eq_zero (nI_inj2 (by omega) (by omega) (by first | exact c_13 | exact Classical.not_not.mp c_13))), hfu, htab⟩⟩
  · refine o_aload_n hC dX8_comes_7 (by rfl) ?_
    refine o_getf hC (fX8_53 hC rfl) dX8_comes_8 (by repeat (first | with_reducible assumption | (rw [rl_u_s]; done) | (rw [rl_u_s]; rfl) | rw [rl_u_n (by first | with_reducible assumption | omega)])) (by first | rfl | with_reducible assumption) ?_
    refine o_iload_n hC dX8_comes_11 (by rfl) ?_
    refine o_ialdN (t0 := 0) (k := b) hC rfl dX8_comes_12 (by repeat (first | with_reducible assumption | (rw [rl_u_s]; done) | (rw [rl_u_s]; rfl) | rw [rl_u_n (by first | with_reducible assumption | omega)])) (by omega) (by decide) ?_
    rw [hb.1]
    refine o_if_ne (tgt := 17) hC dX8_comes_13 (by decide) (fun c_13 => ?_) (fun c_13 => ?_)
    · have hne : ts ≠ [] := fun e => c_13 (by rw [e]; rfl)
      refine o_aload_n hC dX8_comes_17 (by rfl) ?_
      refine o_iload_n hC dX8_comes_18 (by rfl) ?_
      refine o_callV1 hC rl_BW_good rl_Ns_nw (by exact hB.2.2.2.2.2) YX8_find IX8_find VX8_find (mX8_145 hC) (by rw [hB.1]; exact cf_X8_find l D ids H0 _ _ m T _ _ _ S a w tab.length hq hs (by omega) hw hw6 htab.1 hok.2.2) (by exact g0) rfl rfl (Nat.le_of_ble_eq_true rfl) (by rw [hB.2.1]; first | exact Nat.le_of_ble_eq_true rfl | (dsimp only; omega)) (by rw [hB.2.1]; first | exact Nat.le_of_ble_eq_true rfl | (dsimp only; omega)) (by rw [hB.2.1]; first | exact Nat.le_of_ble_eq_true rfl | (dsimp only; omega)) (by rw [hB.2.1]; first | exact Nat.le_of_ble_eq_true rfl | (dsimp only; omega)) dX8_comes_19 (fun v h_19 n_19 p_19 => ?_)
      obtain ⟨rfl, rfl, rfl⟩ := p_19
      try dsimp only [Option.toList, List.cons_append, List.nil_append]
      have hfo := mfi_or A a w tab.length 0
      generalize mfi A a w tab.length 0 = r19 at hfo ⊢
      rcases hfo with ⟨rfl, hno⟩ | ⟨t, ht, rfl, hmt⟩
      · try dsimp only [Option.toList, List.cons_append, List.nil_append]
        have hkn : ∀ j : Nat, j < tab.length → (ark tab j).1 ≠ (rcl A.2.2.2.2.2.2.2.2.1 w) := by
          intro j hj e
          refine hno j (by omega) (by omega) ?_
          rw [mag_l, (htab.2 j hj).1, e]
          exact lcm2_rf _
        have hnew0 := aput_new hok (rsg_len _ 0 w) hne hkn
        refine o_istore_n hC dX8_comes_22 (Nat.le_of_ble_eq_true rfl) ?_
        refine o_iload_n hC dX8_comes_23 (by rfl) ?_
        refine o_iconst (v := (-1 : Int32)) hC dX8_comes_24 (by decide +kernel) ?_
        refine o_icmp_eq (tgt := 46) hC dX8_comes_25 (by decide) (fun c_25 => ?_) (fun c_25 => ?_)
        · refine o_aload_n hC dX8_comes_46 (by rfl) ?_
          refine o_getf hC (fX8_46 hC rfl) dX8_comes_47 (by repeat (first | with_reducible assumption | (rw [rl_u_s]; done) | (rw [rl_u_s]; rfl) | rw [rl_u_n (by first | with_reducible assumption | omega)])) (by first | rfl | with_reducible assumption) ?_
          refine o_iload_n hC dX8_comes_50 (by rfl) ?_
          refine o_ialdN (t0 := 0) (k := a) hC rfl dX8_comes_51 (by repeat (first | with_reducible assumption | (rw [rl_u_s]; done) | (rw [rl_u_s]; rfl) | rw [rl_u_n (by first | with_reducible assumption | omega)])) (by omega) (by decide) ?_
          rw [htab.1]
          refine o_bipush (v := nI 80) hC dX8_comes_52 (by decide +kernel) ?_
          refine o_icmp_ne (tgt := 63) hC dX8_comes_54 (by decide) (fun c_54 => ?_) (fun c_54 => ?_)
          · have t80 : tab.length ≠ 80 := fun e => c_54 (by rw [e])
            have htl : tab.length < 80 := by omega
            have hnew := hnew0
            rw [if_neg (by omega)] at hnew
            refine o_aload_n hC dX8_comes_63 (by rfl) ?_
            refine o_getf hC (fX8_46 hC rfl) dX8_comes_64 (by repeat (first | with_reducible assumption | (rw [rl_u_s]; done) | (rw [rl_u_s]; rfl) | rw [rl_u_n (by first | with_reducible assumption | omega)])) (by first | rfl | with_reducible assumption) ?_
            refine o_iload_n hC dX8_comes_67 (by rfl) ?_
            refine o_ialdN (t0 := 0) (k := a) hC rfl dX8_comes_68 (by repeat (first | with_reducible assumption | (rw [rl_u_s]; done) | (rw [rl_u_s]; rfl) | rw [rl_u_n (by first | with_reducible assumption | omega)])) (by omega) (by decide) ?_
            rw [htab.1]
            refine o_istore hC dX8_comes_69 (Nat.le_of_ble_eq_true rfl) ?_
            have loopD : ∀ (mm c p : Nat) (h1 : rl_H) (A0 : md_D) (c1 : Nat → Int32) (o3 : Option Value), c + mm = 6 → p ≤ tab.length → mcs A A0 a b w p tab ts → aput tab (rcl A.2.2.2.2.2.2.2.2.1 w) ts = some (tab.take p ++ ((rcl A.2.2.2.2.2.2.2.2.1 w), ts) :: tab.drop p) → mf ids h_19 h1 m T fu k (c1, A0.2.1, A0.2.2.1, A0.2.2.2.1, A0.2.2.2.2.1, A0.2.2.2.2.2.1, A0.2.2.2.2.2.2.1, A0.2.2.2.2.2.2.2.1, A0.2.2.2.2.2.2.2.2.1, A0.2.2.2.2.2.2.2.2.2.1, A0.2.2.2.2.2.2.2.2.2.2) → (∀ q : Nat, c1 q = if (80 * a + p) * 6 ≤ q ∧ q < (80 * a + p) * 6 + c then A.2.2.2.2.2.2.2.2.1 (q - (80 * a + p) * 6) else A0.1 q) → rl_G X (rl_e D ids H0) 171 [some (.ref m), some (.int (nI a)), some (.int (nI b)), o3, some (.int (nI p)), some (.int (nI c))] [] h1 n_19 0 0 := by
              intro mm
              induction mm with
              | zero =>
                intro c p h1 A0 c1 o3 hm hp hI hap hq1 hc1
                have ec : c = 6 := by omega
                subst ec
                obtain ⟨hm0, g12, g13, g14, g15, g16, g17, g18, g19, g20, g21, g22⟩ := id hq1
                have g0 := hm0.1
                have gk := hm0.2.1
                refine o_iload hC dX8_comes_171 (by rfl) ?_
                refine o_bipush (v := nI 6) hC dX8_comes_173 (by decide +kernel) ?_
                refine o_icmp_ge (tgt := 209) hC dX8_comes_175 (by decide) (fun c_175 => ?_) (fun c_175 => ?_)
                · refine o_aload_n hC dX8_comes_209 (by rfl) ?_
                  refine o_bipush (v := nI 80) hC dX8_comes_210 (by decide +kernel) ?_
                  refine o_iload_n hC dX8_comes_212 (by rfl) ?_
                  refine o_imul hC dX8_comes_213 ?_
                  try rw [nI_mul]
                  refine o_iload hC dX8_comes_214 (by rfl) ?_
                  refine o_iadd hC dX8_comes_216 ?_
                  try rw [nI_add]
                  refine o_iload_n hC dX8_comes_217 (by rfl) ?_
                  refine o_callV2 hC rl_BW_good rl_Ns_nw (by exact hB.2.2.2.2.2) YX8_copy IX8_copy VX8_copy (mX8_153 hC) (by rw [hB.1]; exact cf_X8_copy l D ids H0 _ _ m T _ _ _ (80 * a + p) b ts hq1.rf (by omega) (by omega) (by omega) hI.2.2.1) (by exact hq1.1.1) rfl rfl (Nat.le_of_ble_eq_true rfl) (by rw [hB.2.1]; first | exact Nat.le_of_ble_eq_true rfl | (dsimp only; omega)) (by rw [hB.2.1]; first | exact Nat.le_of_ble_eq_true rfl | (dsimp only; omega)) (by rw [hB.2.1]; first | exact Nat.le_of_ble_eq_true rfl | (dsimp only; omega)) (by rw [hB.2.1]; first | exact Nat.le_of_ble_eq_true rfl | (dsimp only; omega)) dX8_comes_218 (fun v h_218 n_218 p_218 => ?_)
                  obtain ⟨A3, rfl, rfl, q218, r218, u218⟩ := p_218
                  have gb218 := q218.1.1
                  try dsimp only [Option.toList, List.cons_append, List.nil_append]
                  refine o_aload_n hC dX8_comes_221 (by rfl) ?_
                  refine o_getf hC (fX8_46 hC rfl) dX8_comes_222 (by repeat (first | with_reducible assumption | (rw [rl_u_s]; done) | (rw [rl_u_s]; rfl) | rw [rl_u_n (by first | with_reducible assumption | omega)])) (by first | rfl | with_reducible assumption) ?_
                  refine o_iload_n hC dX8_comes_225 (by rfl) ?_
                  refine o_dup2 hC dX8_comes_226 rfl rfl ?_
                  obtain ⟨-, k12, k13, k14, k15, k16, k17, k18, k19, k20, k21, k22⟩ := id q218
                  refine o_ialdN (t0 := 0) (k := a) hC rfl dX8_comes_227 (by repeat (first | with_reducible assumption | (rw [rl_u_s]; done) | (rw [rl_u_s]; rfl) | rw [rl_u_n (by first | with_reducible assumption | omega)])) (by omega) (by decide) ?_
                  rw [(show A3.2.1 a = nI tab.length from (congrFun r218.2.1 a).trans hI.2.1)]
                  refine o_iconst (v := nI 1) hC dX8_comes_228 (by decide +kernel) ?_
                  refine o_iadd hC dX8_comes_229 ?_
                  try rw [nI_add]
                  refine o_iastN (t0 := 0) (k := a) hC rfl dX8_comes_230 (by repeat (first | with_reducible assumption | (rw [rl_u_s]; done) | (rw [rl_u_s]; rfl) | rw [rl_u_n (by first | with_reducible assumption | omega)])) (by omega) (by decide) ?_
                  refine o_vret hC hB dX8_comes_231 (Nat.le_of_ble_eq_true rfl) (Nat.le_of_ble_eq_true rfl) ?_
                  obtain ⟨e1, e2⟩ := mcs.en hw6 htl hp hI hc1 r218 u218
                  exact ⟨_, _, _, rfl, rfl, (hq1.tr q218).s13 _ (md_bd q218.b13 ⟨tab.length + 1, by omega, rfl⟩), e2, Or.inl ⟨_, hap, hfu, e1⟩⟩
                · exact absurd (nI_le (by omega) (by omega)) c_175
              | succ mm ih =>
                intro c p h1 A0 c1 o3 hm hp hI hap hq1 hc1
                obtain ⟨hm0, g12, g13, g14, g15, g16, g17, g18, g19, g20, g21, g22⟩ := id hq1
                have g0 := hm0.1
                have gk := hm0.2.1
                refine o_iload hC dX8_comes_171 (by rfl) ?_
                refine o_bipush (v := nI 6) hC dX8_comes_173 (by decide +kernel) ?_
                refine o_icmp_ge (tgt := 209) hC dX8_comes_175 (by decide) (fun c_175 => ?_) (fun c_175 => ?_)
                · exact absurd c_175 (nI_ge (by omega) (by omega))
                · refine o_aload_n hC dX8_comes_178 (by rfl) ?_
                  refine o_getf hC (fX8_43 hC rfl) dX8_comes_179 (by repeat (first | with_reducible assumption | (rw [rl_u_s]; done) | (rw [rl_u_s]; rfl) | rw [rl_u_n (by first | with_reducible assumption | omega)])) (by first | rfl | with_reducible assumption) ?_
                  refine o_bipush (v := nI 80) hC dX8_comes_182 (by decide +kernel) ?_
                  refine o_iload_n hC dX8_comes_184 (by rfl) ?_
                  refine o_imul hC dX8_comes_185 ?_
                  try rw [nI_mul]
                  refine o_iload hC dX8_comes_186 (by rfl) ?_
                  refine o_iadd hC dX8_comes_188 ?_
                  try rw [nI_add]
                  refine o_bipush (v := nI 6) hC dX8_comes_189 (by decide +kernel) ?_
                  refine o_imul hC dX8_comes_191 ?_
                  try rw [nI_mul]
                  refine o_iload hC dX8_comes_192 (by rfl) ?_
                  refine o_iadd hC dX8_comes_194 ?_
                  try rw [nI_add]
                  refine o_aload_n hC dX8_comes_195 (by rfl) ?_
                  refine o_getf hC (fX8_69 hC rfl) dX8_comes_196 (by repeat (first | with_reducible assumption | (rw [rl_u_s]; done) | (rw [rl_u_s]; rfl) | rw [rl_u_n (by first | with_reducible assumption | omega)])) (by first | rfl | with_reducible assumption) ?_
                  refine o_iload hC dX8_comes_199 (by rfl) ?_
                  refine o_ialdN (t0 := 0) hC rfl dX8_comes_201 (by repeat (first | with_reducible assumption | (rw [rl_u_s]; done) | (rw [rl_u_s]; rfl) | rw [rl_u_n (by first | with_reducible assumption | omega)])) (by omega) (by decide) ?_
                  refine o_iastN (t0 := 0) hC rfl dX8_comes_202 (by repeat (first | with_reducible assumption | (rw [rl_u_s]; done) | (rw [rl_u_s]; rfl) | rw [rl_u_n (by first | with_reducible assumption | omega)])) (by omega) (by decide) ?_
                  refine o_iinc hC dX8_comes_203 (by rfl) (rl_inc _) (Nat.le_of_ble_eq_true rfl) ?_
                  refine o_goto (tgt := 171) hC dX8_comes_206 (by decide) ?_
                  refine ih (c + 1) p _ A0 _ _ (by omega) hp hI hap (hq1.s12 _) (fun q => ?_)
                  by_cases e : q = (80 * a + p) * 6 + c
                  · subst e
                    rw [if_pos (by omega), show (80 * a + p) * 6 + c - (80 * a + p) * 6 = c by omega]
                    refine (if_pos rfl).trans ?_
                    exact congrFun (congrArg Prod.fst hI.1.2.2.2.2.2) c
                  · refine (if_neg e).trans ((hc1 q).trans ?_)
                    by_cases e2 : (80 * a + p) * 6 ≤ q ∧ q < (80 * a + p) * 6 + c
                    · rw [if_pos e2, if_pos (by omega)]
                    · rw [if_neg e2, if_neg (by omega)]
            have loopP : ∀ (p : Nat) (h1 : rl_H) (A1 : md_D) (o3 o5 : Option Value), p ≤ tab.length → mcs A A1 a b w p tab ts → afb tab (rcl A.2.2.2.2.2.2.2.2.1 w) = tb_fb (fun j => lcm2 (ark tab j).1 (rcl A.2.2.2.2.2.2.2.2.1 w)) p → mf ids h_19 h1 m T fu k A1 → rl_G X (rl_e D ids H0) 71 [some (.ref m), some (.int (nI a)), some (.int (nI b)), o3, some (.int (nI p)), o5] [] h1 n_19 0 0 := by
              intro p
              induction p with
              | zero =>
                intro h1 A1 o3 o5 hp hI hfb hq1
                refine o_iload hC dX8_comes_71 (by rfl) ?_
                refine o_if_le (tgt := 168) hC dX8_comes_73 (by decide) (fun c_73 => ?_) (fun c_73 => ?_)
                · refine o_iconst (v := nI 0) hC dX8_comes_168 (by decide +kernel) ?_
                  refine o_istore hC dX8_comes_169 (Nat.le_of_ble_eq_true rfl) ?_
                  exact loopD 6 0 0 _ A1 A1.1 _ (by omega) (by omega) hI (by rw [hnew, show afb tab (rcl A.2.2.2.2.2.2.2.2.1 w) = 0 from hfb]) hq1 (fun q => (if_neg (by omega)).symm)
                · exact absurd (by decide +kernel) c_73
              | succ p ihp =>
                intro h1 A1 o3 o5 hp hI hfb hq1
                have loopC : ∀ (mm c : Nat) (h2 : rl_H) (c2 : Nat → Int32), c + mm = 6 → afb tab (rcl A.2.2.2.2.2.2.2.2.1 w) = tb_fb (fun j => lcm2 (ark tab j).1 (rcl A.2.2.2.2.2.2.2.2.1 w)) p → mf ids h_19 h2 m T fu k (c2, A1.2.1, A1.2.2.1, A1.2.2.2.1, A1.2.2.2.2.1, A1.2.2.2.2.2.1, A1.2.2.2.2.2.2.1, A1.2.2.2.2.2.2.2.1, A1.2.2.2.2.2.2.2.2.1, A1.2.2.2.2.2.2.2.2.2.1, A1.2.2.2.2.2.2.2.2.2.2) → (∀ q : Nat, c2 q = if (80 * a + (p + 1)) * 6 ≤ q ∧ q < (80 * a + (p + 1)) * 6 + c then A1.1 (q - 6) else A1.1 q) → rl_G X (rl_e D ids H0) 91 [some (.ref m), some (.int (nI a)), some (.int (nI b)), o3, some (.int (nI (p + 1))), some (.int (nI c))] [] h2 n_19 0 0 := by
                  intro mm
                  induction mm with
                  | zero =>
                    intro c h2 c2 hm hfb2 hq2 hc2
                    have ec : c = 6 := by omega
                    subst ec
                    obtain ⟨hm0, g12, g13, g14, g15, g16, g17, g18, g19, g20, g21, g22⟩ := id hq2
                    have g0 := hm0.1
                    have gk := hm0.2.1
                    refine o_iload hC dX8_comes_91 (by rfl) ?_
                    refine o_bipush (v := nI 6) hC dX8_comes_93 (by decide +kernel) ?_
                    refine o_icmp_ge (tgt := 142) hC dX8_comes_95 (by decide) (fun c_95 => ?_) (fun c_95 => ?_)
                    · refine o_aload_n hC dX8_comes_142 (by rfl) ?_
                      refine o_bipush (v := nI 80) hC dX8_comes_143 (by decide +kernel) ?_
                      refine o_iload_n hC dX8_comes_145 (by rfl) ?_
                      refine o_imul hC dX8_comes_146 ?_
                      try rw [nI_mul]
                      refine o_iload hC dX8_comes_147 (by rfl) ?_
                      refine o_iadd hC dX8_comes_149 ?_
                      try rw [nI_add]
                      refine o_bipush (v := nI 80) hC dX8_comes_150 (by decide +kernel) ?_
                      refine o_iload_n hC dX8_comes_152 (by rfl) ?_
                      refine o_imul hC dX8_comes_153 ?_
                      try rw [nI_mul]
                      refine o_iload hC dX8_comes_154 (by rfl) ?_
                      refine o_iadd hC dX8_comes_156 ?_
                      try rw [nI_add]
                      refine o_iconst (v := nI 1) hC dX8_comes_157 (by decide +kernel) ?_
                      refine o_isub hC dX8_comes_158 ?_
                      rw [show nI (80 * a + (p + 1)) - nI 1 = nI (80 * a + p) from rl_pred _]
                      refine o_callV2 hC rl_BW_good rl_Ns_nw (by exact hB.2.2.2.2.2) YX8_copy IX8_copy VX8_copy (mX8_153 hC) (by rw [hB.1]; exact cf_X8_copy l D ids H0 _ _ m T _ _ _ (80 * a + (p + 1)) (80 * a + p) _ hq2.rf (by omega) (by omega) (by omega) (hI.2.2.2.1 p (by omega)).2) (by exact hq2.1.1) rfl rfl (Nat.le_of_ble_eq_true rfl) (by rw [hB.2.1]; first | exact Nat.le_of_ble_eq_true rfl | (dsimp only; omega)) (by rw [hB.2.1]; first | exact Nat.le_of_ble_eq_true rfl | (dsimp only; omega)) (by rw [hB.2.1]; first | exact Nat.le_of_ble_eq_true rfl | (dsimp only; omega)) (by rw [hB.2.1]; first | exact Nat.le_of_ble_eq_true rfl | (dsimp only; omega)) dX8_comes_159 (fun v h_159 n_159 p_159 => ?_)
                      obtain ⟨A3, rfl, rfl, q159, r159, u159⟩ := p_159
                      have gb159 := q159.1.1
                      try dsimp only [Option.toList, List.cons_append, List.nil_append]
                      refine o_iinc hC dX8_comes_162 (by rfl) (rl_dec _) (Nat.le_of_ble_eq_true rfl) ?_
                      refine o_goto (tgt := 71) hC dX8_comes_165 (by decide) ?_
                      exact ihp _ A3 _ _ (by omega) (mcs.st hw6 htl (by omega) hbo hI hc2 r159 u159) hfb2 (hq2.tr q159)
                    · exact absurd (nI_le (by omega) (by omega)) c_95
                  | succ mm ih =>
                    intro c h2 c2 hm hfb2 hq2 hc2
                    obtain ⟨hm0, g12, g13, g14, g15, g16, g17, g18, g19, g20, g21, g22⟩ := id hq2
                    have g0 := hm0.1
                    have gk := hm0.2.1
                    refine o_iload hC dX8_comes_91 (by rfl) ?_
                    refine o_bipush (v := nI 6) hC dX8_comes_93 (by decide +kernel) ?_
                    refine o_icmp_ge (tgt := 142) hC dX8_comes_95 (by decide) (fun c_95 => ?_) (fun c_95 => ?_)
                    · exact absurd c_95 (nI_ge (by omega) (by omega))
                    · refine o_aload_n hC dX8_comes_98 (by rfl) ?_
                      refine o_getf hC (fX8_43 hC rfl) dX8_comes_99 (by repeat (first | with_reducible assumption | (rw [rl_u_s]; done) | (rw [rl_u_s]; rfl) | rw [rl_u_n (by first | with_reducible assumption | omega)])) (by first | rfl | with_reducible assumption) ?_
                      refine o_bipush (v := nI 80) hC dX8_comes_102 (by decide +kernel) ?_
                      refine o_iload_n hC dX8_comes_104 (by rfl) ?_
                      refine o_imul hC dX8_comes_105 ?_
                      try rw [nI_mul]
                      refine o_iload hC dX8_comes_106 (by rfl) ?_
                      refine o_iadd hC dX8_comes_108 ?_
                      try rw [nI_add]
                      refine o_bipush (v := nI 6) hC dX8_comes_109 (by decide +kernel) ?_
                      refine o_imul hC dX8_comes_111 ?_
                      try rw [nI_mul]
                      refine o_iload hC dX8_comes_112 (by rfl) ?_
                      refine o_iadd hC dX8_comes_114 ?_
                      try rw [nI_add]
                      refine o_aload_n hC dX8_comes_115 (by rfl) ?_
                      refine o_getf hC (fX8_43 hC rfl) dX8_comes_116 (by repeat (first | with_reducible assumption | (rw [rl_u_s]; done) | (rw [rl_u_s]; rfl) | rw [rl_u_n (by first | with_reducible assumption | omega)])) (by first | rfl | with_reducible assumption) ?_
                      refine o_bipush (v := nI 80) hC dX8_comes_119 (by decide +kernel) ?_
                      refine o_iload_n hC dX8_comes_121 (by rfl) ?_
                      refine o_imul hC dX8_comes_122 ?_
                      try rw [nI_mul]
                      refine o_iload hC dX8_comes_123 (by rfl) ?_
                      refine o_iadd hC dX8_comes_125 ?_
                      try rw [nI_add]
                      refine o_iconst (v := nI 1) hC dX8_comes_126 (by decide +kernel) ?_
                      refine o_isub hC dX8_comes_127 ?_
                      rw [show nI (80 * a + (p + 1)) - nI 1 = nI (80 * a + p) from rl_pred _]
                      refine o_bipush (v := nI 6) hC dX8_comes_128 (by decide +kernel) ?_
                      refine o_imul hC dX8_comes_130 ?_
                      try rw [nI_mul]
                      refine o_iload hC dX8_comes_131 (by rfl) ?_
                      refine o_iadd hC dX8_comes_133 ?_
                      try rw [nI_add]
                      refine o_ialdN (t0 := 0) hC rfl dX8_comes_134 (by repeat (first | with_reducible assumption | (rw [rl_u_s]; done) | (rw [rl_u_s]; rfl) | rw [rl_u_n (by first | with_reducible assumption | omega)])) (by omega) (by decide) ?_
                      refine o_iastN (t0 := 0) hC rfl dX8_comes_135 (by repeat (first | with_reducible assumption | (rw [rl_u_s]; done) | (rw [rl_u_s]; rfl) | rw [rl_u_n (by first | with_reducible assumption | omega)])) (by omega) (by decide) ?_
                      refine o_iinc hC dX8_comes_136 (by rfl) (rl_inc _) (Nat.le_of_ble_eq_true rfl) ?_
                      refine o_goto (tgt := 91) hC dX8_comes_139 (by decide) ?_
                      refine ih (c + 1) _ _ (by omega) hfb2 (hq2.s12 _) (fun q => ?_)
                      by_cases e : q = (80 * a + (p + 1)) * 6 + c
                      · subst e
                        rw [if_pos (by omega), show (80 * a + (p + 1)) * 6 + c - 6 = (80 * a + p) * 6 + c by omega]
                        refine (if_pos rfl).trans ((hc2 _).trans ?_)
                        exact if_neg (by omega)
                      · refine (if_neg e).trans ((hc2 q).trans ?_)
                        by_cases e2 : (80 * a + (p + 1)) * 6 ≤ q ∧ q < (80 * a + (p + 1)) * 6 + c
                        · rw [if_pos e2, if_pos (by omega)]
                        · rw [if_neg e2, if_neg (by omega)]
                have hs1 := hq1.1.sa hs
                have em : mag A1 a w p = lcm2 (rcl A.2.2.2.2.2.2.2.2.1 w) (ark tab p).1 := by
                  rw [mag_l, (hI.2.2.2.1 p (by omega)).1, congrArg Prod.fst hI.1.2.2.2.2.2]
                obtain ⟨hm0, g12, g13, g14, g15, g16, g17, g18, g19, g20, g21, g22⟩ := id hq1
                have g0 := hm0.1
                have gk := hm0.2.1
                refine o_iload hC dX8_comes_71 (by rfl) ?_
                refine o_if_le (tgt := 168) hC dX8_comes_73 (by decide) (fun c_73 => ?_) (fun c_73 => ?_)
                · refine o_iconst (v := nI 0) hC dX8_comes_168 (by decide +kernel) ?_
                  refine o_istore hC dX8_comes_169 (Nat.le_of_ble_eq_true rfl) ?_
                  first
                  | exact absurd (show nI (p + 1) ≤ nI 0 from c_73) (nI_ge (by omega) (by omega))
                  | exact loopD 6 0 (p + 1) _ A1 A1.1 _ (by omega) (by omega) hI (by rw [hnew, show afb tab (rcl A.2.2.2.2.2.2.2.2.1 w) = p + 1 from by rw [hfb, tb_fb, if_pos (fb_ge em c_85)]]) hq1 (fun q => (if_neg (by omega)).symm)
                · refine o_aload_n hC dX8_comes_76 (by rfl) ?_
                  refine o_iload_n hC dX8_comes_77 (by rfl) ?_
                  refine o_iload hC dX8_comes_78 (by rfl) ?_
                  refine o_iconst (v := nI 1) hC dX8_comes_80 (by decide +kernel) ?_
                  refine o_isub hC dX8_comes_81 ?_
                  rw [show nI ((p + 1)) - nI 1 = nI (p) from rl_pred _]
                  refine o_callV2 hC rl_BW_good rl_Ns_nw (by exact hB.2.2.2.2.2) YX8_against IX8_against VX8_against (mX8_141 hC) (by rw [hB.1]; exact cf_X8_against l D ids H0 _ _ m T _ _ _ S a p w hq1.rf hs1 (by omega) (by omega) hw hw6) (by exact hq1.rf.1.1) rfl rfl (Nat.le_of_ble_eq_true rfl) (by rw [hB.2.1]; first | exact Nat.le_of_ble_eq_true rfl | (dsimp only; omega)) (by rw [hB.2.1]; first | exact Nat.le_of_ble_eq_true rfl | (dsimp only; omega)) (by rw [hB.2.1]; first | exact Nat.le_of_ble_eq_true rfl | (dsimp only; omega)) (by rw [hB.2.1]; first | exact Nat.le_of_ble_eq_true rfl | (dsimp only; omega)) dX8_comes_82 (fun v h_82 n_82 p_82 => ?_)
                  obtain ⟨rfl, rfl, rfl⟩ := p_82
                  try dsimp only [Option.toList, List.cons_append, List.nil_append]
                  refine o_if_ge (tgt := 168) hC dX8_comes_85 (by decide) (fun c_85 => ?_) (fun c_85 => ?_)
                  · refine o_iconst (v := nI 0) hC dX8_comes_168 (by decide +kernel) ?_
                    refine o_istore hC dX8_comes_169 (Nat.le_of_ble_eq_true rfl) ?_
                    first
                    | exact absurd (show nI (p + 1) ≤ nI 0 from c_73) (nI_ge (by omega) (by omega))
                    | exact loopD 6 0 (p + 1) _ A1 A1.1 _ (by omega) (by omega) hI (by rw [hnew, show afb tab (rcl A.2.2.2.2.2.2.2.2.1 w) = p + 1 from by rw [hfb, tb_fb, if_pos (fb_ge em c_85)]]) hq1 (fun q => (if_neg (by omega)).symm)
                  · refine o_iconst (v := nI 0) hC dX8_comes_88 (by decide +kernel) ?_
                    refine o_istore hC dX8_comes_89 (Nat.le_of_ble_eq_true rfl) ?_
                    exact loopC 6 0 _ A1.1 (by omega) (by rw [hfb, tb_fb, if_neg (fb_lt em c_85)]) hq1 (fun q => (if_neg (by omega)).symm)
            exact loopP tab.length _ A _ _ (by omega) ⟨mto.rf, htab.1, hb, htab.2, fun j h1 h2 => absurd h1 (by omega)⟩ rfl hq
          · refine o_aload_n hC dX8_comes_57 (by rfl) ?_
            refine o_iconst (v := nI 1) hC dX8_comes_58 (by decide +kernel) ?_
            refine o_putf hC (fX8_91 hC rfl) (fwX8 rfl rfl rfl (Or.inl rfl)) dX8_comes_59 (by repeat (first | with_reducible assumption | (rw [rl_u_s]; done) | (rw [rl_u_s]; rfl) | rw [rl_u_n (by first | with_reducible assumption | omega)])) (Nat.le_of_ble_eq_true rfl) ?_
            try simp only [List.set_cons_zero, List.set_cons_succ]
            refine o_vret hC hB dX8_comes_62 (Nat.le_of_ble_eq_true rfl) (Nat.le_of_ble_eq_true rfl) ?_
            have e80 : tab.length = 80 := nI_inj2 (by omega) (by omega) (by first | exact c_54 | exact Classical.not_not.mp c_54)
            exact ⟨_, _, _, rfl, rfl, hq.ob T (nI 1) k gk, mto.rf, Or.inr ⟨by rw [hnew0, if_pos (by omega)], rfl⟩⟩
        · exact absurd rfl c_25
      · try dsimp only [Option.toList, List.cons_append, List.nil_append]
        have hkt : (ark tab t).1 = (rcl A.2.2.2.2.2.2.2.2.1 w) := by
          rw [mag_l, (htab.2 t (by omega)).1] at hmt
          exact (lcm2_0 (by rw [← (htab.2 t (by omega)).1, rsg_len, rsg_len]) hmt).symm
        have hht := aput_hit hok hne (show t < tab.length by omega) hkt
        have hrt := hok.2.1 _ (List.getElem_mem (show t < tab.length by omega))
        rw [← ark_at] at hrt
        refine o_istore_n hC dX8_comes_22 (Nat.le_of_ble_eq_true rfl) ?_
        refine o_iload_n hC dX8_comes_23 (by rfl) ?_
        refine o_iconst (v := (-1 : Int32)) hC dX8_comes_24 (by decide +kernel) ?_
        refine o_icmp_eq (tgt := 46) hC dX8_comes_25 (by decide) (fun c_25 => ?_) (fun c_25 => ?_)
        · exact absurd c_25 (fun e => absurd (e ▸ (show (-1 : Int32) < 0 by decide +kernel)) (nI_pos (by omega)))
        · refine o_aload_n hC dX8_comes_28 (by rfl) ?_
          refine o_bipush (v := nI 80) hC dX8_comes_29 (by decide +kernel) ?_
          refine o_iload_n hC dX8_comes_31 (by rfl) ?_
          refine o_imul hC dX8_comes_32 ?_
          try rw [nI_mul]
          refine o_iload_n hC dX8_comes_33 (by rfl) ?_
          refine o_iadd hC dX8_comes_34 ?_
          try rw [nI_add]
          refine o_bipush (v := nI 80) hC dX8_comes_35 (by decide +kernel) ?_
          refine o_iload_n hC dX8_comes_37 (by rfl) ?_
          refine o_imul hC dX8_comes_38 ?_
          try rw [nI_mul]
          refine o_iload_n hC dX8_comes_39 (by rfl) ?_
          refine o_iadd hC dX8_comes_40 ?_
          try rw [nI_add]
          refine o_iload_n hC dX8_comes_41 (by rfl) ?_
          refine o_callV3 hC rl_BW_good rl_Ns_nw (by exact hB.2.2.2.2.2) YX8_either IX8_either VX8_either (mX8_149 hC) (by rw [hB.1]; exact cf_X8_either l D ids H0 _ _ m T _ _ _ (80 * a + t) (80 * a + t) b (ark tab t).2 ts hq (by omega) (by omega) (by omega) (htab.2 t (by omega)).2 hb (fun e he => (List.mem_append.mp he).elim (hrt.2.1.2.1 e) (hts.2.1 e))) (by exact g0) rfl rfl (Nat.le_of_ble_eq_true rfl) (by rw [hB.2.1]; first | exact Nat.le_of_ble_eq_true rfl | (dsimp only; omega)) (by rw [hB.2.1]; first | exact Nat.le_of_ble_eq_true rfl | (dsimp only; omega)) (by rw [hB.2.1]; first | exact Nat.le_of_ble_eq_true rfl | (dsimp only; omega)) (by rw [hB.2.1]; first | exact Nat.le_of_ble_eq_true rfl | (dsimp only; omega)) dX8_comes_42 (fun v h_42 n_42 p_42 => ?_)
          obtain ⟨f9, k9, A9, rfl, rfl, q9, r9, w9⟩ := p_42
          try dsimp only [Option.toList, List.cons_append, List.nil_append]
          refine o_vret hC hB dX8_comes_45 (Nat.le_of_ble_eq_true rfl) (Nat.le_of_ble_eq_true rfl) ?_
          refine ⟨f9, k9, A9, rfl, rfl, q9, mto.ro r9 (by omega) (by omega), ?_⟩
          rcases w9 with ⟨L, h3, h4, h5⟩ | ⟨h3, h4, h5⟩
          · refine Or.inl ⟨tab.set t ((rcl A.2.2.2.2.2.2.2.2.1 w), L), by rw [hht, h3]; rfl, h4.trans hfu, ?_⟩
            refine ⟨by rw [List.length_set, r9.2.1]; exact htab.1, fun j hj => ?_⟩
            rw [List.length_set] at hj
            by_cases e : j = t
            · subst e
              rw [show ark (tab.set j ((rcl A.2.2.2.2.2.2.2.2.1 w), L)) j = ((rcl A.2.2.2.2.2.2.2.2.1 w), L) by unfold ark; rw [List.getD_eq_getElem?_getD, List.getElem?_set_self hj]; rfl]
              refine ⟨?_, h5⟩
              rw [← hkt, ← (htab.2 j hj).1]
              exact rsg_eq (fun i _ _ => congrFun r9.1 _)
            · rw [show ark (tab.set t ((rcl A.2.2.2.2.2.2.2.2.1 w), L)) j = ark tab j by unfold ark; rw [List.getD_eq_getElem?_getD, List.getD_eq_getElem?_getD, List.getElem?_set_ne (by omega)]]
              exact (htab.2 j hj).ro hw6 r9 (by omega)
          · exact Or.inr ⟨by rw [hht, h3]; rfl, h4⟩
    · refine o_vret hC hB dX8_comes_16 (Nat.le_of_ble_eq_true rfl) (Nat.le_of_ble_eq_true rfl) ?_
      first
      | exact absurd hfu c_4
      | exact ⟨_, _, _, rfl, rfl, hq, mto.rf, Or.inl ⟨tab, if_pos (List.eq_nil_of_length_eq_zero (nI_inj2 (by omega) (by omega) (by first | exact c_13 | exact Classical.not_not.mp c_13))), hfu, htab⟩⟩
end
section
/-! THE MODEL, functionally: the operators -/
/-- TUPLES one after the other, each with its WAYS (FULL is none) -/
def aall : List arow → List (List Int32 × Option (List tT)) → Option (List arow)
  | T, [] => some T
  | T, r :: R => (r.2.bind (aput T r.1)).bind (fun T' => aall T' R)
/-- nothing but node a's table, the TUPLE in work, the WAYS in work, the group (and the heap) has changed -/
def mop (A B : md_D) (a : Nat) : Prop := (∀ q : Nat, (q < 480 * a ∨ 480 * a + 480 ≤ q) → B.1 q = A.1 q) ∧ (∀ i : Nat, i ≠ a → B.2.1 i = A.2.1 i) ∧ B.2.2.1 = A.2.2.1 ∧ (∀ i : Nat, (i < 80 * a ∨ 80 * a + 80 ≤ i) → i < 1360 → B.2.2.2.1 i = A.2.2.2.1 i) ∧ (∀ q : Nat, (q < 960 * a ∨ 960 * a + 960 ≤ q) → q < 16320 → B.2.2.2.2.1 q = A.2.2.2.2.1 q ∧ B.2.2.2.2.2.1 q = A.2.2.2.2.2.1 q) ∧ B.2.2.2.2.2.2.2.2.2.2 = A.2.2.2.2.2.2.2.2.2.2
theorem mop.rf {A : md_D} {a : Nat} : mop A A a := ⟨fun _ _ => rfl, fun _ _ => rfl, rfl, fun _ _ _ => rfl, fun _ _ _ => ⟨rfl, rfl⟩, rfl⟩
theorem mop.tr {A B C : md_D} {a : Nat} (h : mop A B a) (g : mop B C a) : mop A C a := by
  obtain ⟨h1, h2, h3, h4, h5, h6⟩ := h
  obtain ⟨g1, g2, g3, g4, g5, g6⟩ := g
  exact ⟨fun q hq => (g1 q hq).trans (h1 q hq), fun q hq => (g2 q hq).trans (h2 q hq), g3.trans h3, fun i hi hj => (g4 i hi hj).trans (h4 i hi hj), fun q hq hj => ⟨(g5 q hq hj).1.trans (h5 q hq hj).1, (g5 q hq hj).2.trans (h5 q hq hj).2⟩, g6.trans h6⟩
theorem mto.op {A B : md_D} {a : Nat} (h : mto A B a) : mop A B a := by
  obtain ⟨h1, h2, h3, h4, h5, h6⟩ := h
  exact ⟨h1, h2, h3, fun i hi _ => h4 i hi, fun q hq _ => h5 q hq, by rw [h6]⟩
theorem mop.ws {A B : md_D} {a b : Nat} {L : List tT} (h : mop A B a) (hb : b < 80 * a ∨ 80 * a + 80 ≤ b) (hb2 : b < 1360) (H : mws A b L) : mws B b L := by
  obtain ⟨h1, h2, h3, h4, h5, h6⟩ := h
  obtain ⟨g1, g2, g3⟩ := H
  refine ⟨(h4 b hb hb2).trans g1, g2, (tls_eq (fun i hi => ?_)).trans g3⟩
  exact h5 (12 * b + i) (by omega) (by omega)
theorem mop.tb {A B : md_D} {a b w : Nat} {tab : List arow} (hr : mop A B a) (hw : w ≤ 6) (hl : tab.length ≤ 80) (hb : b < 17) (h : mtb A b w tab) (hab : b ≠ a) : mtb B b w tab := ⟨(hr.2.1 b hab).trans h.1, fun j hj => (h.2 j hj).of hw (fun q h1 h2 => hr.1 q (by omega)) (hr.ws (by omega) (by omega))⟩
/-- where a table stands: FULL is none -/
def mst (A : md_D) (a w : Nat) (fu : Int32) (r : Option (List arow)) : Prop := (∃ tab : List arow, r = some tab ∧ fu = nI 0 ∧ mtb A a w tab ∧ aok w tab) ∨ (r = none ∧ fu = nI 1)
theorem ark_drop {tab : List arow} {f : arow → List Int32 × Option (List tT)} {t : Nat} (h : t < tab.length) : (tab.map f).drop t = f (ark tab t) :: (tab.map f).drop (t + 1) := by
  rw [List.drop_eq_getElem_cons (by rw [List.length_map]; exact h), List.getElem_map, ark_at h]

set_option maxHeartbeats 4000000 in
set_option maxRecDepth 100000 in
theorem cf_X8_makeUnite (l : Launch) (D : va_G) (ids : Nat → ClassId) (H0 : Heap) (h : rl_H) (n : Nat) (m : Nat) (T : md_T) (fu : Int32) (k : Nat) (A : md_D) (S : md_A) (a b w wb : Nat) (tb : List arow) (r0 : Option (List arow)) (hq : mf ids h h m T fu k A) (hs : md_sa ids h m S) (ha : a < 16) (hb : b < 16) (hba : b ≠ a) (hw : S.2.2.2.2.2.2.2.2.2.2 a = nI w) (hw6 : w ≤ 6) (hwb : S.2.2.2.2.2.2.2.2.2.2 b = nI wb) (hwb6 : wb ≤ 6) (hbt : mtb A b wb tb) (hbk : aok wb tb) (hr0 : mst A a w fu r0) (hww : w = wb) : rl_Met l (rl_e D ids H0) rl_BW rl_Ns yX8_makeUnite cX8_makeUnite 4 none ({ frames := 4, cells := 0, slots := 0, locals := 98 }) [.ref m, .int (nI a), .int (nI b)] h n (fun v h' n' => ∃ (fu' : Int32) (k' : Nat) (A' : md_D), v = none ∧ n' = n ∧ mf ids h h' m T fu' k' A' ∧ mop A A' a ∧ mst A' a w fu' (r0.bind (fun x => aall x (tb.map (fun r => (r.1, some r.2)))))) := by
  have tl80 := hbk.2.2
  refine rl_Met.of (by decide +kernel) (Nat.le_of_ble_eq_true rfl) ?_
  intro X hC hB
  have loop : ∀ (mm t : Nat) (h1 : rl_H) (f1 : Int32) (k1 : Nat) (A1 : md_D) (r1 : Option (List arow)), t + mm = tb.length → mf ids h h1 m T f1 k1 A1 → mop A A1 a → mst A1 a w f1 r1 → r0.bind (fun x => aall x (tb.map (fun r => (r.1, some r.2)))) = r1.bind (fun x => aall x ((tb.map (fun r => (r.1, some r.2))).drop t)) → rl_G X (rl_e D ids H0) 2 [some (.ref m), some (.int (nI a)), some (.int (nI b)), some (.int (nI t))] [] h1 n 0 0 := by
    intro mm
    induction mm with
    | zero =>
      intro t h1 f1 k1 A1 r1 hm hq1 hop hst he
      have et : t = tb.length := by omega
      subst et
      have hTb := hop.tb hwb6 hbk.2.2 (by omega) hbt hba
      have hs1 := hq1.1.sa hs
      obtain ⟨hm0, g12, g13, g14, g15, g16, g17, g18, g19, g20, g21, g22⟩ := id hq1
      have g0 := hm0.1
      have gk := hm0.2.1
      obtain ⟨a1, a2, a3, a4, a5, a6, a7, a8, a9, a10, a11⟩ := id hs1
      refine o_iload_n hC dX8_makeUnite_2 (by rfl) ?_
      refine o_aload_n hC dX8_makeUnite_3 (by rfl) ?_
      refine o_getf hC (fX8_46 hC rfl) dX8_makeUnite_4 (by repeat (first | with_reducible assumption | (rw [rl_u_s]; done) | (rw [rl_u_s]; rfl) | rw [rl_u_n (by first | with_reducible assumption | omega)])) (by first | rfl | with_reducible assumption) ?_
      refine o_iload_n hC dX8_makeUnite_7 (by rfl) ?_
      refine o_ialdN (t0 := 0) (k := b) hC rfl dX8_makeUnite_8 (by repeat (first | with_reducible assumption | (rw [rl_u_s]; done) | (rw [rl_u_s]; rfl) | rw [rl_u_n (by first | with_reducible assumption | omega)])) (by omega) (by decide) ?_
      rw [hTb.1]
      refine o_icmp_ge (tgt := 48) hC dX8_makeUnite_9 (by decide) (fun c_9 => ?_) (fun c_9 => ?_)
      · refine o_vret hC hB dX8_makeUnite_48 (Nat.le_of_ble_eq_true rfl) (Nat.le_of_ble_eq_true rfl) ?_
        refine ⟨f1, k1, A1, rfl, rfl, hq1, hop, ?_⟩
        rw [he, show r1.bind (fun x => aall x ((tb.map (fun r => (r.1, some r.2))).drop tb.length)) = r1 by rw [List.drop_eq_nil_of_le (by rw [List.length_map]; exact Nat.le_refl _)]; cases r1 <;> rfl]
        exact hst
      · exact absurd (nI_le (by omega) (by omega)) c_9
    | succ mm ih =>
      intro t h1 f1 k1 A1 r1 hm hq1 hop hst he
      have hTb := hop.tb hwb6 hbk.2.2 (by omega) hbt hba
      have hs1 := hq1.1.sa hs
      obtain ⟨hm0, g12, g13, g14, g15, g16, g17, g18, g19, g20, g21, g22⟩ := id hq1
      have g0 := hm0.1
      have gk := hm0.2.1
      obtain ⟨a1, a2, a3, a4, a5, a6, a7, a8, a9, a10, a11⟩ := id hs1
      refine o_iload_n hC dX8_makeUnite_2 (by rfl) ?_
      refine o_aload_n hC dX8_makeUnite_3 (by rfl) ?_
      refine o_getf hC (fX8_46 hC rfl) dX8_makeUnite_4 (by repeat (first | with_reducible assumption | (rw [rl_u_s]; done) | (rw [rl_u_s]; rfl) | rw [rl_u_n (by first | with_reducible assumption | omega)])) (by first | rfl | with_reducible assumption) ?_
      refine o_iload_n hC dX8_makeUnite_7 (by rfl) ?_
      refine o_ialdN (t0 := 0) (k := b) hC rfl dX8_makeUnite_8 (by repeat (first | with_reducible assumption | (rw [rl_u_s]; done) | (rw [rl_u_s]; rfl) | rw [rl_u_n (by first | with_reducible assumption | omega)])) (by omega) (by decide) ?_
      rw [hTb.1]
      refine o_icmp_ge (tgt := 48) hC dX8_makeUnite_9 (by decide) (fun c_9 => ?_) (fun c_9 => ?_)
      · refine o_vret hC hB dX8_makeUnite_48 (Nat.le_of_ble_eq_true rfl) (Nat.le_of_ble_eq_true rfl) ?_
        exact absurd c_9 (nI_ge (by omega) (by omega))
      · refine o_aload_n hC dX8_makeUnite_12 (by rfl) ?_
        refine o_getf hC (fX8_91 hC rfl) dX8_makeUnite_13 (by repeat (first | with_reducible assumption | (rw [rl_u_s]; done) | (rw [rl_u_s]; rfl) | rw [rl_u_n (by first | with_reducible assumption | omega)])) (by first | rfl | with_reducible assumption) ?_
        refine o_if_ne (tgt := 48) hC dX8_makeUnite_16 (by decide) (fun c_16 => ?_) (fun c_16 => ?_)
        · refine o_vret hC hB dX8_makeUnite_48 (Nat.le_of_ble_eq_true rfl) (Nat.le_of_ble_eq_true rfl) ?_
          rcases hst with ⟨tab1, rfl, rfl, ht1, hk1⟩ | ⟨rfl, rfl⟩
          · exact absurd rfl c_16
          · exact ⟨_, k1, A1, rfl, rfl, hq1, hop, Or.inr ⟨he, rfl⟩⟩
        · rcases hst with ⟨tab1, rfl, rfl, ht1, hk1⟩ | ⟨rfl, rfl⟩
          rotate_left
          · exact absurd c_16 (by decide +kernel)
          have hrt := hbk.2.1 _ (List.getElem_mem (show t < tb.length by omega))
          rw [← ark_at] at hrt
          refine o_aload_n hC dX8_makeUnite_19 (by rfl) ?_
          refine o_iload_n hC dX8_makeUnite_20 (by rfl) ?_
          refine o_iload_n hC dX8_makeUnite_21 (by rfl) ?_
          refine o_aload_n hC dX8_makeUnite_22 (by rfl) ?_
          refine o_getf hC (fX8_40 hC rfl) dX8_makeUnite_23 (by repeat (first | with_reducible assumption | (rw [rl_u_s]; done) | (rw [rl_u_s]; rfl) | rw [rl_u_n (by first | with_reducible assumption | omega)])) (by first | rfl | with_reducible assumption) ?_
          refine o_iload_n hC dX8_makeUnite_26 (by rfl) ?_
          refine o_ialdN (t0 := 0) (k := b) hC rfl dX8_makeUnite_27 (by repeat (first | with_reducible assumption | (rw [rl_u_s]; done) | (rw [rl_u_s]; rfl) | rw [rl_u_n (by first | with_reducible assumption | omega)])) (by omega) (by decide) ?_
          rw [hwb]
          refine o_callV3 hC rl_BW_good rl_Ns_nw (by exact hB.2.2.2.2.2) YX8_take IX8_take VX8_take (mX8_181 hC) (by rw [hB.1]; exact cf_X8_take l D ids H0 _ _ m T _ _ _ b t wb hq1.rf (by omega) (by omega) hwb6) (by exact hq1.1.1) rfl rfl (Nat.le_of_ble_eq_true rfl) (by rw [hB.2.1]; first | exact Nat.le_of_ble_eq_true rfl | (dsimp only; omega)) (by rw [hB.2.1]; first | exact Nat.le_of_ble_eq_true rfl | (dsimp only; omega)) (by rw [hB.2.1]; first | exact Nat.le_of_ble_eq_true rfl | (dsimp only; omega)) (by rw [hB.2.1]; first | exact Nat.le_of_ble_eq_true rfl | (dsimp only; omega)) dX8_makeUnite_28 (fun v h_28 n_28 p_28 => ?_)
          obtain ⟨tp2, rfl, rfl, q28, e28⟩ := p_28
          have hq2 := hq1.tr q28
          have hs2 := hq2.1.sa hs
          have ekey : rcl tp2 w = (ark tb t).1 := by
            rw [← (hTb.2 t (by omega)).1, hww]
            exact rsg_eq (fun i _ hi => (e28 i).trans (if_pos (by omega)))
          try dsimp only [Option.toList, List.cons_append, List.nil_append]
          refine o_aload_n hC dX8_makeUnite_31 (by rfl) ?_
          refine o_iload_n hC dX8_makeUnite_32 (by rfl) ?_
          refine o_bipush (v := nI 80) hC dX8_makeUnite_33 (by decide +kernel) ?_
          refine o_iload_n hC dX8_makeUnite_35 (by rfl) ?_
          refine o_imul hC dX8_makeUnite_36 ?_
          try rw [nI_mul]
          refine o_iload_n hC dX8_makeUnite_37 (by rfl) ?_
          refine o_iadd hC dX8_makeUnite_38 ?_
          try rw [nI_add]
          refine o_callV2 hC rl_BW_good rl_Ns_nw (by exact hB.2.2.2.2.2) YX8_comes IX8_comes VX8_comes (mX8_178 hC) (by rw [hB.1]; exact cf_X8_comes l D ids H0 _ _ m T _ _ _ S a (80 * b + t) w _ _ hq2.rf hs2 (by omega) (by omega) (by omega) hw hw6 rfl ht1 hk1 (hTb.2 t (by omega)).2 hrt.2.1) (by exact hq2.1.1) rfl rfl (Nat.le_of_ble_eq_true rfl) (by rw [hB.2.1]; first | exact Nat.le_of_ble_eq_true rfl | (dsimp only; omega)) (by rw [hB.2.1]; first | exact Nat.le_of_ble_eq_true rfl | (dsimp only; omega)) (by rw [hB.2.1]; first | exact Nat.le_of_ble_eq_true rfl | (dsimp only; omega)) (by rw [hB.2.1]; first | exact Nat.le_of_ble_eq_true rfl | (dsimp only; omega)) dX8_makeUnite_39 (fun v h_39 n_39 p_39 => ?_)
          obtain ⟨f39, k39, A4, rfl, rfl, q39, r39, u39⟩ := p_39
          try dsimp only [Option.toList, List.cons_append, List.nil_append]
          refine o_iinc hC dX8_makeUnite_42 (by rfl) (rl_inc _) (Nat.le_of_ble_eq_true rfl) ?_
          refine o_goto (tgt := 2) hC dX8_makeUnite_45 (by decide) ?_
          have hop2 : mop A A4 a := hop.tr (mop.tr ⟨fun _ _ => rfl, fun _ _ => rfl, rfl, fun _ _ _ => rfl, fun _ _ _ => ⟨rfl, rfl⟩, rfl⟩ r39.op)
          have u39 : (∃ tab' : List arow, aput tab1 (rcl tp2 w) (ark tb t).2 = some tab' ∧ f39 = nI 0 ∧ mtb A4 a w tab') ∨ (aput tab1 (rcl tp2 w) (ark tb t).2 = none ∧ f39 = nI 1) := u39
          rw [ekey] at u39
          refine ih (t + 1) _ f39 k39 A4 (aput tab1 (ark tb t).1 (ark tb t).2) (by omega) (hq2.tr q39) hop2 ?_ ?_
          · rcases u39 with ⟨tab', h1, h2, h3⟩ | ⟨h1, h2⟩
            · exact Or.inl ⟨tab', h1, h2, h3, aput_ok hk1 (by rw [← ekey]; exact rsg_len _ 0 w) hrt.2.1 h1⟩
            · exact Or.inr ⟨h1, h2⟩
          · rw [he, ark_drop (show t < tb.length by omega)]
            rfl
  show rl_G X (rl_e D ids H0) 0 [some (.ref m), some (.int (nI a)), some (.int (nI b)), none] [] h n 0 0
  refine o_iconst (v := nI 0) hC dX8_makeUnite_0 (by decide +kernel) ?_
  refine o_istore_n hC dX8_makeUnite_1 (Nat.le_of_ble_eq_true rfl) ?_
  exact loop tb.length 0 _ _ _ A r0 (by omega) hq mop.rf hr0 rfl

set_option maxHeartbeats 4000000 in
set_option maxRecDepth 100000 in
theorem cf_X8_comes1 (l : Launch) (D : va_G) (ids : Nat → ClassId) (H0 : Heap) (h : rl_H) (n : Nat) (m : Nat) (T : md_T) (fu : Int32) (k : Nat) (A : md_D) (a b : Nat) (hq : mf ids h h m T fu k A) (hfu : fu = nI 1) : rl_Met l (rl_e D ids H0) rl_BW rl_Ns yX8_comes cX8_comes 6 none ({ frames := 3, cells := 0, slots := 0, locals := 73 }) [.ref m, .int (nI a), .int (nI b)] h n (fun v h' n' => v = none ∧ n' = n ∧ h' = h) := by
  obtain ⟨hm0, g12, g13, g14, g15, g16, g17, g18, g19, g20, g21, g22⟩ := id hq
  have g0 := hm0.1
  have gk := hm0.2.1
  have b13 := hq.b13
  have b15 := hq.b15
  have b21 := hq.b21
  refine rl_Met.of (by decide +kernel) (Nat.le_of_ble_eq_true rfl) ?_
  intro X hC hB
  show rl_G X (rl_e D ids H0) 0 [some (.ref m), some (.int (nI a)), some (.int (nI b)), none, none, none] [] h n 0 0
  refine o_aload_n hC dX8_comes_0 (by rfl) ?_
  refine o_getf hC (fX8_91 hC rfl) dX8_comes_1 (by repeat (first | with_reducible assumption | (rw [rl_u_s]; done) | (rw [rl_u_s]; rfl) | rw [rl_u_n (by first | with_reducible assumption | omega)])) (by first | rfl | with_reducible assumption) ?_
  refine o_if_ne (tgt := 16) hC dX8_comes_4 (by decide) (fun c_4 => ?_) (fun c_4 => ?_)
  · refine o_vret hC hB dX8_comes_16 (Nat.le_of_ble_eq_true rfl) (Nat.le_of_ble_eq_true rfl) ?_
    exact ⟨rfl, rfl, rfl⟩
  · exact absurd (hfu.symm.trans c_4) (by decide +kernel)

def pcnd (op x y : Int32) : Bool := if op = 0 then !decide (y ≤ x) else if op = nI 1 then decide (x = y) else !decide (x ≤ y)
abbrev acg (r : arow) (c : Nat) : Int32 := r.1.getD c 0
/-- which TUPLES PICK leaves -/
abbrev ppk (op v : Int32) (ca : Nat) (cc : Option Nat) (r : arow) : Bool := pcnd op (acg r ca) (cc.elim v (acg r))
theorem rsg_get {f : Nat → Int32} {w c : Nat} (h : c < w) : (rcl f w).getD c 0 = f c := by
  show (rsg f 0 w).getD c 0 = f c
  unfold rsg
  rw [List.getD_eq_getElem?_getD, List.getElem?_map, List.getElem?_range' h]
  show f (0 + 1 * c) = f c
  rw [Nat.zero_add, Nat.one_mul]
theorem mrw.cg {A : md_D} {a w j c : Nat} {r : arow} (h : mrw A a w j r) (hc : c < w) : mcl A a j c = acg r c := by
  show _ = r.1.getD c 0
  rw [← h.1, rsg_get hc]
theorem ark_dropp {tab : List arow} {t : Nat} (h : t < tab.length) : tab.drop t = ark tab t :: tab.drop (t + 1) := by
  rw [List.drop_eq_getElem_cons h, ark_at h]

set_option maxHeartbeats 4000000 in
set_option maxRecDepth 100000 in
theorem cf_X8_makePick (l : Launch) (D : va_G) (ids : Nat → ClassId) (H0 : Heap) (h : rl_H) (n : Nat) (m : Nat) (T : md_T) (fu : Int32) (k : Nat) (A : md_D) (S : md_A) (a b w wb : Nat) (tb : List arow) (r0 : Option (List arow)) (ca : Nat) (cc : Option Nat) (hq : mf ids h h m T fu k A) (hs : md_sa ids h m S) (ha : a < 16) (hb : b < 16) (hba : b ≠ a) (hw : S.2.2.2.2.2.2.2.2.2.2 a = nI w) (hw6 : w ≤ 6) (hwb : S.2.2.2.2.2.2.2.2.2.2 b = nI wb) (hwb6 : wb ≤ 6) (hbt : mtb A b wb tb) (hbk : aok wb tb) (hr0 : mst A a w fu r0) (hww : w = wb) (hnA : S.2.2.2.2.2.2.1 a = nI ca) (hca : ca < wb) (hnC : (cc = none ∧ S.2.2.2.2.2.2.2.2.1 a = -1) ∨ ∃ c : Nat, cc = some c ∧ c < wb ∧ S.2.2.2.2.2.2.2.2.1 a = nI c) : rl_Met l (rl_e D ids H0) rl_BW rl_Ns yX8_makePick cX8_makePick 7 none ({ frames := 4, cells := 0, slots := 0, locals := 98 }) [.ref m, .int (nI a), .int (nI b)] h n (fun v h' n' => ∃ (fu' : Int32) (k' : Nat) (A' : md_D), v = none ∧ n' = n ∧ mf ids h h' m T fu' k' A' ∧ mop A A' a ∧ mst A' a w fu' (r0.bind (fun x => aall x ((tb.filter (fun r => ppk (S.2.2.2.2.2.2.2.1 a) (S.2.2.2.2.2.2.2.2.2.1 a) ca cc r)).map (fun r => (r.1, some r.2)))))) := by
  have tl80 := hbk.2.2
  refine rl_Met.of (by decide +kernel) (Nat.le_of_ble_eq_true rfl) ?_
  intro X hC hB
  have loop : ∀ (mm t : Nat) (h1 : rl_H) (f1 : Int32) (k1 : Nat) (A1 : md_D) (r1 : Option (List arow)) (o4 o5 o6 : Option Value), t + mm = tb.length → mf ids h h1 m T f1 k1 A1 → mop A A1 a → mst A1 a w f1 r1 → r0.bind (fun x => aall x ((tb.filter (fun r => ppk (S.2.2.2.2.2.2.2.1 a) (S.2.2.2.2.2.2.2.2.2.1 a) ca cc r)).map (fun r => (r.1, some r.2)))) = r1.bind (fun x => aall x (((tb.drop t).filter (fun r => ppk (S.2.2.2.2.2.2.2.1 a) (S.2.2.2.2.2.2.2.2.2.1 a) ca cc r)).map (fun r => (r.1, some r.2)))) → rl_G X (rl_e D ids H0) 2 [some (.ref m), some (.int (nI a)), some (.int (nI b)), some (.int (nI t)), o4, o5, o6] [] h1 n 0 0 := by
    intro mm
    induction mm with
    | zero =>
      intro t h1 f1 k1 A1 r1 o4 o5 o6 hm hq1 hop hst he
      have et : t = tb.length := by omega
      subst et
      have hTb := hop.tb hwb6 hbk.2.2 (by omega) hbt hba
      have hs1 := hq1.1.sa hs
      obtain ⟨hm0, g12, g13, g14, g15, g16, g17, g18, g19, g20, g21, g22⟩ := id hq1
      have g0 := hm0.1
      have gk := hm0.2.1
      obtain ⟨a1, a2, a3, a4, a5, a6, a7, a8, a9, a10, a11⟩ := id hs1
      refine o_iload_n hC dX8_makePick_2 (by rfl) ?_
      refine o_aload_n hC dX8_makePick_3 (by rfl) ?_
      refine o_getf hC (fX8_46 hC rfl) dX8_makePick_4 (by repeat (first | with_reducible assumption | (rw [rl_u_s]; done) | (rw [rl_u_s]; rfl) | rw [rl_u_n (by first | with_reducible assumption | omega)])) (by first | rfl | with_reducible assumption) ?_
      refine o_iload_n hC dX8_makePick_7 (by rfl) ?_
      refine o_ialdN (t0 := 0) (k := b) hC rfl dX8_makePick_8 (by repeat (first | with_reducible assumption | (rw [rl_u_s]; done) | (rw [rl_u_s]; rfl) | rw [rl_u_n (by first | with_reducible assumption | omega)])) (by omega) (by decide) ?_
      rw [hTb.1]
      refine o_icmp_ge (tgt := 156) hC dX8_makePick_9 (by decide) (fun c_9 => ?_) (fun c_9 => ?_)
      · refine o_vret hC hB dX8_makePick_156 (Nat.le_of_ble_eq_true rfl) (Nat.le_of_ble_eq_true rfl) ?_
        refine ⟨f1, k1, A1, rfl, rfl, hq1, hop, ?_⟩
        rw [he, show r1.bind (fun x => aall x (((tb.drop tb.length).filter (fun r => ppk (S.2.2.2.2.2.2.2.1 a) (S.2.2.2.2.2.2.2.2.2.1 a) ca cc r)).map (fun r => (r.1, some r.2)))) = r1 by rw [List.drop_eq_nil_of_le (Nat.le_refl _)]; cases r1 <;> rfl]
        exact hst
      · exact absurd (nI_le (by omega) (by omega)) c_9
    | succ mm ih =>
      intro t h1 f1 k1 A1 r1 o4 o5 o6 hm hq1 hop hst he
      have hTb := hop.tb hwb6 hbk.2.2 (by omega) hbt hba
      have hrt := hbk.2.1 _ (List.getElem_mem (show t < tb.length by omega))
      rw [← ark_at] at hrt
      have hrw := hTb.2 t (by omega)
      rw [ark_dropp (show t < tb.length by omega)] at he
      have go : ∀ (z : Int32) (o4 o5 : Option Value), z = (if ppk (S.2.2.2.2.2.2.2.1 a) (S.2.2.2.2.2.2.2.2.2.1 a) ca cc (ark tb t) then nI 1 else nI 0) → rl_G X (rl_e D ids H0) 122 [some (.ref m), some (.int (nI a)), some (.int (nI b)), some (.int (nI t)), o4, o5, some (.int z)] [] h1 n 0 0 := by
        intro z o4 o5 hz
        have hs1 := hq1.1.sa hs
        obtain ⟨hm0, g12, g13, g14, g15, g16, g17, g18, g19, g20, g21, g22⟩ := id hq1
        have g0 := hm0.1
        have gk := hm0.2.1
        obtain ⟨a1, a2, a3, a4, a5, a6, a7, a8, a9, a10, a11⟩ := id hs1
        rcases hst with ⟨tab1, rfl, rfl, ht1, hk1⟩ | ⟨rfl, rfl⟩
        · refine o_iload hC dX8_makePick_122 (by rfl) ?_
          refine o_if_eq (tgt := 150) hC dX8_makePick_124 (by decide) (fun c_124 => ?_) (fun c_124 => ?_)
          · refine o_iinc hC dX8_makePick_150 (by rfl) (rl_inc _) (Nat.le_of_ble_eq_true rfl) ?_
            refine o_goto (tgt := 2) hC dX8_makePick_153 (by decide) ?_
            have hp : ¬ ppk (S.2.2.2.2.2.2.2.1 a) (S.2.2.2.2.2.2.2.2.2.1 a) ca cc (ark tb t) = true := by
              intro e
              rw [e] at hz
              exact absurd (hz.symm.trans c_124) (by decide +kernel)
            rw [List.filter_cons_of_neg (p := (fun r => ppk (S.2.2.2.2.2.2.2.1 a) (S.2.2.2.2.2.2.2.2.2.1 a) ca cc r)) hp] at he
            exact ih (t + 1) _ _ _ A1 _ _ _ _ (by omega) hq1 hop (Or.inl ⟨tab1, rfl, rfl, ht1, hk1⟩) he
          · have hp : ppk (S.2.2.2.2.2.2.2.1 a) (S.2.2.2.2.2.2.2.2.2.1 a) ca cc (ark tb t) = true := by
              cases e : ppk (S.2.2.2.2.2.2.2.1 a) (S.2.2.2.2.2.2.2.2.2.1 a) ca cc (ark tb t) with
              | true => rfl
              | false => rw [e] at hz; exact absurd hz c_124
            refine o_aload_n hC dX8_makePick_127 (by rfl) ?_
            refine o_iload_n hC dX8_makePick_128 (by rfl) ?_
            refine o_iload_n hC dX8_makePick_129 (by rfl) ?_
            refine o_aload_n hC dX8_makePick_130 (by rfl) ?_
            refine o_getf hC (fX8_40 hC rfl) dX8_makePick_131 (by repeat (first | with_reducible assumption | (rw [rl_u_s]; done) | (rw [rl_u_s]; rfl) | rw [rl_u_n (by first | with_reducible assumption | omega)])) (by first | rfl | with_reducible assumption) ?_
            refine o_iload_n hC dX8_makePick_134 (by rfl) ?_
            refine o_ialdN (t0 := 0) (k := b) hC rfl dX8_makePick_135 (by repeat (first | with_reducible assumption | (rw [rl_u_s]; done) | (rw [rl_u_s]; rfl) | rw [rl_u_n (by first | with_reducible assumption | omega)])) (by omega) (by decide) ?_
            rw [hwb]
            refine o_callV3 hC rl_BW_good rl_Ns_nw (by exact hB.2.2.2.2.2) YX8_take IX8_take VX8_take (mX8_181 hC) (by rw [hB.1]; exact cf_X8_take l D ids H0 _ _ m T _ _ _ b t wb hq1.rf (by omega) (by omega) hwb6) (by exact hq1.1.1) rfl rfl (Nat.le_of_ble_eq_true rfl) (by rw [hB.2.1]; first | exact Nat.le_of_ble_eq_true rfl | (dsimp only; omega)) (by rw [hB.2.1]; first | exact Nat.le_of_ble_eq_true rfl | (dsimp only; omega)) (by rw [hB.2.1]; first | exact Nat.le_of_ble_eq_true rfl | (dsimp only; omega)) (by rw [hB.2.1]; first | exact Nat.le_of_ble_eq_true rfl | (dsimp only; omega)) dX8_makePick_136 (fun v h_136 n_136 p_136 => ?_)
            obtain ⟨tp2, rfl, rfl, q136, e136⟩ := p_136
            have hq2 := hq1.tr q136
            have hs2 := hq2.1.sa hs
            have ekey : rcl tp2 w = (ark tb t).1 := by
              rw [← hrw.1, hww]
              exact rsg_eq (fun i _ hi => (e136 i).trans (if_pos (by omega)))
            try dsimp only [Option.toList, List.cons_append, List.nil_append]
            refine o_aload_n hC dX8_makePick_139 (by rfl) ?_
            refine o_iload_n hC dX8_makePick_140 (by rfl) ?_
            refine o_bipush (v := nI 80) hC dX8_makePick_141 (by decide +kernel) ?_
            refine o_iload_n hC dX8_makePick_143 (by rfl) ?_
            refine o_imul hC dX8_makePick_144 ?_
            try rw [nI_mul]
            refine o_iload_n hC dX8_makePick_145 (by rfl) ?_
            refine o_iadd hC dX8_makePick_146 ?_
            try rw [nI_add]
            refine o_callV2 hC rl_BW_good rl_Ns_nw (by exact hB.2.2.2.2.2) YX8_comes IX8_comes VX8_comes (mX8_178 hC) (by rw [hB.1]; exact cf_X8_comes l D ids H0 _ _ m T _ _ _ S a (80 * b + t) w _ _ hq2.rf hs2 (by omega) (by omega) (by omega) hw hw6 rfl ht1 hk1 hrw.2 hrt.2.1) (by exact hq2.1.1) rfl rfl (Nat.le_of_ble_eq_true rfl) (by rw [hB.2.1]; first | exact Nat.le_of_ble_eq_true rfl | (dsimp only; omega)) (by rw [hB.2.1]; first | exact Nat.le_of_ble_eq_true rfl | (dsimp only; omega)) (by rw [hB.2.1]; first | exact Nat.le_of_ble_eq_true rfl | (dsimp only; omega)) (by rw [hB.2.1]; first | exact Nat.le_of_ble_eq_true rfl | (dsimp only; omega)) dX8_makePick_147 (fun v h_147 n_147 p_147 => ?_)
            obtain ⟨f147, k147, A4, rfl, rfl, q147, r147, u147⟩ := p_147
            try dsimp only [Option.toList, List.cons_append, List.nil_append]
            refine o_iinc hC dX8_makePick_150 (by rfl) (rl_inc _) (Nat.le_of_ble_eq_true rfl) ?_
            refine o_goto (tgt := 2) hC dX8_makePick_153 (by decide) ?_
            have hop2 : mop A A4 a := hop.tr (mop.tr ⟨fun _ _ => rfl, fun _ _ => rfl, rfl, fun _ _ _ => rfl, fun _ _ _ => ⟨rfl, rfl⟩, rfl⟩ r147.op)
            have u39 : (∃ tab' : List arow, aput tab1 (rcl tp2 w) (ark tb t).2 = some tab' ∧ f147 = nI 0 ∧ mtb A4 a w tab') ∨ (aput tab1 (rcl tp2 w) (ark tb t).2 = none ∧ f147 = nI 1) := u147
            rw [ekey] at u39
            refine ih (t + 1) _ f147 k147 A4 (aput tab1 (ark tb t).1 (ark tb t).2) _ _ _ (by omega) (hq2.tr q147) hop2 ?_ ?_
            · rcases u39 with ⟨tab', h1, h2, h3⟩ | ⟨h1, h2⟩
              · exact Or.inl ⟨tab', h1, h2, h3, aput_ok hk1 (by rw [← ekey]; exact rsg_len _ 0 w) hrt.2.1 h1⟩
              · exact Or.inr ⟨h1, h2⟩
            · rw [he, List.filter_cons_of_pos (p := (fun r => ppk (S.2.2.2.2.2.2.2.1 a) (S.2.2.2.2.2.2.2.2.2.1 a) ca cc r)) hp]
              rfl
        · refine o_iload hC dX8_makePick_122 (by rfl) ?_
          refine o_if_eq (tgt := 150) hC dX8_makePick_124 (by decide) (fun c_124 => ?_) (fun c_124 => ?_)
          · refine o_iinc hC dX8_makePick_150 (by rfl) (rl_inc _) (Nat.le_of_ble_eq_true rfl) ?_
            refine o_goto (tgt := 2) hC dX8_makePick_153 (by decide) ?_
            have hp : ¬ ppk (S.2.2.2.2.2.2.2.1 a) (S.2.2.2.2.2.2.2.2.2.1 a) ca cc (ark tb t) = true := by
              intro e
              rw [e] at hz
              exact absurd (hz.symm.trans c_124) (by decide +kernel)
            rw [List.filter_cons_of_neg (p := (fun r => ppk (S.2.2.2.2.2.2.2.1 a) (S.2.2.2.2.2.2.2.2.2.1 a) ca cc r)) hp] at he
            exact ih (t + 1) _ _ _ A1 _ _ _ _ (by omega) hq1 hop (Or.inr ⟨rfl, rfl⟩) he
          · have hp : ppk (S.2.2.2.2.2.2.2.1 a) (S.2.2.2.2.2.2.2.2.2.1 a) ca cc (ark tb t) = true := by
              cases e : ppk (S.2.2.2.2.2.2.2.1 a) (S.2.2.2.2.2.2.2.2.2.1 a) ca cc (ark tb t) with
              | true => rfl
              | false => rw [e] at hz; exact absurd hz c_124
            refine o_aload_n hC dX8_makePick_127 (by rfl) ?_
            refine o_iload_n hC dX8_makePick_128 (by rfl) ?_
            refine o_iload_n hC dX8_makePick_129 (by rfl) ?_
            refine o_aload_n hC dX8_makePick_130 (by rfl) ?_
            refine o_getf hC (fX8_40 hC rfl) dX8_makePick_131 (by repeat (first | with_reducible assumption | (rw [rl_u_s]; done) | (rw [rl_u_s]; rfl) | rw [rl_u_n (by first | with_reducible assumption | omega)])) (by first | rfl | with_reducible assumption) ?_
            refine o_iload_n hC dX8_makePick_134 (by rfl) ?_
            refine o_ialdN (t0 := 0) (k := b) hC rfl dX8_makePick_135 (by repeat (first | with_reducible assumption | (rw [rl_u_s]; done) | (rw [rl_u_s]; rfl) | rw [rl_u_n (by first | with_reducible assumption | omega)])) (by omega) (by decide) ?_
            rw [hwb]
            refine o_callV3 hC rl_BW_good rl_Ns_nw (by exact hB.2.2.2.2.2) YX8_take IX8_take VX8_take (mX8_181 hC) (by rw [hB.1]; exact cf_X8_take l D ids H0 _ _ m T _ _ _ b t wb hq1.rf (by omega) (by omega) hwb6) (by exact hq1.1.1) rfl rfl (Nat.le_of_ble_eq_true rfl) (by rw [hB.2.1]; first | exact Nat.le_of_ble_eq_true rfl | (dsimp only; omega)) (by rw [hB.2.1]; first | exact Nat.le_of_ble_eq_true rfl | (dsimp only; omega)) (by rw [hB.2.1]; first | exact Nat.le_of_ble_eq_true rfl | (dsimp only; omega)) (by rw [hB.2.1]; first | exact Nat.le_of_ble_eq_true rfl | (dsimp only; omega)) dX8_makePick_136 (fun v h_136 n_136 p_136 => ?_)
            obtain ⟨tp2, rfl, rfl, q136, e136⟩ := p_136
            have hq2 := hq1.tr q136
            have hs2 := hq2.1.sa hs
            have ekey : rcl tp2 w = (ark tb t).1 := by
              rw [← hrw.1, hww]
              exact rsg_eq (fun i _ hi => (e136 i).trans (if_pos (by omega)))
            try dsimp only [Option.toList, List.cons_append, List.nil_append]
            refine o_aload_n hC dX8_makePick_139 (by rfl) ?_
            refine o_iload_n hC dX8_makePick_140 (by rfl) ?_
            refine o_bipush (v := nI 80) hC dX8_makePick_141 (by decide +kernel) ?_
            refine o_iload_n hC dX8_makePick_143 (by rfl) ?_
            refine o_imul hC dX8_makePick_144 ?_
            try rw [nI_mul]
            refine o_iload_n hC dX8_makePick_145 (by rfl) ?_
            refine o_iadd hC dX8_makePick_146 ?_
            try rw [nI_add]
            refine o_callV2 hC rl_BW_good rl_Ns_nw (by exact hB.2.2.2.2.2) YX8_comes IX8_comes VX8_comes (mX8_178 hC) (by rw [hB.1]; exact cf_X8_comes1 l D ids H0 _ _ m T _ _ _ a (80 * b + t) hq2.rf rfl) (by exact hq2.1.1) rfl rfl (Nat.le_of_ble_eq_true rfl) (by rw [hB.2.1]; first | exact Nat.le_of_ble_eq_true rfl | (dsimp only; omega)) (by rw [hB.2.1]; first | exact Nat.le_of_ble_eq_true rfl | (dsimp only; omega)) (by rw [hB.2.1]; first | exact Nat.le_of_ble_eq_true rfl | (dsimp only; omega)) (by rw [hB.2.1]; first | exact Nat.le_of_ble_eq_true rfl | (dsimp only; omega)) dX8_makePick_147 (fun v h_147 n_147 p_147 => ?_)
            obtain ⟨rfl, rfl, rfl⟩ := p_147
            try dsimp only [Option.toList, List.cons_append, List.nil_append]
            refine o_iinc hC dX8_makePick_150 (by rfl) (rl_inc _) (Nat.le_of_ble_eq_true rfl) ?_
            refine o_goto (tgt := 2) hC dX8_makePick_153 (by decide) ?_
            refine ih (t + 1) _ _ _ _ none _ _ _ (by omega) hq2 (hop.tr ⟨fun _ _ => rfl, fun _ _ => rfl, rfl, fun _ _ _ => rfl, fun _ _ _ => ⟨rfl, rfl⟩, rfl⟩) (Or.inr ⟨rfl, rfl⟩) ?_
            rw [he]
            rfl
      have hs1 := hq1.1.sa hs
      obtain ⟨hm0, g12, g13, g14, g15, g16, g17, g18, g19, g20, g21, g22⟩ := id hq1
      have g0 := hm0.1
      have gk := hm0.2.1
      obtain ⟨a1, a2, a3, a4, a5, a6, a7, a8, a9, a10, a11⟩ := id hs1
      refine o_iload_n hC dX8_makePick_2 (by rfl) ?_
      refine o_aload_n hC dX8_makePick_3 (by rfl) ?_
      refine o_getf hC (fX8_46 hC rfl) dX8_makePick_4 (by repeat (first | with_reducible assumption | (rw [rl_u_s]; done) | (rw [rl_u_s]; rfl) | rw [rl_u_n (by first | with_reducible assumption | omega)])) (by first | rfl | with_reducible assumption) ?_
      refine o_iload_n hC dX8_makePick_7 (by rfl) ?_
      refine o_ialdN (t0 := 0) (k := b) hC rfl dX8_makePick_8 (by repeat (first | with_reducible assumption | (rw [rl_u_s]; done) | (rw [rl_u_s]; rfl) | rw [rl_u_n (by first | with_reducible assumption | omega)])) (by omega) (by decide) ?_
      rw [hTb.1]
      refine o_icmp_ge (tgt := 156) hC dX8_makePick_9 (by decide) (fun c_9 => ?_) (fun c_9 => ?_)
      · refine o_vret hC hB dX8_makePick_156 (Nat.le_of_ble_eq_true rfl) (Nat.le_of_ble_eq_true rfl) ?_
        exact absurd c_9 (nI_ge (by omega) (by omega))
      · refine o_aload_n hC dX8_makePick_12 (by rfl) ?_
        refine o_iload_n hC dX8_makePick_13 (by rfl) ?_
        refine o_iload_n hC dX8_makePick_14 (by rfl) ?_
        refine o_aload_n hC dX8_makePick_15 (by rfl) ?_
        refine o_getf hC (fX8_28 hC rfl) dX8_makePick_16 (by repeat (first | with_reducible assumption | (rw [rl_u_s]; done) | (rw [rl_u_s]; rfl) | rw [rl_u_n (by first | with_reducible assumption | omega)])) (by first | rfl | with_reducible assumption) ?_
        refine o_iload_n hC dX8_makePick_19 (by rfl) ?_
        refine o_ialdN (t0 := 0) (k := a) hC rfl dX8_makePick_20 (by repeat (first | with_reducible assumption | (rw [rl_u_s]; done) | (rw [rl_u_s]; rfl) | rw [rl_u_n (by first | with_reducible assumption | omega)])) (by omega) (by decide) ?_
        rw [hnA]
        refine o_callV3 hC rl_BW_good rl_Ns_nw (by exact hB.2.2.2.2.2) YX8_cellAt IX8_cellAt VX8_cellAt (mX8_138 hC) (by rw [hB.1]; exact cf_X8_cellAt l D ids H0 _ _ m T _ _ _ b t ca hq1.rf (by omega)) (by exact hq1.rf.1.1) rfl rfl (Nat.le_of_ble_eq_true rfl) (by rw [hB.2.1]; first | exact Nat.le_of_ble_eq_true rfl | (dsimp only; omega)) (by rw [hB.2.1]; first | exact Nat.le_of_ble_eq_true rfl | (dsimp only; omega)) (by rw [hB.2.1]; first | exact Nat.le_of_ble_eq_true rfl | (dsimp only; omega)) (by rw [hB.2.1]; first | exact Nat.le_of_ble_eq_true rfl | (dsimp only; omega)) dX8_makePick_21 (fun v h_21 n_21 p_21 => ?_)
        obtain ⟨rfl, rfl, rfl⟩ := p_21
        try dsimp only [Option.toList, List.cons_append, List.nil_append]
        refine o_istore hC dX8_makePick_24 (Nat.le_of_ble_eq_true rfl) ?_
        refine o_aload_n hC dX8_makePick_26 (by rfl) ?_
        refine o_getf hC (fX8_34 hC rfl) dX8_makePick_27 (by repeat (first | with_reducible assumption | (rw [rl_u_s]; done) | (rw [rl_u_s]; rfl) | rw [rl_u_n (by first | with_reducible assumption | omega)])) (by first | rfl | with_reducible assumption) ?_
        refine o_iload_n hC dX8_makePick_30 (by rfl) ?_
        refine o_ialdN (t0 := 0) hC rfl dX8_makePick_31 (by repeat (first | with_reducible assumption | (rw [rl_u_s]; done) | (rw [rl_u_s]; rfl) | rw [rl_u_n (by first | with_reducible assumption | omega)])) (by omega) (by decide) ?_
        refine o_iconst (v := (-1 : Int32)) hC dX8_makePick_32 (by decide +kernel) ?_
        refine o_icmp_ne (tgt := 45) hC dX8_makePick_33 (by decide) (fun c_33 => ?_) (fun c_33 => ?_)
        · obtain ⟨c0, ecc, hcc, ec⟩ := hnC.resolve_left (fun e => c_33 e.2)
          have eX : ppk (S.2.2.2.2.2.2.2.1 a) (S.2.2.2.2.2.2.2.2.2.1 a) ca cc (ark tb t) = pcnd (S.2.2.2.2.2.2.2.1 a) (mcl A1 b t ca) (mcl A1 b t c0) := by
            subst ecc
            show pcnd _ (acg _ ca) (acg _ c0) = _
            rw [hrw.cg hca, hrw.cg hcc]
          have eY : (0 : Nat) = 0 := rfl
          refine o_aload_n hC dX8_makePick_45 (by rfl) ?_
          refine o_iload_n hC dX8_makePick_46 (by rfl) ?_
          refine o_iload_n hC dX8_makePick_47 (by rfl) ?_
          refine o_aload_n hC dX8_makePick_48 (by rfl) ?_
          refine o_getf hC (fX8_34 hC rfl) dX8_makePick_49 (by repeat (first | with_reducible assumption | (rw [rl_u_s]; done) | (rw [rl_u_s]; rfl) | rw [rl_u_n (by first | with_reducible assumption | omega)])) (by first | rfl | with_reducible assumption) ?_
          refine o_iload_n hC dX8_makePick_52 (by rfl) ?_
          refine o_ialdN (t0 := 0) (k := a) hC rfl dX8_makePick_53 (by repeat (first | with_reducible assumption | (rw [rl_u_s]; done) | (rw [rl_u_s]; rfl) | rw [rl_u_n (by first | with_reducible assumption | omega)])) (by omega) (by decide) ?_
          rw [ec]
          refine o_callV3 hC rl_BW_good rl_Ns_nw (by exact hB.2.2.2.2.2) YX8_cellAt IX8_cellAt VX8_cellAt (mX8_138 hC) (by rw [hB.1]; exact cf_X8_cellAt l D ids H0 _ _ m T _ _ _ b t c0 hq1.rf (by omega)) (by exact hq1.rf.1.1) rfl rfl (Nat.le_of_ble_eq_true rfl) (by rw [hB.2.1]; first | exact Nat.le_of_ble_eq_true rfl | (dsimp only; omega)) (by rw [hB.2.1]; first | exact Nat.le_of_ble_eq_true rfl | (dsimp only; omega)) (by rw [hB.2.1]; first | exact Nat.le_of_ble_eq_true rfl | (dsimp only; omega)) (by rw [hB.2.1]; first | exact Nat.le_of_ble_eq_true rfl | (dsimp only; omega)) dX8_makePick_54 (fun v h_54 n_54 p_54 => ?_)
          obtain ⟨rfl, rfl, rfl⟩ := p_54
          try dsimp only [Option.toList, List.cons_append, List.nil_append]
          refine o_istore hC dX8_makePick_57 (Nat.le_of_ble_eq_true rfl) ?_
          refine o_aload_n hC dX8_makePick_59 (by rfl) ?_
          refine o_getf hC (fX8_31 hC rfl) dX8_makePick_60 (by repeat (first | with_reducible assumption | (rw [rl_u_s]; done) | (rw [rl_u_s]; rfl) | rw [rl_u_n (by first | with_reducible assumption | omega)])) (by first | rfl | with_reducible assumption) ?_
          refine o_iload_n hC dX8_makePick_63 (by rfl) ?_
          refine o_ialdN (t0 := 0) hC rfl dX8_makePick_64 (by repeat (first | with_reducible assumption | (rw [rl_u_s]; done) | (rw [rl_u_s]; rfl) | rw [rl_u_n (by first | with_reducible assumption | omega)])) (by omega) (by decide) ?_
          refine o_if_ne (tgt := 83) hC dX8_makePick_65 (by decide) (fun c_65 => ?_) (fun c_65 => ?_)
          · refine o_aload_n hC dX8_makePick_83 (by rfl) ?_
            refine o_getf hC (fX8_31 hC rfl) dX8_makePick_84 (by repeat (first | with_reducible assumption | (rw [rl_u_s]; done) | (rw [rl_u_s]; rfl) | rw [rl_u_n (by first | with_reducible assumption | omega)])) (by first | rfl | with_reducible assumption) ?_
            refine o_iload_n hC dX8_makePick_87 (by rfl) ?_
            refine o_ialdN (t0 := 0) hC rfl dX8_makePick_88 (by repeat (first | with_reducible assumption | (rw [rl_u_s]; done) | (rw [rl_u_s]; rfl) | rw [rl_u_n (by first | with_reducible assumption | omega)])) (by omega) (by decide) ?_
            refine o_iconst (v := nI 1) hC dX8_makePick_89 (by decide +kernel) ?_
            refine o_icmp_ne (tgt := 108) hC dX8_makePick_90 (by decide) (fun c_90 => ?_) (fun c_90 => ?_)
            · refine o_iload hC dX8_makePick_108 (by rfl) ?_
              refine o_iload hC dX8_makePick_110 (by rfl) ?_
              refine o_icmp_le (tgt := 119) hC dX8_makePick_112 (by decide) (fun c_112 => ?_) (fun c_112 => ?_)
              · refine o_iconst (v := nI 0) hC dX8_makePick_119 (by decide +kernel) ?_
                refine o_istore hC dX8_makePick_120 (Nat.le_of_ble_eq_true rfl) ?_
                first
                | exact go _ _ _ (by rw [eX]; unfold pcnd; rw [if_neg c_65, if_neg c_90, decide_eq_true c_112]; rfl)
                | exact go _ _ _ (by rw [eX]; unfold pcnd; rw [if_neg c_65, if_neg c_90, decide_eq_false c_112]; rfl)
                | exact go _ _ _ (by rw [eX]; unfold pcnd; rw [if_neg c_65, if_pos c_90, decide_eq_false c_97]; rfl)
                | exact go _ _ _ (by rw [eX]; unfold pcnd; rw [if_neg c_65, if_pos c_90, decide_eq_true c_97]; rfl)
                | exact go _ _ _ (by rw [eX]; unfold pcnd; rw [if_pos c_65, decide_eq_true c_72]; rfl)
                | exact go _ _ _ (by rw [eX]; unfold pcnd; rw [if_pos c_65, decide_eq_false c_72]; rfl)
              · refine o_iconst (v := nI 1) hC dX8_makePick_115 (by decide +kernel) ?_
                refine o_goto (tgt := 120) hC dX8_makePick_116 (by decide) ?_
                refine o_istore hC dX8_makePick_120 (Nat.le_of_ble_eq_true rfl) ?_
                first
                | exact go _ _ _ (by rw [eX]; unfold pcnd; rw [if_neg c_65, if_neg c_90, decide_eq_true c_112]; rfl)
                | exact go _ _ _ (by rw [eX]; unfold pcnd; rw [if_neg c_65, if_neg c_90, decide_eq_false c_112]; rfl)
                | exact go _ _ _ (by rw [eX]; unfold pcnd; rw [if_neg c_65, if_pos c_90, decide_eq_false c_97]; rfl)
                | exact go _ _ _ (by rw [eX]; unfold pcnd; rw [if_neg c_65, if_pos c_90, decide_eq_true c_97]; rfl)
                | exact go _ _ _ (by rw [eX]; unfold pcnd; rw [if_pos c_65, decide_eq_true c_72]; rfl)
                | exact go _ _ _ (by rw [eX]; unfold pcnd; rw [if_pos c_65, decide_eq_false c_72]; rfl)
            · refine o_iload hC dX8_makePick_93 (by rfl) ?_
              refine o_iload hC dX8_makePick_95 (by rfl) ?_
              refine o_icmp_ne (tgt := 104) hC dX8_makePick_97 (by decide) (fun c_97 => ?_) (fun c_97 => ?_)
              · refine o_iconst (v := nI 0) hC dX8_makePick_104 (by decide +kernel) ?_
                refine o_goto (tgt := 120) hC dX8_makePick_105 (by decide) ?_
                refine o_istore hC dX8_makePick_120 (Nat.le_of_ble_eq_true rfl) ?_
                first
                | exact go _ _ _ (by rw [eX]; unfold pcnd; rw [if_neg c_65, if_neg c_90, decide_eq_true c_112]; rfl)
                | exact go _ _ _ (by rw [eX]; unfold pcnd; rw [if_neg c_65, if_neg c_90, decide_eq_false c_112]; rfl)
                | exact go _ _ _ (by rw [eX]; unfold pcnd; rw [if_neg c_65, if_pos c_90, decide_eq_false c_97]; rfl)
                | exact go _ _ _ (by rw [eX]; unfold pcnd; rw [if_neg c_65, if_pos c_90, decide_eq_true c_97]; rfl)
                | exact go _ _ _ (by rw [eX]; unfold pcnd; rw [if_pos c_65, decide_eq_true c_72]; rfl)
                | exact go _ _ _ (by rw [eX]; unfold pcnd; rw [if_pos c_65, decide_eq_false c_72]; rfl)
              · refine o_iconst (v := nI 1) hC dX8_makePick_100 (by decide +kernel) ?_
                refine o_goto (tgt := 120) hC dX8_makePick_101 (by decide) ?_
                refine o_istore hC dX8_makePick_120 (Nat.le_of_ble_eq_true rfl) ?_
                first
                | exact go _ _ _ (by rw [eX]; unfold pcnd; rw [if_neg c_65, if_neg c_90, decide_eq_true c_112]; rfl)
                | exact go _ _ _ (by rw [eX]; unfold pcnd; rw [if_neg c_65, if_neg c_90, decide_eq_false c_112]; rfl)
                | exact go _ _ _ (by rw [eX]; unfold pcnd; rw [if_neg c_65, if_pos c_90, decide_eq_false c_97]; rfl)
                | exact go _ _ _ (by rw [eX]; unfold pcnd; rw [if_neg c_65, if_pos c_90, decide_eq_true c_97]; rfl)
                | exact go _ _ _ (by rw [eX]; unfold pcnd; rw [if_pos c_65, decide_eq_true c_72]; rfl)
                | exact go _ _ _ (by rw [eX]; unfold pcnd; rw [if_pos c_65, decide_eq_false c_72]; rfl)
          · refine o_iload hC dX8_makePick_68 (by rfl) ?_
            refine o_iload hC dX8_makePick_70 (by rfl) ?_
            refine o_icmp_ge (tgt := 79) hC dX8_makePick_72 (by decide) (fun c_72 => ?_) (fun c_72 => ?_)
            · refine o_iconst (v := nI 0) hC dX8_makePick_79 (by decide +kernel) ?_
              refine o_goto (tgt := 120) hC dX8_makePick_80 (by decide) ?_
              refine o_istore hC dX8_makePick_120 (Nat.le_of_ble_eq_true rfl) ?_
              first
              | exact go _ _ _ (by rw [eX]; unfold pcnd; rw [if_neg c_65, if_neg c_90, decide_eq_true c_112]; rfl)
              | exact go _ _ _ (by rw [eX]; unfold pcnd; rw [if_neg c_65, if_neg c_90, decide_eq_false c_112]; rfl)
              | exact go _ _ _ (by rw [eX]; unfold pcnd; rw [if_neg c_65, if_pos c_90, decide_eq_false c_97]; rfl)
              | exact go _ _ _ (by rw [eX]; unfold pcnd; rw [if_neg c_65, if_pos c_90, decide_eq_true c_97]; rfl)
              | exact go _ _ _ (by rw [eX]; unfold pcnd; rw [if_pos c_65, decide_eq_true c_72]; rfl)
              | exact go _ _ _ (by rw [eX]; unfold pcnd; rw [if_pos c_65, decide_eq_false c_72]; rfl)
            · refine o_iconst (v := nI 1) hC dX8_makePick_75 (by decide +kernel) ?_
              refine o_goto (tgt := 120) hC dX8_makePick_76 (by decide) ?_
              refine o_istore hC dX8_makePick_120 (Nat.le_of_ble_eq_true rfl) ?_
              first
              | exact go _ _ _ (by rw [eX]; unfold pcnd; rw [if_neg c_65, if_neg c_90, decide_eq_true c_112]; rfl)
              | exact go _ _ _ (by rw [eX]; unfold pcnd; rw [if_neg c_65, if_neg c_90, decide_eq_false c_112]; rfl)
              | exact go _ _ _ (by rw [eX]; unfold pcnd; rw [if_neg c_65, if_pos c_90, decide_eq_false c_97]; rfl)
              | exact go _ _ _ (by rw [eX]; unfold pcnd; rw [if_neg c_65, if_pos c_90, decide_eq_true c_97]; rfl)
              | exact go _ _ _ (by rw [eX]; unfold pcnd; rw [if_pos c_65, decide_eq_true c_72]; rfl)
              | exact go _ _ _ (by rw [eX]; unfold pcnd; rw [if_pos c_65, decide_eq_false c_72]; rfl)
        · have ecc : cc = none := (hnC.resolve_right (fun ⟨c, _, hc, ec⟩ => absurd (ec ▸ c_33 : nI c = -1) (fun e => absurd (e ▸ (show (-1 : Int32) < 0 by decide +kernel)) (nI_pos (by omega))))).1
          have eX : ppk (S.2.2.2.2.2.2.2.1 a) (S.2.2.2.2.2.2.2.2.2.1 a) ca cc (ark tb t) = pcnd (S.2.2.2.2.2.2.2.1 a) (mcl A1 b t ca) (S.2.2.2.2.2.2.2.2.2.1 a) := by
            subst ecc
            show pcnd _ (acg _ ca) _ = _
            rw [hrw.cg hca]
            rfl
          have eY : (0 : Nat) = 0 := rfl
          refine o_aload_n hC dX8_makePick_36 (by rfl) ?_
          refine o_getf hC (fX8_37 hC rfl) dX8_makePick_37 (by repeat (first | with_reducible assumption | (rw [rl_u_s]; done) | (rw [rl_u_s]; rfl) | rw [rl_u_n (by first | with_reducible assumption | omega)])) (by first | rfl | with_reducible assumption) ?_
          refine o_iload_n hC dX8_makePick_40 (by rfl) ?_
          refine o_ialdN (t0 := 0) hC rfl dX8_makePick_41 (by repeat (first | with_reducible assumption | (rw [rl_u_s]; done) | (rw [rl_u_s]; rfl) | rw [rl_u_n (by first | with_reducible assumption | omega)])) (by omega) (by decide) ?_
          refine o_goto (tgt := 57) hC dX8_makePick_42 (by decide) ?_
          refine o_istore hC dX8_makePick_57 (Nat.le_of_ble_eq_true rfl) ?_
          refine o_aload_n hC dX8_makePick_59 (by rfl) ?_
          refine o_getf hC (fX8_31 hC rfl) dX8_makePick_60 (by repeat (first | with_reducible assumption | (rw [rl_u_s]; done) | (rw [rl_u_s]; rfl) | rw [rl_u_n (by first | with_reducible assumption | omega)])) (by first | rfl | with_reducible assumption) ?_
          refine o_iload_n hC dX8_makePick_63 (by rfl) ?_
          refine o_ialdN (t0 := 0) hC rfl dX8_makePick_64 (by repeat (first | with_reducible assumption | (rw [rl_u_s]; done) | (rw [rl_u_s]; rfl) | rw [rl_u_n (by first | with_reducible assumption | omega)])) (by omega) (by decide) ?_
          refine o_if_ne (tgt := 83) hC dX8_makePick_65 (by decide) (fun c_65 => ?_) (fun c_65 => ?_)
          · refine o_aload_n hC dX8_makePick_83 (by rfl) ?_
            refine o_getf hC (fX8_31 hC rfl) dX8_makePick_84 (by repeat (first | with_reducible assumption | (rw [rl_u_s]; done) | (rw [rl_u_s]; rfl) | rw [rl_u_n (by first | with_reducible assumption | omega)])) (by first | rfl | with_reducible assumption) ?_
            refine o_iload_n hC dX8_makePick_87 (by rfl) ?_
            refine o_ialdN (t0 := 0) hC rfl dX8_makePick_88 (by repeat (first | with_reducible assumption | (rw [rl_u_s]; done) | (rw [rl_u_s]; rfl) | rw [rl_u_n (by first | with_reducible assumption | omega)])) (by omega) (by decide) ?_
            refine o_iconst (v := nI 1) hC dX8_makePick_89 (by decide +kernel) ?_
            refine o_icmp_ne (tgt := 108) hC dX8_makePick_90 (by decide) (fun c_90 => ?_) (fun c_90 => ?_)
            · refine o_iload hC dX8_makePick_108 (by rfl) ?_
              refine o_iload hC dX8_makePick_110 (by rfl) ?_
              refine o_icmp_le (tgt := 119) hC dX8_makePick_112 (by decide) (fun c_112 => ?_) (fun c_112 => ?_)
              · refine o_iconst (v := nI 0) hC dX8_makePick_119 (by decide +kernel) ?_
                refine o_istore hC dX8_makePick_120 (Nat.le_of_ble_eq_true rfl) ?_
                first
                | exact go _ _ _ (by rw [eX]; unfold pcnd; rw [if_neg c_65, if_neg c_90, decide_eq_true c_112]; rfl)
                | exact go _ _ _ (by rw [eX]; unfold pcnd; rw [if_neg c_65, if_neg c_90, decide_eq_false c_112]; rfl)
                | exact go _ _ _ (by rw [eX]; unfold pcnd; rw [if_neg c_65, if_pos c_90, decide_eq_false c_97]; rfl)
                | exact go _ _ _ (by rw [eX]; unfold pcnd; rw [if_neg c_65, if_pos c_90, decide_eq_true c_97]; rfl)
                | exact go _ _ _ (by rw [eX]; unfold pcnd; rw [if_pos c_65, decide_eq_true c_72]; rfl)
                | exact go _ _ _ (by rw [eX]; unfold pcnd; rw [if_pos c_65, decide_eq_false c_72]; rfl)
              · refine o_iconst (v := nI 1) hC dX8_makePick_115 (by decide +kernel) ?_
                refine o_goto (tgt := 120) hC dX8_makePick_116 (by decide) ?_
                refine o_istore hC dX8_makePick_120 (Nat.le_of_ble_eq_true rfl) ?_
                first
                | exact go _ _ _ (by rw [eX]; unfold pcnd; rw [if_neg c_65, if_neg c_90, decide_eq_true c_112]; rfl)
                | exact go _ _ _ (by rw [eX]; unfold pcnd; rw [if_neg c_65, if_neg c_90, decide_eq_false c_112]; rfl)
                | exact go _ _ _ (by rw [eX]; unfold pcnd; rw [if_neg c_65, if_pos c_90, decide_eq_false c_97]; rfl)
                | exact go _ _ _ (by rw [eX]; unfold pcnd; rw [if_neg c_65, if_pos c_90, decide_eq_true c_97]; rfl)
                | exact go _ _ _ (by rw [eX]; unfold pcnd; rw [if_pos c_65, decide_eq_true c_72]; rfl)
                | exact go _ _ _ (by rw [eX]; unfold pcnd; rw [if_pos c_65, decide_eq_false c_72]; rfl)
            · refine o_iload hC dX8_makePick_93 (by rfl) ?_
              refine o_iload hC dX8_makePick_95 (by rfl) ?_
              refine o_icmp_ne (tgt := 104) hC dX8_makePick_97 (by decide) (fun c_97 => ?_) (fun c_97 => ?_)
              · refine o_iconst (v := nI 0) hC dX8_makePick_104 (by decide +kernel) ?_
                refine o_goto (tgt := 120) hC dX8_makePick_105 (by decide) ?_
                refine o_istore hC dX8_makePick_120 (Nat.le_of_ble_eq_true rfl) ?_
                first
                | exact go _ _ _ (by rw [eX]; unfold pcnd; rw [if_neg c_65, if_neg c_90, decide_eq_true c_112]; rfl)
                | exact go _ _ _ (by rw [eX]; unfold pcnd; rw [if_neg c_65, if_neg c_90, decide_eq_false c_112]; rfl)
                | exact go _ _ _ (by rw [eX]; unfold pcnd; rw [if_neg c_65, if_pos c_90, decide_eq_false c_97]; rfl)
                | exact go _ _ _ (by rw [eX]; unfold pcnd; rw [if_neg c_65, if_pos c_90, decide_eq_true c_97]; rfl)
                | exact go _ _ _ (by rw [eX]; unfold pcnd; rw [if_pos c_65, decide_eq_true c_72]; rfl)
                | exact go _ _ _ (by rw [eX]; unfold pcnd; rw [if_pos c_65, decide_eq_false c_72]; rfl)
              · refine o_iconst (v := nI 1) hC dX8_makePick_100 (by decide +kernel) ?_
                refine o_goto (tgt := 120) hC dX8_makePick_101 (by decide) ?_
                refine o_istore hC dX8_makePick_120 (Nat.le_of_ble_eq_true rfl) ?_
                first
                | exact go _ _ _ (by rw [eX]; unfold pcnd; rw [if_neg c_65, if_neg c_90, decide_eq_true c_112]; rfl)
                | exact go _ _ _ (by rw [eX]; unfold pcnd; rw [if_neg c_65, if_neg c_90, decide_eq_false c_112]; rfl)
                | exact go _ _ _ (by rw [eX]; unfold pcnd; rw [if_neg c_65, if_pos c_90, decide_eq_false c_97]; rfl)
                | exact go _ _ _ (by rw [eX]; unfold pcnd; rw [if_neg c_65, if_pos c_90, decide_eq_true c_97]; rfl)
                | exact go _ _ _ (by rw [eX]; unfold pcnd; rw [if_pos c_65, decide_eq_true c_72]; rfl)
                | exact go _ _ _ (by rw [eX]; unfold pcnd; rw [if_pos c_65, decide_eq_false c_72]; rfl)
          · refine o_iload hC dX8_makePick_68 (by rfl) ?_
            refine o_iload hC dX8_makePick_70 (by rfl) ?_
            refine o_icmp_ge (tgt := 79) hC dX8_makePick_72 (by decide) (fun c_72 => ?_) (fun c_72 => ?_)
            · refine o_iconst (v := nI 0) hC dX8_makePick_79 (by decide +kernel) ?_
              refine o_goto (tgt := 120) hC dX8_makePick_80 (by decide) ?_
              refine o_istore hC dX8_makePick_120 (Nat.le_of_ble_eq_true rfl) ?_
              first
              | exact go _ _ _ (by rw [eX]; unfold pcnd; rw [if_neg c_65, if_neg c_90, decide_eq_true c_112]; rfl)
              | exact go _ _ _ (by rw [eX]; unfold pcnd; rw [if_neg c_65, if_neg c_90, decide_eq_false c_112]; rfl)
              | exact go _ _ _ (by rw [eX]; unfold pcnd; rw [if_neg c_65, if_pos c_90, decide_eq_false c_97]; rfl)
              | exact go _ _ _ (by rw [eX]; unfold pcnd; rw [if_neg c_65, if_pos c_90, decide_eq_true c_97]; rfl)
              | exact go _ _ _ (by rw [eX]; unfold pcnd; rw [if_pos c_65, decide_eq_true c_72]; rfl)
              | exact go _ _ _ (by rw [eX]; unfold pcnd; rw [if_pos c_65, decide_eq_false c_72]; rfl)
            · refine o_iconst (v := nI 1) hC dX8_makePick_75 (by decide +kernel) ?_
              refine o_goto (tgt := 120) hC dX8_makePick_76 (by decide) ?_
              refine o_istore hC dX8_makePick_120 (Nat.le_of_ble_eq_true rfl) ?_
              first
              | exact go _ _ _ (by rw [eX]; unfold pcnd; rw [if_neg c_65, if_neg c_90, decide_eq_true c_112]; rfl)
              | exact go _ _ _ (by rw [eX]; unfold pcnd; rw [if_neg c_65, if_neg c_90, decide_eq_false c_112]; rfl)
              | exact go _ _ _ (by rw [eX]; unfold pcnd; rw [if_neg c_65, if_pos c_90, decide_eq_false c_97]; rfl)
              | exact go _ _ _ (by rw [eX]; unfold pcnd; rw [if_neg c_65, if_pos c_90, decide_eq_true c_97]; rfl)
              | exact go _ _ _ (by rw [eX]; unfold pcnd; rw [if_pos c_65, decide_eq_true c_72]; rfl)
              | exact go _ _ _ (by rw [eX]; unfold pcnd; rw [if_pos c_65, decide_eq_false c_72]; rfl)
  show rl_G X (rl_e D ids H0) 0 [some (.ref m), some (.int (nI a)), some (.int (nI b)), none, none, none, none] [] h n 0 0
  refine o_iconst (v := nI 0) hC dX8_makePick_0 (by decide +kernel) ?_
  refine o_istore_n hC dX8_makePick_1 (Nat.le_of_ble_eq_true rfl) ?_
  exact loop tb.length 0 _ _ _ A r0 _ _ _ (by omega) hq mop.rf hr0 rfl
end
section
/-! THE MODEL, functionally: makeScan -/
/-- what SCAN gives of n rows from t on -/
abbrev scl (rs rc : Nat → Int32) (q : Int32) (w t n : Nat) : List (List Int32 × Option (List tT)) := ((List.range' t n).filter (fun r => decide (rs r = q))).map (fun r => (rcl (fun c => rc (4 * r + c)) w, some [(tbt r, (0 : Int64))]))
theorem wok_s (x : Int64) : wok [(x, (0 : Int64))] := ⟨List.pairwise_singleton _ _, fun e he => by rw [List.mem_singleton.mp he]; exact Int64.and_zero, List.pairwise_singleton _ _, Nat.le_of_ble_eq_true rfl⟩
theorem mws_s {A : md_D} {a : Nat} {x : Int64} (h1 : A.2.2.2.1 a = nI 1) (h2 : A.2.2.2.2.1 (12 * a) = x) (h3 : A.2.2.2.2.2.1 (12 * a) = 0) : mws A a [(x, (0 : Int64))] := by
  refine ⟨h1, Nat.le_of_ble_eq_true rfl, ?_⟩
  show [(A.2.2.2.2.1 (12 * a + 0), A.2.2.2.2.2.1 (12 * a + 0))] = _
  rw [Nat.add_zero, h2, h3]

set_option maxHeartbeats 4000000 in
set_option maxRecDepth 100000 in
theorem cf_X8_makeScan (l : Launch) (D : va_G) (ids : Nat → ClassId) (H0 : Heap) (h : rl_H) (n : Nat) (m : Nat) (T : md_T) (fu : Int32) (k : Nat) (A : md_D) (S : md_A) (a w rr : Nat) (q : Int32) (r0 : Option (List arow)) (hq : mf ids h h m T fu k A) (hs : md_sa ids h m S) (ha : a < 16) (hw : S.2.2.2.2.2.2.2.2.2.2 a = nI w) (hw6 : w ≤ 6) (hw4 : w ≤ 4) (hrr : T.2.2.1 = nI rr) (hr36 : rr ≤ 36) (hr0 : mst A a w fu r0) : rl_Met l (rl_e D ids H0) rl_BW rl_Ns yX8_makeScan cX8_makeScan 5 none ({ frames := 4, cells := 0, slots := 0, locals := 98 }) [.ref m, .int (nI a), .int q] h n (fun v h' n' => ∃ (fu' : Int32) (k' : Nat) (A' : md_D), v = none ∧ n' = n ∧ mf ids h h' m T fu' k' A' ∧ mop A A' a ∧ mst A' a w fu' (r0.bind (fun x => aall x (scl S.2.1 S.2.2.1 q w 0 rr)))) := by
  refine rl_Met.of (by decide +kernel) (Nat.le_of_ble_eq_true rfl) ?_
  intro X hC hB
  have loop : ∀ (mm t : Nat) (h1 : rl_H) (f1 : Int32) (k1 : Nat) (A1 : md_D) (r1 : Option (List arow)) (o4 : Option Value), t + mm = rr → mf ids h h1 m T f1 k1 A1 → mop A A1 a → mst A1 a w f1 r1 → r0.bind (fun x => aall x (scl S.2.1 S.2.2.1 q w 0 rr)) = r1.bind (fun x => aall x (scl S.2.1 S.2.2.1 q w t mm)) → rl_G X (rl_e D ids H0) 2 [some (.ref m), some (.int (nI a)), some (.int q), some (.int (nI t)), o4] [] h1 n 0 0 := by
    intro mm
    induction mm with
    | zero =>
      intro t h1 f1 k1 A1 r1 o4 hm hq1 hop hst he
      have hs1 := hq1.1.sa hs
      obtain ⟨hm0, g12, g13, g14, g15, g16, g17, g18, g19, g20, g21, g22⟩ := id hq1
      have g0 := hm0.1
      have gk := hm0.2.1
      obtain ⟨a1, a2, a3, a4, a5, a6, a7, a8, a9, a10, a11⟩ := id hs1
      refine o_iload_n hC dX8_makeScan_2 (by rfl) ?_
      refine o_aload_n hC dX8_makeScan_3 (by rfl) ?_
      refine o_getf hC (fX8_112 hC rfl) dX8_makeScan_4 (by repeat (first | with_reducible assumption | (rw [rl_u_s]; done) | (rw [rl_u_s]; rfl) | rw [rl_u_n (by first | with_reducible assumption | omega)])) (by first | rfl | with_reducible assumption) ?_
      rw [hrr]
      refine o_icmp_ge (tgt := 92) hC dX8_makeScan_7 (by decide) (fun c_7 => ?_) (fun c_7 => ?_)
      · refine o_vret hC hB dX8_makeScan_92 (Nat.le_of_ble_eq_true rfl) (Nat.le_of_ble_eq_true rfl) ?_
        refine ⟨f1, k1, A1, rfl, rfl, hq1, hop, ?_⟩
        rw [he, show r1.bind (fun x => aall x (scl S.2.1 S.2.2.1 q w t 0)) = r1 by cases r1 <;> rfl]
        exact hst
      · exact absurd (nI_le (by omega) (by omega)) c_7
    | succ mm ih =>
      intro t h1 f1 k1 A1 r1 o4 hm hq1 hop hst he
      have loopC : ∀ (m2 c : Nat) (h2 : rl_H) (tp2 : Nat → Int32), c + m2 = 4 → f1 = nI 0 → S.2.1 t = q → mf ids h h2 m T f1 k1 (A1.1, A1.2.1, A1.2.2.1, A1.2.2.2.1, A1.2.2.2.2.1, A1.2.2.2.2.2.1, A1.2.2.2.2.2.2.1, A1.2.2.2.2.2.2.2.1, tp2, A1.2.2.2.2.2.2.2.2.2.1, A1.2.2.2.2.2.2.2.2.2.2) → (∀ i : Nat, i < c → tp2 i = S.2.2.1 (4 * t + i)) → rl_G X (rl_e D ids H0) 30 [some (.ref m), some (.int (nI a)), some (.int q), some (.int (nI t)), some (.int (nI c))] [] h2 n 0 0 := by
        intro m2
        induction m2 with
        | zero =>
          intro c h2 tp2 hm2 hf1 hsq hq2 htp
          have ec : c = 4 := by omega
          subst ec
          rcases hst with ⟨tab1, rfl, -, ht1, hk1⟩ | ⟨-, hf2⟩
          rotate_left
          · exact absurd (hf1.symm.trans hf2) (by decide +kernel)
          subst hf1
          refine o_iload hC dX8_makeScan_30 (by rfl) ?_
          refine o_iconst (v := nI 4) hC dX8_makeScan_32 (by decide +kernel) ?_
          refine o_icmp_ge (tgt := 60) hC dX8_makeScan_33 (by decide) (fun c_33 => ?_) (fun c_33 => ?_)
          · refine o_aload_n hC dX8_makeScan_60 (by rfl) ?_
            refine o_sipush (v := nI 1360) hC dX8_makeScan_61 (by decide +kernel) ?_
            refine o_callV1 hC rl_BW_good rl_Ns_nw (by exact hB.2.2.2.2.2) YX8_truth IX8_truth VX8_truth (mX8_103 hC) (by rw [hB.1]; exact cf_X8_truth l D ids H0 _ _ m T _ _ _ 1360 hq2.rf (by decide)) (by exact hq2.1.1) rfl rfl (Nat.le_of_ble_eq_true rfl) (by rw [hB.2.1]; first | exact Nat.le_of_ble_eq_true rfl | (dsimp only; omega)) (by rw [hB.2.1]; first | exact Nat.le_of_ble_eq_true rfl | (dsimp only; omega)) (by rw [hB.2.1]; first | exact Nat.le_of_ble_eq_true rfl | (dsimp only; omega)) (by rw [hB.2.1]; first | exact Nat.le_of_ble_eq_true rfl | (dsimp only; omega)) dX8_makeScan_64 (fun v h_64 n_64 p_64 => ?_)
            obtain ⟨rfl, rfl, q64⟩ := p_64
            have hq3 := hq2.tr q64
            obtain ⟨-, g12, g13, g14, g15, g16, g17, g18, g19, g20, g21, g22⟩ := id hq3
            have g03 := hq3.1.1
            try dsimp only [Option.toList, List.cons_append, List.nil_append]
            refine o_aload_n hC dX8_makeScan_67 (by rfl) ?_
            refine o_getf hC (fX8_56 hC rfl) dX8_makeScan_68 (by repeat (first | with_reducible assumption | (rw [rl_u_s]; done) | (rw [rl_u_s]; rfl) | rw [rl_u_n (by first | with_reducible assumption | omega)])) (by first | rfl | with_reducible assumption) ?_
            refine o_sipush (v := nI 16320) hC dX8_makeScan_71 (by decide +kernel) ?_
            refine o_lconst (v := 1) hC dX8_makeScan_74 (by decide +kernel) ?_
            refine o_iload_n hC dX8_makeScan_75 (by rfl) ?_
            refine o_lshl hC dX8_makeScan_76 ?_
            refine o_lastN (t0 := 1) hC rfl dX8_makeScan_77 (by repeat (first | with_reducible assumption | (rw [rl_u_s]; done) | (rw [rl_u_s]; rfl) | rw [rl_u_n (by first | with_reducible assumption | omega)])) (by omega) (by decide) ?_
            have hq4 := hq3.s16 (vp_updL (vp_updL A1.2.2.2.2.1 (12 * 1360) 0) 16320 ((1 : Int64) <<< ((nI t).toInt64 &&& 63)))
            have hs4 := hq4.1.sa hs
            have tl1 := hk1.2.2
            have hws : mws (A1.1, A1.2.1, A1.2.2.1, upd A1.2.2.2.1 1360 (nI 1), (vp_updL (vp_updL A1.2.2.2.2.1 (12 * 1360) 0) 16320 ((1 : Int64) <<< ((nI t).toInt64 &&& 63))), vp_updL A1.2.2.2.2.2.1 (12 * 1360) 0, A1.2.2.2.2.2.2.1, A1.2.2.2.2.2.2.2.1, tp2, A1.2.2.2.2.2.2.2.2.2.1, A1.2.2.2.2.2.2.2.2.2.2) 1360 [(((1 : Int64) <<< ((nI t).toInt64 &&& 63)), (0 : Int64))] := mws_s (upd_at (f := A1.2.2.2.1) (k := 1360) (x := nI 1)) (up_at (f := vp_updL A1.2.2.2.2.1 (12 * 1360) 0) (k := 16320) (x := ((1 : Int64) <<< ((nI t).toInt64 &&& 63)))) (up_at (f := A1.2.2.2.2.2.1) (k := 16320) (x := 0))
            have hop4 : mop A1 (A1.1, A1.2.1, A1.2.2.1, upd A1.2.2.2.1 1360 (nI 1), (vp_updL (vp_updL A1.2.2.2.2.1 (12 * 1360) 0) 16320 ((1 : Int64) <<< ((nI t).toInt64 &&& 63))), vp_updL A1.2.2.2.2.2.1 (12 * 1360) 0, A1.2.2.2.2.2.2.1, A1.2.2.2.2.2.2.2.1, tp2, A1.2.2.2.2.2.2.2.2.2.1, A1.2.2.2.2.2.2.2.2.2.2) a := ⟨fun _ _ => rfl, fun _ _ => rfl, rfl, fun i _ h2 => if_neg (by omega), fun x _ h2 => ⟨(up_ne (by omega)).trans (up_ne (by omega)), up_ne (by omega)⟩, rfl⟩
            have ht4 : mtb (A1.1, A1.2.1, A1.2.2.1, upd A1.2.2.2.1 1360 (nI 1), (vp_updL (vp_updL A1.2.2.2.2.1 (12 * 1360) 0) 16320 ((1 : Int64) <<< ((nI t).toInt64 &&& 63))), vp_updL A1.2.2.2.2.2.1 (12 * 1360) 0, A1.2.2.2.2.2.2.1, A1.2.2.2.2.2.2.2.1, tp2, A1.2.2.2.2.2.2.2.2.2.1, A1.2.2.2.2.2.2.2.2.2.2) a w tab1 := ⟨ht1.1, fun j hj => (ht1.2 j hj).of hw6 (fun _ _ _ => rfl) (fun H => have l12 := H.2.1; ⟨(if_neg (by omega)).trans H.1, H.2.1, (tls_eq (fun i hi => ⟨(up_ne (by omega)).trans (up_ne (by omega)), up_ne (by omega)⟩)).trans H.2.2⟩)⟩
            have ekey : rcl tp2 w = rcl (fun c => S.2.2.1 (4 * t + c)) w := rsg_eq (fun i _ hi => htp i (by omega))
            refine o_aload_n hC dX8_makeScan_78 (by rfl) ?_
            refine o_iload_n hC dX8_makeScan_79 (by rfl) ?_
            refine o_sipush (v := nI 1360) hC dX8_makeScan_80 (by decide +kernel) ?_
            refine o_callV2 hC rl_BW_good rl_Ns_nw (by exact hB.2.2.2.2.2) YX8_comes IX8_comes VX8_comes (mX8_178 hC) (by rw [hB.1]; exact cf_X8_comes l D ids H0 _ _ m T _ _ _ S a 1360 w _ _ hq4.rf hs4 (by omega) (by omega) (by omega) hw hw6 rfl ht4 hk1 hws (wok_s _)) (by exact hq4.1.1) rfl rfl (Nat.le_of_ble_eq_true rfl) (by rw [hB.2.1]; first | exact Nat.le_of_ble_eq_true rfl | (dsimp only; omega)) (by rw [hB.2.1]; first | exact Nat.le_of_ble_eq_true rfl | (dsimp only; omega)) (by rw [hB.2.1]; first | exact Nat.le_of_ble_eq_true rfl | (dsimp only; omega)) (by rw [hB.2.1]; first | exact Nat.le_of_ble_eq_true rfl | (dsimp only; omega)) dX8_makeScan_83 (fun v h_83 n_83 p_83 => ?_)
            obtain ⟨f83, k83, A4, rfl, rfl, q83, r83, u83⟩ := p_83
            try dsimp only [Option.toList, List.cons_append, List.nil_append]
            refine o_iinc hC dX8_makeScan_86 (by rfl) (rl_inc _) (Nat.le_of_ble_eq_true rfl) ?_
            refine o_goto (tgt := 2) hC dX8_makeScan_89 (by decide) ?_
            have u9 : (∃ tab' : List arow, aput tab1 (rcl tp2 w) [(((1 : Int64) <<< ((nI t).toInt64 &&& 63)), (0 : Int64))] = some tab' ∧ f83 = nI 0 ∧ mtb A4 a w tab') ∨ (aput tab1 (rcl tp2 w) [(((1 : Int64) <<< ((nI t).toInt64 &&& 63)), (0 : Int64))] = none ∧ f83 = nI 1) := u83
            rw [ekey] at u9
            refine ih (t + 1) _ f83 k83 A4 (aput tab1 (rcl (fun c => S.2.2.1 (4 * t + c)) w) [(((1 : Int64) <<< ((nI t).toInt64 &&& 63)), (0 : Int64))]) _ (by omega) (hq4.tr q83) (hop.tr (hop4.tr r83.op)) ?_ ?_
            · rcases u9 with ⟨tab', h1, h2, h3⟩ | ⟨h1, h2⟩
              · exact Or.inl ⟨tab', h1, h2, h3, aput_ok hk1 (rsg_len _ 0 w) (wok_s _) h1⟩
              · exact Or.inr ⟨h1, h2⟩
            · rw [he]
              unfold scl
              rw [List.range'_succ, List.filter_cons_of_pos (p := fun r => decide (S.2.1 r = q)) (decide_eq_true hsq)]
              rfl
          · exact absurd (nI_le (by omega) (by omega)) c_33
        | succ m2 ih2 =>
          intro c h2 tp2 hm2 hf1 hsq hq2 htp
          have hs1 := hq2.1.sa hs
          obtain ⟨hm0, g12, g13, g14, g15, g16, g17, g18, g19, g20, g21, g22⟩ := id hq2
          have g0 := hm0.1
          have gk := hm0.2.1
          obtain ⟨a1, a2, a3, a4, a5, a6, a7, a8, a9, a10, a11⟩ := id hs1
          refine o_iload hC dX8_makeScan_30 (by rfl) ?_
          refine o_iconst (v := nI 4) hC dX8_makeScan_32 (by decide +kernel) ?_
          refine o_icmp_ge (tgt := 60) hC dX8_makeScan_33 (by decide) (fun c_33 => ?_) (fun c_33 => ?_)
          · exact absurd c_33 (nI_ge (by omega) (by omega))
          · refine o_aload_n hC dX8_makeScan_36 (by rfl) ?_
            refine o_getf hC (fX8_69 hC rfl) dX8_makeScan_37 (by repeat (first | with_reducible assumption | (rw [rl_u_s]; done) | (rw [rl_u_s]; rfl) | rw [rl_u_n (by first | with_reducible assumption | omega)])) (by first | rfl | with_reducible assumption) ?_
            refine o_iload hC dX8_makeScan_40 (by rfl) ?_
            refine o_aload_n hC dX8_makeScan_42 (by rfl) ?_
            refine o_getf hC (fX8_16 hC rfl) dX8_makeScan_43 (by repeat (first | with_reducible assumption | (rw [rl_u_s]; done) | (rw [rl_u_s]; rfl) | rw [rl_u_n (by first | with_reducible assumption | omega)])) (by first | rfl | with_reducible assumption) ?_
            refine o_iconst (v := nI 4) hC dX8_makeScan_46 (by decide +kernel) ?_
            refine o_iload_n hC dX8_makeScan_47 (by rfl) ?_
            refine o_imul hC dX8_makeScan_48 ?_
            try rw [nI_mul]
            refine o_iload hC dX8_makeScan_49 (by rfl) ?_
            refine o_iadd hC dX8_makeScan_51 ?_
            try rw [nI_add]
            refine o_ialdN (t0 := 0) hC rfl dX8_makeScan_52 (by repeat (first | with_reducible assumption | (rw [rl_u_s]; done) | (rw [rl_u_s]; rfl) | rw [rl_u_n (by first | with_reducible assumption | omega)])) (by omega) (by decide) ?_
            refine o_iastN (t0 := 0) hC rfl dX8_makeScan_53 (by repeat (first | with_reducible assumption | (rw [rl_u_s]; done) | (rw [rl_u_s]; rfl) | rw [rl_u_n (by first | with_reducible assumption | omega)])) (by omega) (by decide) ?_
            refine o_iinc hC dX8_makeScan_54 (by rfl) (rl_inc _) (Nat.le_of_ble_eq_true rfl) ?_
            refine o_goto (tgt := 30) hC dX8_makeScan_57 (by decide) ?_
            refine ih2 (c + 1) _ _ (by omega) hf1 hsq (hq2.s20 _) (fun i hi => ?_)
            by_cases e : i = c
            · subst e
              exact if_pos rfl
            · exact (if_neg e).trans (htp i (by omega))
      have hs1 := hq1.1.sa hs
      obtain ⟨hm0, g12, g13, g14, g15, g16, g17, g18, g19, g20, g21, g22⟩ := id hq1
      have g0 := hm0.1
      have gk := hm0.2.1
      obtain ⟨a1, a2, a3, a4, a5, a6, a7, a8, a9, a10, a11⟩ := id hs1
      refine o_iload_n hC dX8_makeScan_2 (by rfl) ?_
      refine o_aload_n hC dX8_makeScan_3 (by rfl) ?_
      refine o_getf hC (fX8_112 hC rfl) dX8_makeScan_4 (by repeat (first | with_reducible assumption | (rw [rl_u_s]; done) | (rw [rl_u_s]; rfl) | rw [rl_u_n (by first | with_reducible assumption | omega)])) (by first | rfl | with_reducible assumption) ?_
      rw [hrr]
      refine o_icmp_ge (tgt := 92) hC dX8_makeScan_7 (by decide) (fun c_7 => ?_) (fun c_7 => ?_)
      · refine o_vret hC hB dX8_makeScan_92 (Nat.le_of_ble_eq_true rfl) (Nat.le_of_ble_eq_true rfl) ?_
        exact absurd c_7 (nI_ge (by omega) (by omega))
      · refine o_aload_n hC dX8_makeScan_10 (by rfl) ?_
        refine o_getf hC (fX8_91 hC rfl) dX8_makeScan_11 (by repeat (first | with_reducible assumption | (rw [rl_u_s]; done) | (rw [rl_u_s]; rfl) | rw [rl_u_n (by first | with_reducible assumption | omega)])) (by first | rfl | with_reducible assumption) ?_
        refine o_if_ne (tgt := 92) hC dX8_makeScan_14 (by decide) (fun c_14 => ?_) (fun c_14 => ?_)
        · refine o_vret hC hB dX8_makeScan_92 (Nat.le_of_ble_eq_true rfl) (Nat.le_of_ble_eq_true rfl) ?_
          rcases hst with ⟨tab1, rfl, rfl, ht1, hk1⟩ | ⟨rfl, rfl⟩
          · exact absurd rfl c_14
          · exact ⟨_, k1, A1, rfl, rfl, hq1, hop, Or.inr ⟨he, rfl⟩⟩
        · refine o_aload_n hC dX8_makeScan_17 (by rfl) ?_
          refine o_getf hC (fX8_13 hC rfl) dX8_makeScan_18 (by repeat (first | with_reducible assumption | (rw [rl_u_s]; done) | (rw [rl_u_s]; rfl) | rw [rl_u_n (by first | with_reducible assumption | omega)])) (by first | rfl | with_reducible assumption) ?_
          refine o_iload_n hC dX8_makeScan_21 (by rfl) ?_
          refine o_ialdN (t0 := 0) hC rfl dX8_makeScan_22 (by repeat (first | with_reducible assumption | (rw [rl_u_s]; done) | (rw [rl_u_s]; rfl) | rw [rl_u_n (by first | with_reducible assumption | omega)])) (by omega) (by decide) ?_
          refine o_iload_n hC dX8_makeScan_23 (by rfl) ?_
          refine o_icmp_ne (tgt := 86) hC dX8_makeScan_24 (by decide) (fun c_24 => ?_) (fun c_24 => ?_)
          · refine o_iinc hC dX8_makeScan_86 (by rfl) (rl_inc _) (Nat.le_of_ble_eq_true rfl) ?_
            refine o_goto (tgt := 2) hC dX8_makeScan_89 (by decide) ?_
            rcases hst with hst | ⟨-, hf2⟩
            rotate_left
            · exact absurd (hf2.symm.trans c_14) (by decide +kernel)
            refine ih (t + 1) _ f1 k1 A1 r1 _ (by omega) hq1 hop (Or.inl hst) ?_
            rw [he]
            unfold scl
            rw [List.range'_succ, List.filter_cons_of_neg (p := fun r => decide (S.2.1 r = q)) (fun e => c_24 (of_decide_eq_true e))]
          · refine o_iconst (v := nI 0) hC dX8_makeScan_27 (by decide +kernel) ?_
            refine o_istore hC dX8_makeScan_28 (Nat.le_of_ble_eq_true rfl) ?_
            exact loopC 4 0 _ A1.2.2.2.2.2.2.2.2.1 (by omega) c_14 c_24 hq1 (fun i hi => absurd hi (by omega))
  show rl_G X (rl_e D ids H0) 0 [some (.ref m), some (.int (nI a)), some (.int q), none, none] [] h n 0 0
  refine o_iconst (v := nI 0) hC dX8_makeScan_0 (by decide +kernel) ?_
  refine o_istore_n hC dX8_makeScan_1 (Nat.le_of_ble_eq_true rfl) ?_
  exact loop rr 0 _ _ _ A r0 _ (by omega) hq mop.rf hr0 rfl
end
section
/-! THE MODEL, functionally: makeCols -/
/-- what COLS makes of a TUPLE -/
abbrev ccl (N w : Nat) (r : arow) : List Int32 := rcl (fun c => acg r (N / 10 ^ c % 10 - 1)) w

set_option maxHeartbeats 4000000 in
set_option maxRecDepth 100000 in
theorem cf_X8_makeCols (l : Launch) (D : va_G) (ids : Nat → ClassId) (H0 : Heap) (h : rl_H) (n : Nat) (m : Nat) (T : md_T) (fu : Int32) (k : Nat) (A : md_D) (S : md_A) (a b w wb : Nat) (tb : List arow) (r0 : Option (List arow)) (N : Nat) (hq : mf ids h h m T fu k A) (hs : md_sa ids h m S) (ha : a < 16) (hb : b < 16) (hba : b ≠ a) (hw : S.2.2.2.2.2.2.2.2.2.2 a = nI w) (hw6 : w ≤ 6) (hwb : S.2.2.2.2.2.2.2.2.2.2 b = nI wb) (hwb6 : wb ≤ 6) (hbt : mtb A b wb tb) (hbk : aok wb tb) (hr0 : mst A a w fu r0) (hnA : S.2.2.2.2.2.2.1 a = nI N) (hN : N < 10 ^ 6) (hN0 : N / 10 ^ w = 0) (hNz : ∀ c : Nat, c < w → N / 10 ^ c ≠ 0) (hd : ∀ c : Nat, c < w → 1 ≤ N / 10 ^ c % 10 ∧ N / 10 ^ c % 10 ≤ wb) : rl_Met l (rl_e D ids H0) rl_BW rl_Ns yX8_makeCols cX8_makeCols 6 none ({ frames := 4, cells := 0, slots := 0, locals := 98 }) [.ref m, .int (nI a), .int (nI b)] h n (fun v h' n' => ∃ (fu' : Int32) (k' : Nat) (A' : md_D), v = none ∧ n' = n ∧ mf ids h h' m T fu' k' A' ∧ mop A A' a ∧ mst A' a w fu' (r0.bind (fun x => aall x (tb.map (fun r => (ccl N w r, some r.2)))))) := by
  have tl80 := hbk.2.2
  refine rl_Met.of (by decide +kernel) (Nat.le_of_ble_eq_true rfl) ?_
  intro X hC hB
  have loop : ∀ (mm t : Nat) (h1 : rl_H) (f1 : Int32) (k1 : Nat) (A1 : md_D) (r1 : Option (List arow)) (o4 o5 : Option Value), t + mm = tb.length → mf ids h h1 m T f1 k1 A1 → mop A A1 a → mst A1 a w f1 r1 → r0.bind (fun x => aall x (tb.map (fun r => (ccl N w r, some r.2)))) = r1.bind (fun x => aall x ((tb.map (fun r => (ccl N w r, some r.2))).drop t)) → rl_G X (rl_e D ids H0) 2 [some (.ref m), some (.int (nI a)), some (.int (nI b)), some (.int (nI t)), o4, o5] [] h1 n 0 0 := by
    intro mm
    induction mm with
    | zero =>
      intro t h1 f1 k1 A1 r1 o4 o5 hm hq1 hop hst he
      have et : t = tb.length := by omega
      subst et
      have hTb := hop.tb hwb6 hbk.2.2 (by omega) hbt hba
      have hs1 := hq1.1.sa hs
      obtain ⟨hm0, g12, g13, g14, g15, g16, g17, g18, g19, g20, g21, g22⟩ := id hq1
      have g0 := hm0.1
      have gk := hm0.2.1
      obtain ⟨a1, a2, a3, a4, a5, a6, a7, a8, a9, a10, a11⟩ := id hs1
      refine o_iload_n hC dX8_makeCols_2 (by rfl) ?_
      refine o_aload_n hC dX8_makeCols_3 (by rfl) ?_
      refine o_getf hC (fX8_46 hC rfl) dX8_makeCols_4 (by repeat (first | with_reducible assumption | (rw [rl_u_s]; done) | (rw [rl_u_s]; rfl) | rw [rl_u_n (by first | with_reducible assumption | omega)])) (by first | rfl | with_reducible assumption) ?_
      refine o_iload_n hC dX8_makeCols_7 (by rfl) ?_
      refine o_ialdN (t0 := 0) (k := b) hC rfl dX8_makeCols_8 (by repeat (first | with_reducible assumption | (rw [rl_u_s]; done) | (rw [rl_u_s]; rfl) | rw [rl_u_n (by first | with_reducible assumption | omega)])) (by omega) (by decide) ?_
      rw [hTb.1]
      refine o_icmp_ge (tgt := 85) hC dX8_makeCols_9 (by decide) (fun c_9 => ?_) (fun c_9 => ?_)
      · refine o_vret hC hB dX8_makeCols_85 (Nat.le_of_ble_eq_true rfl) (Nat.le_of_ble_eq_true rfl) ?_
        refine ⟨f1, k1, A1, rfl, rfl, hq1, hop, ?_⟩
        rw [he, show r1.bind (fun x => aall x ((tb.map (fun r => (ccl N w r, some r.2))).drop tb.length)) = r1 by rw [List.drop_eq_nil_of_le (by rw [List.length_map]; exact Nat.le_refl _)]; cases r1 <;> rfl]
        exact hst
      · exact absurd (nI_le (by omega) (by omega)) c_9
    | succ mm ih =>
      intro t h1 f1 k1 A1 r1 o4 o5 hm hq1 hop hst he
      have hTb := hop.tb hwb6 hbk.2.2 (by omega) hbt hba
      have hrt := hbk.2.1 _ (List.getElem_mem (show t < tb.length by omega))
      rw [← ark_at] at hrt
      have hrw := hTb.2 t (by omega)
      have loopC : ∀ (m2 c : Nat) (h2 : rl_H) (tp2 : Nat → Int32), c + m2 = w → f1 = nI 0 → mf ids h h2 m T f1 k1 (A1.1, A1.2.1, A1.2.2.1, A1.2.2.2.1, A1.2.2.2.2.1, A1.2.2.2.2.2.1, A1.2.2.2.2.2.2.1, A1.2.2.2.2.2.2.2.1, tp2, A1.2.2.2.2.2.2.2.2.2.1, A1.2.2.2.2.2.2.2.2.2.2) → (∀ i : Nat, i < c → tp2 i = acg (ark tb t) (N / 10 ^ i % 10 - 1)) → rl_G X (rl_e D ids H0) 30 [some (.ref m), some (.int (nI a)), some (.int (nI b)), some (.int (nI t)), some (.int (nI c)), some (.int (nI (N / 10 ^ c)))] [] h2 n 0 0 := by
        intro m2
        induction m2 with
        | zero =>
          intro c h2 tp2 hm2 hf1 hq2 htp
          have ec : c = w := by omega
          subst ec
          rw [hN0]
          have hs2 := hq2.1.sa hs
          rcases hst with ⟨tab1, rfl, -, ht1, hk1⟩ | ⟨-, hf2⟩
          rotate_left
          · exact absurd (hf1.symm.trans hf2) (by decide +kernel)
          subst hf1
          have ekey : rcl tp2 c = ccl N c (ark tb t) := rsg_eq (fun i _ hi => htp i (by omega))
          refine o_iload hC dX8_makeCols_30 (by rfl) ?_
          refine o_if_le (tgt := 68) hC dX8_makeCols_32 (by decide) (fun c_32 => ?_) (fun c_32 => ?_)
          · refine o_aload_n hC dX8_makeCols_68 (by rfl) ?_
            refine o_iload_n hC dX8_makeCols_69 (by rfl) ?_
            refine o_bipush (v := nI 80) hC dX8_makeCols_70 (by decide +kernel) ?_
            refine o_iload_n hC dX8_makeCols_72 (by rfl) ?_
            refine o_imul hC dX8_makeCols_73 ?_
            try rw [nI_mul]
            refine o_iload_n hC dX8_makeCols_74 (by rfl) ?_
            refine o_iadd hC dX8_makeCols_75 ?_
            try rw [nI_add]
            refine o_callV2 hC rl_BW_good rl_Ns_nw (by exact hB.2.2.2.2.2) YX8_comes IX8_comes VX8_comes (mX8_178 hC) (by rw [hB.1]; exact cf_X8_comes l D ids H0 _ _ m T _ _ _ S a (80 * b + t) c _ _ hq2.rf hs2 (by omega) (by omega) (by omega) hw hw6 rfl ht1 hk1 hrw.2 hrt.2.1) (by exact hq2.1.1) rfl rfl (Nat.le_of_ble_eq_true rfl) (by rw [hB.2.1]; first | exact Nat.le_of_ble_eq_true rfl | (dsimp only; omega)) (by rw [hB.2.1]; first | exact Nat.le_of_ble_eq_true rfl | (dsimp only; omega)) (by rw [hB.2.1]; first | exact Nat.le_of_ble_eq_true rfl | (dsimp only; omega)) (by rw [hB.2.1]; first | exact Nat.le_of_ble_eq_true rfl | (dsimp only; omega)) dX8_makeCols_76 (fun v h_76 n_76 p_76 => ?_)
            obtain ⟨f76, k76, A4, rfl, rfl, q76, r76, u76⟩ := p_76
            try dsimp only [Option.toList, List.cons_append, List.nil_append]
            refine o_iinc hC dX8_makeCols_79 (by rfl) (rl_inc _) (Nat.le_of_ble_eq_true rfl) ?_
            refine o_goto (tgt := 2) hC dX8_makeCols_82 (by decide) ?_
            have u9 : (∃ tab' : List arow, aput tab1 (rcl tp2 c) (ark tb t).2 = some tab' ∧ f76 = nI 0 ∧ mtb A4 a c tab') ∨ (aput tab1 (rcl tp2 c) (ark tb t).2 = none ∧ f76 = nI 1) := u76
            rw [ekey] at u9
            refine ih (t + 1) _ f76 k76 A4 (aput tab1 (ccl N c (ark tb t)) (ark tb t).2) _ _ (by omega) (hq2.tr q76) (hop.tr (mop.tr ⟨fun _ _ => rfl, fun _ _ => rfl, rfl, fun _ _ _ => rfl, fun _ _ _ => ⟨rfl, rfl⟩, rfl⟩ r76.op)) ?_ ?_
            · rcases u9 with ⟨tab', h1, h2, h3⟩ | ⟨h1, h2⟩
              · exact Or.inl ⟨tab', h1, h2, h3, aput_ok hk1 (rsg_len _ 0 c) hrt.2.1 h1⟩
              · exact Or.inr ⟨h1, h2⟩
            · rw [he, ark_drop (show t < tb.length by omega)]
              rfl
          · exact absurd (by decide +kernel) c_32
        | succ m2 ih2 =>
          intro c h2 tp2 hm2 hf1 hq2 htp
          have NR : N / 10 ^ c ≤ N := Nat.div_le_self _ _
          have NL : N < 1000000 := hN
          obtain ⟨R, hR⟩ : ∃ R : Nat, R = N / 10 ^ c := ⟨_, rfl⟩
          have hR10 : N / 10 ^ (c + 1) = R / 10 := by rw [hR, Nat.div_div_eq_div_mul, Nat.pow_succ]
          have hdg := hd c (by omega)
          have hnz := hNz c (by omega)
          rw [← hR] at hdg NR hnz ⊢
          obtain ⟨hm0, g12, g13, g14, g15, g16, g17, g18, g19, g20, g21, g22⟩ := id hq2
          have g0 := hm0.1
          have gk := hm0.2.1
          refine o_iload hC dX8_makeCols_30 (by rfl) ?_
          refine o_if_le (tgt := 68) hC dX8_makeCols_32 (by decide) (fun c_32 => ?_) (fun c_32 => ?_)
          · exact absurd (show nI R ≤ nI 0 from c_32) (nI_ge (by omega) (by omega))
          · refine o_aload_n hC dX8_makeCols_35 (by rfl) ?_
            refine o_getf hC (fX8_69 hC rfl) dX8_makeCols_36 (by repeat (first | with_reducible assumption | (rw [rl_u_s]; done) | (rw [rl_u_s]; rfl) | rw [rl_u_n (by first | with_reducible assumption | omega)])) (by first | rfl | with_reducible assumption) ?_
            refine o_iload hC dX8_makeCols_39 (by rfl) ?_
            refine o_aload_n hC dX8_makeCols_41 (by rfl) ?_
            refine o_iload_n hC dX8_makeCols_42 (by rfl) ?_
            refine o_iload_n hC dX8_makeCols_43 (by rfl) ?_
            refine o_iload hC dX8_makeCols_44 (by rfl) ?_
            refine o_bipush (v := nI 10) hC dX8_makeCols_46 (by decide +kernel) ?_
            obtain ⟨e, he1⟩ : ∃ e : Nat, R % 10 = e + 1 := ⟨R % 10 - 1, by omega⟩
            have he6 : e < wb := by omega
            refine o_irem hC dX8_makeCols_48 (by decide +kernel) ?_
            rw [pk_rem (by omega) (by decide) (by decide), he1]
            refine o_iconst (v := nI 1) hC dX8_makeCols_49 (by decide +kernel) ?_
            refine o_isub hC dX8_makeCols_50 ?_
            rw [rl_pred e]
            refine o_callV3 hC rl_BW_good rl_Ns_nw (by exact hB.2.2.2.2.2) YX8_cellAt IX8_cellAt VX8_cellAt (mX8_138 hC) (by rw [hB.1]; exact cf_X8_cellAt l D ids H0 _ _ m T _ _ _ b t e hq2.rf (by omega)) (by exact hq2.rf.1.1) rfl rfl (Nat.le_of_ble_eq_true rfl) (by rw [hB.2.1]; first | exact Nat.le_of_ble_eq_true rfl | (dsimp only; omega)) (by rw [hB.2.1]; first | exact Nat.le_of_ble_eq_true rfl | (dsimp only; omega)) (by rw [hB.2.1]; first | exact Nat.le_of_ble_eq_true rfl | (dsimp only; omega)) (by rw [hB.2.1]; first | exact Nat.le_of_ble_eq_true rfl | (dsimp only; omega)) dX8_makeCols_51 (fun v h_51 n_51 p_51 => ?_)
            obtain ⟨rfl, rfl, rfl⟩ := p_51
            try dsimp only [Option.toList, List.cons_append, List.nil_append]
            refine o_iastN (t0 := 0) hC rfl dX8_makeCols_54 (by repeat (first | with_reducible assumption | (rw [rl_u_s]; done) | (rw [rl_u_s]; rfl) | rw [rl_u_n (by first | with_reducible assumption | omega)])) (by omega) (by decide) ?_
            refine o_iinc hC dX8_makeCols_55 (by rfl) (rl_inc _) (Nat.le_of_ble_eq_true rfl) ?_
            refine o_iload hC dX8_makeCols_58 (by rfl) ?_
            refine o_bipush (v := nI 10) hC dX8_makeCols_60 (by decide +kernel) ?_
            refine o_idiv hC dX8_makeCols_62 (by decide +kernel) ?_
            rw [pk_div (by omega) (by decide) (by decide), ← hR10]
            refine o_istore hC dX8_makeCols_63 (Nat.le_of_ble_eq_true rfl) ?_
            refine o_goto (tgt := 30) hC dX8_makeCols_65 (by decide) ?_
            refine ih2 (c + 1) _ _ (by omega) hf1 (hq2.s20 _) (fun i hi => ?_)
            by_cases e2 : i = c
            · subst e2
              refine (if_pos rfl).trans ?_
              show mcl A1 b t e = _
              rw [hrw.cg he6, ← hR, he1, Nat.add_sub_cancel]
            · exact (if_neg e2).trans (htp i (by omega))
      have hs1 := hq1.1.sa hs
      obtain ⟨hm0, g12, g13, g14, g15, g16, g17, g18, g19, g20, g21, g22⟩ := id hq1
      have g0 := hm0.1
      have gk := hm0.2.1
      obtain ⟨a1, a2, a3, a4, a5, a6, a7, a8, a9, a10, a11⟩ := id hs1
      refine o_iload_n hC dX8_makeCols_2 (by rfl) ?_
      refine o_aload_n hC dX8_makeCols_3 (by rfl) ?_
      refine o_getf hC (fX8_46 hC rfl) dX8_makeCols_4 (by repeat (first | with_reducible assumption | (rw [rl_u_s]; done) | (rw [rl_u_s]; rfl) | rw [rl_u_n (by first | with_reducible assumption | omega)])) (by first | rfl | with_reducible assumption) ?_
      refine o_iload_n hC dX8_makeCols_7 (by rfl) ?_
      refine o_ialdN (t0 := 0) (k := b) hC rfl dX8_makeCols_8 (by repeat (first | with_reducible assumption | (rw [rl_u_s]; done) | (rw [rl_u_s]; rfl) | rw [rl_u_n (by first | with_reducible assumption | omega)])) (by omega) (by decide) ?_
      rw [hTb.1]
      refine o_icmp_ge (tgt := 85) hC dX8_makeCols_9 (by decide) (fun c_9 => ?_) (fun c_9 => ?_)
      · refine o_vret hC hB dX8_makeCols_85 (Nat.le_of_ble_eq_true rfl) (Nat.le_of_ble_eq_true rfl) ?_
        exact absurd c_9 (nI_ge (by omega) (by omega))
      · refine o_aload_n hC dX8_makeCols_12 (by rfl) ?_
        refine o_getf hC (fX8_91 hC rfl) dX8_makeCols_13 (by repeat (first | with_reducible assumption | (rw [rl_u_s]; done) | (rw [rl_u_s]; rfl) | rw [rl_u_n (by first | with_reducible assumption | omega)])) (by first | rfl | with_reducible assumption) ?_
        refine o_if_ne (tgt := 85) hC dX8_makeCols_16 (by decide) (fun c_16 => ?_) (fun c_16 => ?_)
        · refine o_vret hC hB dX8_makeCols_85 (Nat.le_of_ble_eq_true rfl) (Nat.le_of_ble_eq_true rfl) ?_
          rcases hst with ⟨tab1, rfl, rfl, ht1, hk1⟩ | ⟨rfl, rfl⟩
          · exact absurd rfl c_16
          · exact ⟨_, k1, A1, rfl, rfl, hq1, hop, Or.inr ⟨he, rfl⟩⟩
        · refine o_iconst (v := nI 0) hC dX8_makeCols_19 (by decide +kernel) ?_
          refine o_istore hC dX8_makeCols_20 (Nat.le_of_ble_eq_true rfl) ?_
          refine o_aload_n hC dX8_makeCols_22 (by rfl) ?_
          refine o_getf hC (fX8_28 hC rfl) dX8_makeCols_23 (by repeat (first | with_reducible assumption | (rw [rl_u_s]; done) | (rw [rl_u_s]; rfl) | rw [rl_u_n (by first | with_reducible assumption | omega)])) (by first | rfl | with_reducible assumption) ?_
          refine o_iload_n hC dX8_makeCols_26 (by rfl) ?_
          refine o_ialdN (t0 := 0) (k := a) hC rfl dX8_makeCols_27 (by repeat (first | with_reducible assumption | (rw [rl_u_s]; done) | (rw [rl_u_s]; rfl) | rw [rl_u_n (by first | with_reducible assumption | omega)])) (by omega) (by decide) ?_
          rw [hnA]
          refine o_istore hC dX8_makeCols_28 (Nat.le_of_ble_eq_true rfl) ?_
          have lp := loopC w 0 _ A1.2.2.2.2.2.2.2.2.1 (by omega) c_16 hq1 (fun i hi => absurd hi (by omega))
          rw [Nat.pow_zero, Nat.div_one] at lp
          exact lp
  show rl_G X (rl_e D ids H0) 0 [some (.ref m), some (.int (nI a)), some (.int (nI b)), none, none, none] [] h n 0 0
  refine o_iconst (v := nI 0) hC dX8_makeCols_0 (by decide +kernel) ?_
  refine o_istore_n hC dX8_makeCols_1 (Nat.le_of_ble_eq_true rfl) ?_
  exact loop tb.length 0 _ _ _ A r0 _ _ (by omega) hq mop.rf hr0 rfl
end
section
/-! THE MODEL, functionally: makeJoin -/
/-- what JOIN makes of a TUPLE and a table -/
abbrev jlr (ca cb : Nat) (r : arow) (td : List arow) : List (List Int32 × Option (List tT)) := (td.filter (fun s => decide (acg r ca = acg s cb))).map (fun s => (r.1 ++ s.1, wst (tbo r.2 s.2)))
/-- what JOIN makes of two tables -/
abbrev jll (ca cb : Nat) (tb td : List arow) : List (List Int32 × Option (List tT)) := tb.flatMap (fun r => jlr ca cb r td)
theorem rcl_app {f : Nat → Int32} {X Y : List Int32} (h1 : ∀ i : Nat, i < X.length → f i = X.getD i 0) (h2 : ∀ i : Nat, i < Y.length → f (X.length + i) = Y.getD i 0) : rcl f (X.length + Y.length) = X ++ Y := by
  refine List.ext_getElem (by rw [rsg_len, List.length_append]) (fun i h3 h4 => ?_)
  have e : (rcl f (X.length + Y.length))[i] = f i := by
    simp only [rcl, rsg, List.getElem_map, List.getElem_range', Nat.zero_add, Nat.one_mul]
  rw [e]
  rw [List.length_append] at h4
  by_cases q : i < X.length
  · rw [List.getElem_append_left q, h1 i q, List.getD_eq_getElem?_getD, List.getElem?_eq_getElem q]
    rfl
  · have q2 : i - X.length < Y.length := by omega
    have := h2 (i - X.length) q2
    rw [show X.length + (i - X.length) = i by omega] at this
    rw [List.getElem_append_right (by omega), this, List.getD_eq_getElem?_getD, List.getElem?_eq_getElem q2]
    rfl
end
