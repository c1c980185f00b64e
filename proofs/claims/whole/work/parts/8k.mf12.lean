/-! THE MODEL, functionally: makeFold, make -/

set_option maxHeartbeats 4000000 in
set_option maxRecDepth 100000 in
theorem cf_X8_makeFold (l : Launch) (D : va_G) (ids : Nat → ClassId) (H0 : Heap) (h : rl_H) (n : Nat) (m : Nat) (T : md_T) (fu : Int32) (k : Nat) (A : md_D) (S : md_A) (a b w wb ca cb kd : Nat) (tb : List arow) (r0 : Option (List arow)) (hq : mf ids h h m T fu k A) (hs : md_sa ids h m S) (ha : a < 16) (hb : b < 16) (hba : b ≠ a) (hw : S.2.2.2.2.2.2.2.2.2.2 a = nI w) (hw6 : w ≤ 6) (hwb : S.2.2.2.2.2.2.2.2.2.2 b = nI wb) (hwb6 : wb ≤ 6) (hbt : mtb A b wb tb) (hbk : aok wb tb) (hr0 : mst A a w fu r0) (hw2 : w = 2) (hnA : S.2.2.2.2.2.2.1 a = nI ca) (hca : ca < wb) (hnB : S.2.2.2.2.2.2.2.1 a = nI cb) (hcb : cb < wb) (hnC : S.2.2.2.2.2.2.2.2.1 a = nI kd) (hkd3 : kd ≤ 3) : rl_Met l (rl_e D ids H0) rl_BW rl_Ns yX8_makeFold cX8_makeFold 7 none ({ frames := 5, cells := 0, slots := 0, locals := 129 }) [.ref m, .int (nI a), .int (nI b)] h n (fun v h' n' => ∃ (fu' : Int32) (k' : Nat) (A' : md_D), v = none ∧ n' = n ∧ mf ids h h' m T fu' k' A' ∧ mop A A' a ∧ mst A' a w fu' (r0.bind (ffo tb ca cb kd tb.length 0))) := by
  have tl80 := hbk.2.2
  refine rl_Met.of (by decide +kernel) (Nat.le_of_ble_eq_true rfl) ?_
  intro X hC hB
  have loop : ∀ (mm t : Nat) (h1 : rl_H) (f1 : Int32) (k1 : Nat) (A1 : md_D) (r1 : Option (List arow)) (o4 o5 o6 : Option Value), t + mm = tb.length → mf ids h h1 m T f1 k1 A1 → mop A A1 a → mst A1 a w f1 r1 → r0.bind (ffo tb ca cb kd tb.length 0) = r1.bind (ffo tb ca cb kd mm t) → rl_G X (rl_e D ids H0) 2 [some (.ref m), some (.int (nI a)), some (.int (nI b)), some (.int (nI t)), o4, o5, o6] [] h1 n 0 0 := by
    intro mm
    induction mm with
    | zero =>
      intro t h1 f1 k1 A1 r1 o4 o5 o6 hm hq1 hop hst he
      have hTb := hop.tb hwb6 hbk.2.2 (by omega) hbt hba
      have hs1 := hq1.1.sa hs
      obtain ⟨hm0, g12, g13, g14, g15, g16, g17, g18, g19, g20, g21, g22⟩ := id hq1
      have g0 := hm0.1
      have gk := hm0.2.1
      obtain ⟨a1, a2, a3, a4, a5, a6, a7, a8, a9, a10, a11⟩ := id hs1
      refine o_iload_n hC dX8_makeFold_2 (by rfl) ?_
      refine o_aload_n hC dX8_makeFold_3 (by rfl) ?_
      refine o_getf hC (fX8_46 hC rfl) dX8_makeFold_4 (by repeat (first | with_reducible assumption | (rw [rl_u_s]; done) | (rw [rl_u_s]; rfl) | rw [rl_u_n (by first | with_reducible assumption | omega)])) (by first | rfl | with_reducible assumption) ?_
      refine o_iload_n hC dX8_makeFold_7 (by rfl) ?_
      refine o_ialdN (t0 := 0) (k := b) hC rfl dX8_makeFold_8 (by repeat (first | with_reducible assumption | (rw [rl_u_s]; done) | (rw [rl_u_s]; rfl) | rw [rl_u_n (by first | with_reducible assumption | omega)])) (by omega) (by decide) ?_
      rw [hTb.1]
      refine o_icmp_ge (tgt := 147) hC dX8_makeFold_9 (by decide) (fun c_9 => ?_) (fun c_9 => ?_)
      · refine o_vret hC hB dX8_makeFold_147 (Nat.le_of_ble_eq_true rfl) (Nat.le_of_ble_eq_true rfl) ?_
        refine ⟨f1, k1, A1, rfl, rfl, hq1, hop, ?_⟩
        rw [he, show r1.bind (ffo tb ca cb kd 0 t) = r1 by cases r1 <;> rfl]
        exact hst
      · exact absurd (nI_le (by omega) (by omega)) c_9
    | succ mm ih =>
      intro t h1 f1 k1 A1 r1 o4 o5 o6 hm hq1 hop hst he
      have hTb := hop.tb hwb6 hbk.2.2 (by omega) hbt hba
      have hs1 := hq1.1.sa hs
      obtain ⟨hm0, g12, g13, g14, g15, g16, g17, g18, g19, g20, g21, g22⟩ := id hq1
      have g0 := hm0.1
      have gk := hm0.2.1
      obtain ⟨a1, a2, a3, a4, a5, a6, a7, a8, a9, a10, a11⟩ := id hs1
      refine o_iload_n hC dX8_makeFold_2 (by rfl) ?_
      refine o_aload_n hC dX8_makeFold_3 (by rfl) ?_
      refine o_getf hC (fX8_46 hC rfl) dX8_makeFold_4 (by repeat (first | with_reducible assumption | (rw [rl_u_s]; done) | (rw [rl_u_s]; rfl) | rw [rl_u_n (by first | with_reducible assumption | omega)])) (by first | rfl | with_reducible assumption) ?_
      refine o_iload_n hC dX8_makeFold_7 (by rfl) ?_
      refine o_ialdN (t0 := 0) (k := b) hC rfl dX8_makeFold_8 (by repeat (first | with_reducible assumption | (rw [rl_u_s]; done) | (rw [rl_u_s]; rfl) | rw [rl_u_n (by first | with_reducible assumption | omega)])) (by omega) (by decide) ?_
      rw [hTb.1]
      refine o_icmp_ge (tgt := 147) hC dX8_makeFold_9 (by decide) (fun c_9 => ?_) (fun c_9 => ?_)
      · refine o_vret hC hB dX8_makeFold_147 (Nat.le_of_ble_eq_true rfl) (Nat.le_of_ble_eq_true rfl) ?_
        exact absurd c_9 (nI_ge (by omega) (by omega))
      · refine o_aload_n hC dX8_makeFold_12 (by rfl) ?_
        refine o_getf hC (fX8_91 hC rfl) dX8_makeFold_13 (by repeat (first | with_reducible assumption | (rw [rl_u_s]; done) | (rw [rl_u_s]; rfl) | rw [rl_u_n (by first | with_reducible assumption | omega)])) (by first | rfl | with_reducible assumption) ?_
        refine o_if_ne (tgt := 147) hC dX8_makeFold_16 (by decide) (fun c_16 => ?_) (fun c_16 => ?_)
        · refine o_vret hC hB dX8_makeFold_147 (Nat.le_of_ble_eq_true rfl) (Nat.le_of_ble_eq_true rfl) ?_
          rcases hst with ⟨tab1, rfl, rfl, ht1, hk1⟩ | ⟨rfl, rfl⟩
          · exact absurd rfl c_16
          · exact ⟨_, k1, A1, rfl, rfl, hq1, hop, Or.inr ⟨he, rfl⟩⟩
        · rcases hst with ⟨tab1, rfl, rfl, ht1, hk1⟩ | ⟨rfl, rfl⟩
          rotate_left
          · exact absurd c_16 (by decide +kernel)
          replace he : r0.bind (ffo tb ca cb kd tb.length 0) = ffo tb ca cb kd (mm + 1) t tab1 := he
          refine o_iconst (v := nI 0) hC dX8_makeFold_19 (by decide +kernel) ?_
          refine o_istore hC dX8_makeFold_20 (Nat.le_of_ble_eq_true rfl) ?_
          refine o_iconst (v := nI 1) hC dX8_makeFold_22 (by decide +kernel) ?_
          refine o_istore hC dX8_makeFold_23 (Nat.le_of_ble_eq_true rfl) ?_
          refine o_iconst (v := nI 0) hC dX8_makeFold_25 (by decide +kernel) ?_
          refine o_istore hC dX8_makeFold_26 (Nat.le_of_ble_eq_true rfl) ?_
          have loopU : ∀ (m2 u : Nat) (h2 : rl_H) (gr2 : Nat → Int32) (z : Int32), u + m2 = tb.length → mf ids h h2 m T (nI 0) k1 (A1.1, A1.2.1, A1.2.2.1, A1.2.2.2.1, A1.2.2.2.2.1, A1.2.2.2.2.2.1, A1.2.2.2.2.2.2.1, A1.2.2.2.2.2.2.2.1, A1.2.2.2.2.2.2.2.2.1, gr2, A1.2.2.2.2.2.2.2.2.2.2) → ((z = nI 1 ∧ ∀ j : Nat, j < u → fpr tb ca t (ark tb j) = true → t ≤ j) ∨ (z = nI 0 ∧ ∃ j : Nat, j < u ∧ j < t ∧ fpr tb ca t (ark tb j) = true)) → (∀ j : Nat, j < ((tb.take u).filter (fpr tb ca t)).length → j < 4 → ∃ i : Nat, i < tb.length ∧ gr2 j = nI i ∧ ark tb i = ark ((tb.take u).filter (fpr tb ca t)) j) → rl_G X (rl_e D ids H0) 28 [some (.ref m), some (.int (nI a)), some (.int (nI b)), some (.int (nI t)), some (.int (nI ((tb.take u).filter (fpr tb ca t)).length)), some (.int z), some (.int (nI u))] [] h2 n 0 0 := by
            intro m2
            induction m2 with
            | zero =>
              intro u h2 gr2 z hm2 hq2 hz hgi
              have eu : u = tb.length := by omega
              subst eu
              rw [List.take_length] at hgi ⊢
              have hs1 := hq2.1.sa hs
              obtain ⟨hm0, g12, g13, g14, g15, g16, g17, g18, g19, g20, g21, g22⟩ := id hq2
              have g0 := hm0.1
              have gk := hm0.2.1
              obtain ⟨a1, a2, a3, a4, a5, a6, a7, a8, a9, a10, a11⟩ := id hs1
              refine o_iload hC dX8_makeFold_28 (by rfl) ?_
              refine o_aload_n hC dX8_makeFold_30 (by rfl) ?_
              refine o_getf hC (fX8_46 hC rfl) dX8_makeFold_31 (by repeat (first | with_reducible assumption | (rw [rl_u_s]; done) | (rw [rl_u_s]; rfl) | rw [rl_u_n (by first | with_reducible assumption | omega)])) (by first | rfl | with_reducible assumption) ?_
              refine o_iload_n hC dX8_makeFold_34 (by rfl) ?_
              refine o_ialdN (t0 := 0) (k := b) hC rfl dX8_makeFold_35 (by repeat (first | with_reducible assumption | (rw [rl_u_s]; done) | (rw [rl_u_s]; rfl) | rw [rl_u_n (by first | with_reducible assumption | omega)])) (by omega) (by decide) ?_
              rw [hTb.1]
              refine o_icmp_ge (tgt := 109) hC dX8_makeFold_36 (by decide) (fun c_36 => ?_) (fun c_36 => ?_)
              · have hop2 : mop A (A1.1, A1.2.1, A1.2.2.1, A1.2.2.2.1, A1.2.2.2.2.1, A1.2.2.2.2.2.1, A1.2.2.2.2.2.2.1, A1.2.2.2.2.2.2.2.1, A1.2.2.2.2.2.2.2.2.1, gr2, A1.2.2.2.2.2.2.2.2.2.2) a := hop.tr ⟨fun _ _ => rfl, fun _ _ => rfl, rfl, fun _ _ _ => rfl, fun _ _ _ => ⟨rfl, rfl⟩, rfl⟩
                have ql : (tb.filter (fpr tb ca t)).length ≤ 80 := Nat.le_trans (List.length_filter_le _ _) tl80
                rcases hz with ⟨rfl, hz⟩ | ⟨rfl, j0, j1, j2, j3⟩
                · have hfst : ffr tb ca t t 0 = true := (ffr_all tb ca t t 0).mpr (fun q _ h2 e => absurd (hz q (by omega) (decide_eq_true e)) (by omega))
                  have hgp : tb.filter (fpr tb ca t) = fgp tb ca t := fgp_all (by omega) hfst
                  rw [ffo_1 hfst] at he
                  rw [hgp] at hgi ql ⊢
                  refine o_iload hC dX8_makeFold_109 (by rfl) ?_
                  refine o_if_eq (tgt := 128) hC dX8_makeFold_111 (by decide) (fun q => absurd q (by decide +kernel)) (fun c_111 => ?_)
                  refine o_iload hC dX8_makeFold_114 (by rfl) ?_
                  refine o_iconst (v := nI 4) hC dX8_makeFold_116 (by decide +kernel) ?_
                  refine o_icmp_le (tgt := 128) hC dX8_makeFold_117 (by decide) (fun c_117 => ?_) (fun c_117 => ?_)
                  · refine o_iload hC dX8_makeFold_128 (by rfl) ?_
                    refine o_if_eq (tgt := 141) hC dX8_makeFold_130 (by decide) (fun q => absurd q (by decide +kernel)) (fun c_130 => ?_)
                    have q4 : (fgp tb ca t).length ≤ 4 := (nI_leI (by omega) (by decide)).mp c_117
                    rw [if_neg (by omega)] at he
                    refine o_aload_n hC dX8_makeFold_133 (by rfl) ?_
                    refine o_iload_n hC dX8_makeFold_134 (by rfl) ?_
                    refine o_iload_n hC dX8_makeFold_135 (by rfl) ?_
                    refine o_iload hC dX8_makeFold_136 (by rfl) ?_
                    refine o_callV3 hC rl_BW_good rl_Ns_nw (by exact hB.2.2.2.2.2) YX8_makeGroup IX8_makeGroup VX8_makeGroup (mX8_190 hC) (by rw [hB.1]; exact cf_X8_makeGroup l D ids H0 _ _ m T _ _ _ S a b w wb ca cb kd tb tab1 (fgp tb ca t) hq2.rf hs1 ha hb hba hw hw2 hwb hwb6 (show mtb (A1.1, A1.2.1, A1.2.2.1, A1.2.2.2.1, A1.2.2.2.2.1, A1.2.2.2.2.2.1, A1.2.2.2.2.2.2.1, A1.2.2.2.2.2.2.2.1, A1.2.2.2.2.2.2.2.2.1, gr2, A1.2.2.2.2.2.2.2.2.2.2) b wb tb from hTb) hbk (show mtb (A1.1, A1.2.1, A1.2.2.1, A1.2.2.2.1, A1.2.2.2.2.1, A1.2.2.2.2.2.1, A1.2.2.2.2.2.2.1, A1.2.2.2.2.2.2.2.1, A1.2.2.2.2.2.2.2.2.1, gr2, A1.2.2.2.2.2.2.2.2.2.2) a w tab1 from ht1) hk1 rfl hnA hca hnB hcb hnC hkd3 q4 hgi) (by exact hq2.1.1) rfl rfl (Nat.le_of_ble_eq_true rfl) (by rw [hB.2.1]; first | exact Nat.le_of_ble_eq_true rfl | (dsimp only; omega)) (by rw [hB.2.1]; first | exact Nat.le_of_ble_eq_true rfl | (dsimp only; omega)) (by rw [hB.2.1]; first | exact Nat.le_of_ble_eq_true rfl | (dsimp only; omega)) (by rw [hB.2.1]; first | exact Nat.le_of_ble_eq_true rfl | (dsimp only; omega)) dX8_makeFold_138 (fun v h_138 n_138 p_138 => ?_)
                    obtain ⟨f138, k138, A4, rfl, rfl, q138, r138, u138⟩ := p_138
                    try dsimp only [Option.toList, List.cons_append, List.nil_append]
                    refine o_iinc hC dX8_makeFold_141 (by rfl) (rl_inc _) (Nat.le_of_ble_eq_true rfl) ?_
                    refine o_goto (tgt := 2) hC dX8_makeFold_144 (by decide) ?_
                    refine ih (t + 1) _ _ _ A4 (fgr ca cb kd tab1 (fgp tb ca t)) _ _ _ (by omega) (hq2.tr q138) (hop2.tr r138) u138 ?_
                    rw [he]
                  · refine o_aload_n hC dX8_makeFold_120 (by rfl) ?_
                    refine o_iconst (v := nI 1) hC dX8_makeFold_121 (by decide +kernel) ?_
                    refine o_putf hC (fX8_91 hC rfl) (fwX8 rfl rfl rfl (Or.inl rfl)) dX8_makeFold_122 (by repeat (first | with_reducible assumption | (rw [rl_u_s]; done) | (rw [rl_u_s]; rfl) | rw [rl_u_n (by first | with_reducible assumption | omega)])) (Nat.le_of_ble_eq_true rfl) ?_
                    try simp only [List.set_cons_zero, List.set_cons_succ]
                    refine o_goto (tgt := 141) hC dX8_makeFold_125 (by decide) ?_
                    refine o_iinc hC dX8_makeFold_141 (by rfl) (rl_inc _) (Nat.le_of_ble_eq_true rfl) ?_
                    refine o_goto (tgt := 2) hC dX8_makeFold_144 (by decide) ?_
                    have q4 : 4 < (fgp tb ca t).length := by
                      rcases Nat.lt_or_ge 4 (fgp tb ca t).length with q | q
                      · exact q
                      · exact absurd (nI_le q (by decide)) c_117
                    rw [if_pos q4] at he
                    exact ih (t + 1) _ _ _ _ none _ _ _ (by omega) (hq2.ob T (nI 1) k1 gk) hop2 (Or.inr ⟨rfl, rfl⟩) he
                · refine o_iload hC dX8_makeFold_109 (by rfl) ?_
                  refine o_if_eq (tgt := 128) hC dX8_makeFold_111 (by decide) (fun _ => ?_) (fun q => absurd rfl q)
                  refine o_iload hC dX8_makeFold_128 (by rfl) ?_
                  refine o_if_eq (tgt := 141) hC dX8_makeFold_130 (by decide) (fun _ => ?_) (fun q => absurd rfl q)
                  refine o_iinc hC dX8_makeFold_141 (by rfl) (rl_inc _) (Nat.le_of_ble_eq_true rfl) ?_
                  refine o_goto (tgt := 2) hC dX8_makeFold_144 (by decide) ?_
                  have hfst : ¬ ffr tb ca t t 0 = true := fun e => (ffr_all tb ca t t 0).mp e j0 (Nat.zero_le _) (by omega) (of_decide_eq_true j3)
                  rw [ffo_0 hfst] at he
                  exact ih (t + 1) _ _ _ _ (some tab1) _ _ _ (by omega) hq2 hop2 (Or.inl ⟨tab1, rfl, rfl, ht1, hk1⟩) he
              · exact absurd (nI_le (by omega) (by omega)) c_36
            | succ m2 ih2 =>
              intro u h2 gr2 z hm2 hq2 hz hgi
              have hul : u < tb.length := by omega
              have ql : ((tb.take u).filter (fpr tb ca t)).length ≤ u := Nat.le_trans (List.length_filter_le _ _) (by rw [List.length_take]; omega)
              have hs1 := hq2.1.sa hs
              obtain ⟨hm0, g12, g13, g14, g15, g16, g17, g18, g19, g20, g21, g22⟩ := id hq2
              have g0 := hm0.1
              have gk := hm0.2.1
              obtain ⟨a1, a2, a3, a4, a5, a6, a7, a8, a9, a10, a11⟩ := id hs1
              refine o_iload hC dX8_makeFold_28 (by rfl) ?_
              refine o_aload_n hC dX8_makeFold_30 (by rfl) ?_
              refine o_getf hC (fX8_46 hC rfl) dX8_makeFold_31 (by repeat (first | with_reducible assumption | (rw [rl_u_s]; done) | (rw [rl_u_s]; rfl) | rw [rl_u_n (by first | with_reducible assumption | omega)])) (by first | rfl | with_reducible assumption) ?_
              refine o_iload_n hC dX8_makeFold_34 (by rfl) ?_
              refine o_ialdN (t0 := 0) (k := b) hC rfl dX8_makeFold_35 (by repeat (first | with_reducible assumption | (rw [rl_u_s]; done) | (rw [rl_u_s]; rfl) | rw [rl_u_n (by first | with_reducible assumption | omega)])) (by omega) (by decide) ?_
              rw [hTb.1]
              refine o_icmp_ge (tgt := 109) hC dX8_makeFold_36 (by decide) (fun c_36 => ?_) (fun c_36 => ?_)
              · exact absurd c_36 (nI_ge (by omega) (by omega))
              · refine o_aload_n hC dX8_makeFold_39 (by rfl) ?_
                refine o_iload_n hC dX8_makeFold_40 (by rfl) ?_
                refine o_iload hC dX8_makeFold_41 (by rfl) ?_
                refine o_aload_n hC dX8_makeFold_43 (by rfl) ?_
                refine o_getf hC (fX8_28 hC rfl) dX8_makeFold_44 (by repeat (first | with_reducible assumption | (rw [rl_u_s]; done) | (rw [rl_u_s]; rfl) | rw [rl_u_n (by first | with_reducible assumption | omega)])) (by first | rfl | with_reducible assumption) ?_
                refine o_iload_n hC dX8_makeFold_47 (by rfl) ?_
                refine o_ialdN (t0 := 0) (k := a) hC rfl dX8_makeFold_48 (by repeat (first | with_reducible assumption | (rw [rl_u_s]; done) | (rw [rl_u_s]; rfl) | rw [rl_u_n (by first | with_reducible assumption | omega)])) (by omega) (by decide) ?_
                rw [hnA]
                refine o_callV3 hC rl_BW_good rl_Ns_nw (by exact hB.2.2.2.2.2) YX8_cellAt IX8_cellAt VX8_cellAt (mX8_138 hC) (by rw [hB.1]; exact cf_X8_cellAt l D ids H0 _ _ m T _ _ _ b u ca hq2.rf (by omega)) (by exact hq2.rf.1.1) rfl rfl (Nat.le_of_ble_eq_true rfl) (by rw [hB.2.1]; first | exact Nat.le_of_ble_eq_true rfl | (dsimp only; omega)) (by rw [hB.2.1]; first | exact Nat.le_of_ble_eq_true rfl | (dsimp only; omega)) (by rw [hB.2.1]; first | exact Nat.le_of_ble_eq_true rfl | (dsimp only; omega)) (by rw [hB.2.1]; first | exact Nat.le_of_ble_eq_true rfl | (dsimp only; omega)) dX8_makeFold_49 (fun v h_49 n_49 p_49 => ?_)
                obtain ⟨rfl, rfl, rfl⟩ := p_49
                try dsimp only [Option.toList, List.cons_append, List.nil_append]
                refine o_aload_n hC dX8_makeFold_52 (by rfl) ?_
                refine o_iload_n hC dX8_makeFold_53 (by rfl) ?_
                refine o_iload_n hC dX8_makeFold_54 (by rfl) ?_
                refine o_aload_n hC dX8_makeFold_55 (by rfl) ?_
                refine o_getf hC (fX8_28 hC rfl) dX8_makeFold_56 (by repeat (first | with_reducible assumption | (rw [rl_u_s]; done) | (rw [rl_u_s]; rfl) | rw [rl_u_n (by first | with_reducible assumption | omega)])) (by first | rfl | with_reducible assumption) ?_
                refine o_iload_n hC dX8_makeFold_59 (by rfl) ?_
                refine o_ialdN (t0 := 0) (k := a) hC rfl dX8_makeFold_60 (by repeat (first | with_reducible assumption | (rw [rl_u_s]; done) | (rw [rl_u_s]; rfl) | rw [rl_u_n (by first | with_reducible assumption | omega)])) (by omega) (by decide) ?_
                rw [hnA]
                refine o_callV3 hC rl_BW_good rl_Ns_nw (by exact hB.2.2.2.2.2) YX8_cellAt IX8_cellAt VX8_cellAt (mX8_138 hC) (by rw [hB.1]; exact cf_X8_cellAt l D ids H0 _ _ m T _ _ _ b t ca hq2.rf (by omega)) (by exact hq2.rf.1.1) rfl rfl (Nat.le_of_ble_eq_true rfl) (by rw [hB.2.1]; first | exact Nat.le_of_ble_eq_true rfl | (dsimp only; omega)) (by rw [hB.2.1]; first | exact Nat.le_of_ble_eq_true rfl | (dsimp only; omega)) (by rw [hB.2.1]; first | exact Nat.le_of_ble_eq_true rfl | (dsimp only; omega)) (by rw [hB.2.1]; first | exact Nat.le_of_ble_eq_true rfl | (dsimp only; omega)) dX8_makeFold_61 (fun v h_61 n_61 p_61 => ?_)
                obtain ⟨rfl, rfl, rfl⟩ := p_61
                try dsimp only [Option.toList, List.cons_append, List.nil_append]
                refine o_icmp_ne (tgt := 103) hC dX8_makeFold_64 (by decide) (fun c_64 => ?_) (fun c_64 => ?_)
                · refine o_iinc hC dX8_makeFold_103 (by rfl) (rl_inc _) (Nat.le_of_ble_eq_true rfl) ?_
                  refine o_goto (tgt := 28) hC dX8_makeFold_106 (by decide) ?_
                  have hp : ¬ fpr tb ca t (ark tb u) = true := fun e => c_64 (by rw [((hTb.2 u hul).cg hca), (hTb.2 t (by omega)).cg hca]; exact of_decide_eq_true e)
                  have ef : (tb.take (u + 1)).filter (fpr tb ca t) = (tb.take u).filter (fpr tb ca t) := by
                    rw [take_s hul, List.filter_append, List.filter_cons_of_neg hp, List.filter_nil, List.append_nil]
                  have lp := ih2 (u + 1) _ gr2 z (by omega) hq2 ?_ ?_
                  · rw [ef] at lp
                    exact lp
                  · rcases hz with ⟨e1, e2⟩ | ⟨e1, j, e2, e3, e4⟩
                    · refine Or.inl ⟨e1, fun j h1 h2 => ?_⟩
                      by_cases e : j = u
                      · rw [e] at h2
                        exact absurd h2 hp
                      · exact e2 j (by omega) h2
                    · exact Or.inr ⟨e1, j, by omega, e3, e4⟩
                  · rw [ef]
                    exact hgi
                · refine o_iload hC dX8_makeFold_67 (by rfl) ?_
                  refine o_if_eq (tgt := 82) hC dX8_makeFold_69 (by decide) (fun c_69 => ?_) (fun c_69 => ?_)
                  · refine o_iconst (v := nI 0) hC dX8_makeFold_82 (by decide +kernel) ?_
                    refine o_istore hC dX8_makeFold_83 (Nat.le_of_ble_eq_true rfl) ?_
                    refine o_iload hC dX8_makeFold_85 (by rfl) ?_
                    refine o_iconst (v := nI 4) hC dX8_makeFold_87 (by decide +kernel) ?_
                    refine o_icmp_ge (tgt := 100) hC dX8_makeFold_88 (by decide) (fun c_88 => ?_) (fun c_88 => ?_)
                    · refine o_iinc hC dX8_makeFold_100 (by rfl) (rl_inc _) (Nat.le_of_ble_eq_true rfl) ?_
                      refine o_iinc hC dX8_makeFold_103 (by rfl) (rl_inc _) (Nat.le_of_ble_eq_true rfl) ?_
                      refine o_goto (tgt := 28) hC dX8_makeFold_106 (by decide) ?_
                      have hp : fpr tb ca t (ark tb u) = true := decide_eq_true (by rw [← ((hTb.2 u hul).cg hca), ← (hTb.2 t (by omega)).cg hca]; first | exact c_64 | exact Classical.not_not.mp c_64)
                      have ef : (tb.take (u + 1)).filter (fpr tb ca t) = (tb.take u).filter (fpr tb ca t) ++ [ark tb u] := by
                        rw [take_s hul, List.filter_append, List.filter_cons_of_pos hp, List.filter_nil]
                      have el : ((tb.take (u + 1)).filter (fpr tb ca t)).length = ((tb.take u).filter (fpr tb ca t)).length + 1 := by
                        rw [ef, List.length_append]
                        rfl
                      rw [← el]
                      have h4q : 4 ≤ ((tb.take u).filter (fpr tb ca t)).length := (nI_leI (by decide) (by omega)).mp c_88
                      refine ih2 (u + 1) _ gr2 _ (by omega) hq2 ?_ ?_
                      · rcases hz with ⟨e1, -⟩ | ⟨-, j, e2, e3, e4⟩
                        · exact absurd (e1.symm.trans c_69) (by decide +kernel)
                        · exact Or.inr ⟨rfl, j, by omega, e3, e4⟩
                      · intro j h1 h2
                        rw [ef, ark_app_l (by omega)]
                        exact hgi j (by omega) h2
                    · have q4 : ((tb.take u).filter (fpr tb ca t)).length < 4 := by
                        rcases Nat.lt_or_ge ((tb.take u).filter (fpr tb ca t)).length 4 with w9 | w9
                        · exact w9
                        · exact absurd (nI_le w9 (by omega)) c_88
                      refine o_aload_n hC dX8_makeFold_91 (by rfl) ?_
                      refine o_getf hC (fX8_72 hC rfl) dX8_makeFold_92 (by repeat (first | with_reducible assumption | (rw [rl_u_s]; done) | (rw [rl_u_s]; rfl) | rw [rl_u_n (by first | with_reducible assumption | omega)])) (by first | rfl | with_reducible assumption) ?_
                      refine o_iload hC dX8_makeFold_95 (by rfl) ?_
                      refine o_iload hC dX8_makeFold_97 (by rfl) ?_
                      refine o_iastN (t0 := 0) hC rfl dX8_makeFold_99 (by repeat (first | with_reducible assumption | (rw [rl_u_s]; done) | (rw [rl_u_s]; rfl) | rw [rl_u_n (by first | with_reducible assumption | omega)])) (by omega) (by decide) ?_
                      refine o_iinc hC dX8_makeFold_100 (by rfl) (rl_inc _) (Nat.le_of_ble_eq_true rfl) ?_
                      refine o_iinc hC dX8_makeFold_103 (by rfl) (rl_inc _) (Nat.le_of_ble_eq_true rfl) ?_
                      refine o_goto (tgt := 28) hC dX8_makeFold_106 (by decide) ?_
                      have hp : fpr tb ca t (ark tb u) = true := decide_eq_true (by rw [← ((hTb.2 u hul).cg hca), ← (hTb.2 t (by omega)).cg hca]; first | exact c_64 | exact Classical.not_not.mp c_64)
                      have ef : (tb.take (u + 1)).filter (fpr tb ca t) = (tb.take u).filter (fpr tb ca t) ++ [ark tb u] := by
                        rw [take_s hul, List.filter_append, List.filter_cons_of_pos hp, List.filter_nil]
                      have el : ((tb.take (u + 1)).filter (fpr tb ca t)).length = ((tb.take u).filter (fpr tb ca t)).length + 1 := by
                        rw [ef, List.length_append]
                        rfl
                      rw [← el]
                      refine ih2 (u + 1) _ (upd gr2 ((tb.take u).filter (fpr tb ca t)).length (nI u)) _ (by omega) (hq2.s21 _ (md_bl hq2.b21 ⟨u, by omega, rfl⟩)) ?_ ?_
                      · rcases hz with ⟨e1, -⟩ | ⟨-, j, e2, e3, e4⟩
                        · exact absurd (e1.symm.trans c_69) (by decide +kernel)
                        · exact Or.inr ⟨rfl, j, by omega, e3, e4⟩
                      · intro j h1 h2
                        rw [el] at h1
                        rw [ef]
                        by_cases e : j = ((tb.take u).filter (fpr tb ca t)).length
                        · rw [e, ark_app_r]
                          exact ⟨u, hul, upd_at, rfl⟩
                        · rw [ark_app_l (by omega)]
                          obtain ⟨i, i1, i2, i3⟩ := hgi j (by omega) h2
                          exact ⟨i, i1, (if_neg e).trans i2, i3⟩
                  · refine o_iload hC dX8_makeFold_72 (by rfl) ?_
                    refine o_iload_n hC dX8_makeFold_74 (by rfl) ?_
                    refine o_icmp_lt (tgt := 82) hC dX8_makeFold_75 (by decide) (fun c_75 => ?_) (fun c_75 => ?_)
                    · refine o_iconst (v := nI 0) hC dX8_makeFold_82 (by decide +kernel) ?_
                      refine o_istore hC dX8_makeFold_83 (Nat.le_of_ble_eq_true rfl) ?_
                      refine o_iload hC dX8_makeFold_85 (by rfl) ?_
                      refine o_iconst (v := nI 4) hC dX8_makeFold_87 (by decide +kernel) ?_
                      refine o_icmp_ge (tgt := 100) hC dX8_makeFold_88 (by decide) (fun c_88 => ?_) (fun c_88 => ?_)
                      · refine o_iinc hC dX8_makeFold_100 (by rfl) (rl_inc _) (Nat.le_of_ble_eq_true rfl) ?_
                        refine o_iinc hC dX8_makeFold_103 (by rfl) (rl_inc _) (Nat.le_of_ble_eq_true rfl) ?_
                        refine o_goto (tgt := 28) hC dX8_makeFold_106 (by decide) ?_
                        have hp : fpr tb ca t (ark tb u) = true := decide_eq_true (by rw [← ((hTb.2 u hul).cg hca), ← (hTb.2 t (by omega)).cg hca]; first | exact c_64 | exact Classical.not_not.mp c_64)
                        have ef : (tb.take (u + 1)).filter (fpr tb ca t) = (tb.take u).filter (fpr tb ca t) ++ [ark tb u] := by
                          rw [take_s hul, List.filter_append, List.filter_cons_of_pos hp, List.filter_nil]
                        have el : ((tb.take (u + 1)).filter (fpr tb ca t)).length = ((tb.take u).filter (fpr tb ca t)).length + 1 := by
                          rw [ef, List.length_append]
                          rfl
                        rw [← el]
                        have h4q : 4 ≤ ((tb.take u).filter (fpr tb ca t)).length := (nI_leI (by decide) (by omega)).mp c_88
                        refine ih2 (u + 1) _ gr2 _ (by omega) hq2 ?_ ?_
                        · exact Or.inr ⟨rfl, u, by omega, (nI_ltI (by omega) (by omega)).mp c_75, hp⟩
                        · intro j h1 h2
                          rw [ef, ark_app_l (by omega)]
                          exact hgi j (by omega) h2
                      · have q4 : ((tb.take u).filter (fpr tb ca t)).length < 4 := by
                          rcases Nat.lt_or_ge ((tb.take u).filter (fpr tb ca t)).length 4 with w9 | w9
                          · exact w9
                          · exact absurd (nI_le w9 (by omega)) c_88
                        refine o_aload_n hC dX8_makeFold_91 (by rfl) ?_
                        refine o_getf hC (fX8_72 hC rfl) dX8_makeFold_92 (by repeat (first | with_reducible assumption | (rw [rl_u_s]; done) | (rw [rl_u_s]; rfl) | rw [rl_u_n (by first | with_reducible assumption | omega)])) (by first | rfl | with_reducible assumption) ?_
                        refine o_iload hC dX8_makeFold_95 (by rfl) ?_
                        refine o_iload hC dX8_makeFold_97 (by rfl) ?_
                        refine o_iastN (t0 := 0) hC rfl dX8_makeFold_99 (by repeat (first | with_reducible assumption | (rw [rl_u_s]; done) | (rw [rl_u_s]; rfl) | rw [rl_u_n (by first | with_reducible assumption | omega)])) (by omega) (by decide) ?_
                        refine o_iinc hC dX8_makeFold_100 (by rfl) (rl_inc _) (Nat.le_of_ble_eq_true rfl) ?_
                        refine o_iinc hC dX8_makeFold_103 (by rfl) (rl_inc _) (Nat.le_of_ble_eq_true rfl) ?_
                        refine o_goto (tgt := 28) hC dX8_makeFold_106 (by decide) ?_
                        have hp : fpr tb ca t (ark tb u) = true := decide_eq_true (by rw [← ((hTb.2 u hul).cg hca), ← (hTb.2 t (by omega)).cg hca]; first | exact c_64 | exact Classical.not_not.mp c_64)
                        have ef : (tb.take (u + 1)).filter (fpr tb ca t) = (tb.take u).filter (fpr tb ca t) ++ [ark tb u] := by
                          rw [take_s hul, List.filter_append, List.filter_cons_of_pos hp, List.filter_nil]
                        have el : ((tb.take (u + 1)).filter (fpr tb ca t)).length = ((tb.take u).filter (fpr tb ca t)).length + 1 := by
                          rw [ef, List.length_append]
                          rfl
                        rw [← el]
                        refine ih2 (u + 1) _ (upd gr2 ((tb.take u).filter (fpr tb ca t)).length (nI u)) _ (by omega) (hq2.s21 _ (md_bl hq2.b21 ⟨u, by omega, rfl⟩)) ?_ ?_
                        · exact Or.inr ⟨rfl, u, by omega, (nI_ltI (by omega) (by omega)).mp c_75, hp⟩
                        · intro j h1 h2
                          rw [el] at h1
                          rw [ef]
                          by_cases e : j = ((tb.take u).filter (fpr tb ca t)).length
                          · rw [e, ark_app_r]
                            exact ⟨u, hul, upd_at, rfl⟩
                          · rw [ark_app_l (by omega)]
                            obtain ⟨i, i1, i2, i3⟩ := hgi j (by omega) h2
                            exact ⟨i, i1, (if_neg e).trans i2, i3⟩
                    · refine o_iconst (v := nI 1) hC dX8_makeFold_78 (by decide +kernel) ?_
                      refine o_goto (tgt := 83) hC dX8_makeFold_79 (by decide) ?_
                      refine o_istore hC dX8_makeFold_83 (Nat.le_of_ble_eq_true rfl) ?_
                      refine o_iload hC dX8_makeFold_85 (by rfl) ?_
                      refine o_iconst (v := nI 4) hC dX8_makeFold_87 (by decide +kernel) ?_
                      refine o_icmp_ge (tgt := 100) hC dX8_makeFold_88 (by decide) (fun c_88 => ?_) (fun c_88 => ?_)
                      · refine o_iinc hC dX8_makeFold_100 (by rfl) (rl_inc _) (Nat.le_of_ble_eq_true rfl) ?_
                        refine o_iinc hC dX8_makeFold_103 (by rfl) (rl_inc _) (Nat.le_of_ble_eq_true rfl) ?_
                        refine o_goto (tgt := 28) hC dX8_makeFold_106 (by decide) ?_
                        have hp : fpr tb ca t (ark tb u) = true := decide_eq_true (by rw [← ((hTb.2 u hul).cg hca), ← (hTb.2 t (by omega)).cg hca]; first | exact c_64 | exact Classical.not_not.mp c_64)
                        have ef : (tb.take (u + 1)).filter (fpr tb ca t) = (tb.take u).filter (fpr tb ca t) ++ [ark tb u] := by
                          rw [take_s hul, List.filter_append, List.filter_cons_of_pos hp, List.filter_nil]
                        have el : ((tb.take (u + 1)).filter (fpr tb ca t)).length = ((tb.take u).filter (fpr tb ca t)).length + 1 := by
                          rw [ef, List.length_append]
                          rfl
                        rw [← el]
                        have h4q : 4 ≤ ((tb.take u).filter (fpr tb ca t)).length := (nI_leI (by decide) (by omega)).mp c_88
                        refine ih2 (u + 1) _ gr2 _ (by omega) hq2 ?_ ?_
                        · rcases hz with ⟨-, e2⟩ | ⟨e1, -⟩
                          · refine Or.inl ⟨rfl, fun j h1 h2 => ?_⟩
                            by_cases e : j = u
                            · rw [e]
                              exact Nat.le_of_not_lt (fun q => c_75 (nI_lt q (by omega)))
                            · exact e2 j (by omega) h2
                          · exact absurd e1 c_69
                        · intro j h1 h2
                          rw [ef, ark_app_l (by omega)]
                          exact hgi j (by omega) h2
                      · have q4 : ((tb.take u).filter (fpr tb ca t)).length < 4 := by
                          rcases Nat.lt_or_ge ((tb.take u).filter (fpr tb ca t)).length 4 with w9 | w9
                          · exact w9
                          · exact absurd (nI_le w9 (by omega)) c_88
                        refine o_aload_n hC dX8_makeFold_91 (by rfl) ?_
                        refine o_getf hC (fX8_72 hC rfl) dX8_makeFold_92 (by repeat (first | with_reducible assumption | (rw [rl_u_s]; done) | (rw [rl_u_s]; rfl) | rw [rl_u_n (by first | with_reducible assumption | omega)])) (by first | rfl | with_reducible assumption) ?_
                        refine o_iload hC dX8_makeFold_95 (by rfl) ?_
                        refine o_iload hC dX8_makeFold_97 (by rfl) ?_
                        refine o_iastN (t0 := 0) hC rfl dX8_makeFold_99 (by repeat (first | with_reducible assumption | (rw [rl_u_s]; done) | (rw [rl_u_s]; rfl) | rw [rl_u_n (by first | with_reducible assumption | omega)])) (by omega) (by decide) ?_
                        refine o_iinc hC dX8_makeFold_100 (by rfl) (rl_inc _) (Nat.le_of_ble_eq_true rfl) ?_
                        refine o_iinc hC dX8_makeFold_103 (by rfl) (rl_inc _) (Nat.le_of_ble_eq_true rfl) ?_
                        refine o_goto (tgt := 28) hC dX8_makeFold_106 (by decide) ?_
                        have hp : fpr tb ca t (ark tb u) = true := decide_eq_true (by rw [← ((hTb.2 u hul).cg hca), ← (hTb.2 t (by omega)).cg hca]; first | exact c_64 | exact Classical.not_not.mp c_64)
                        have ef : (tb.take (u + 1)).filter (fpr tb ca t) = (tb.take u).filter (fpr tb ca t) ++ [ark tb u] := by
                          rw [take_s hul, List.filter_append, List.filter_cons_of_pos hp, List.filter_nil]
                        have el : ((tb.take (u + 1)).filter (fpr tb ca t)).length = ((tb.take u).filter (fpr tb ca t)).length + 1 := by
                          rw [ef, List.length_append]
                          rfl
                        rw [← el]
                        refine ih2 (u + 1) _ (upd gr2 ((tb.take u).filter (fpr tb ca t)).length (nI u)) _ (by omega) (hq2.s21 _ (md_bl hq2.b21 ⟨u, by omega, rfl⟩)) ?_ ?_
                        · rcases hz with ⟨-, e2⟩ | ⟨e1, -⟩
                          · refine Or.inl ⟨rfl, fun j h1 h2 => ?_⟩
                            by_cases e : j = u
                            · rw [e]
                              exact Nat.le_of_not_lt (fun q => c_75 (nI_lt q (by omega)))
                            · exact e2 j (by omega) h2
                          · exact absurd e1 c_69
                        · intro j h1 h2
                          rw [el] at h1
                          rw [ef]
                          by_cases e : j = ((tb.take u).filter (fpr tb ca t)).length
                          · rw [e, ark_app_r]
                            exact ⟨u, hul, upd_at, rfl⟩
                          · rw [ark_app_l (by omega)]
                            obtain ⟨i, i1, i2, i3⟩ := hgi j (by omega) h2
                            exact ⟨i, i1, (if_neg e).trans i2, i3⟩
          exact loopU tb.length 0 _ A1.2.2.2.2.2.2.2.2.2.1 _ (by omega) hq1 (Or.inl ⟨rfl, fun j hj => absurd hj (by omega)⟩) (fun j hj => absurd hj (Nat.not_lt_zero j))
  show rl_G X (rl_e D ids H0) 0 [some (.ref m), some (.int (nI a)), some (.int (nI b)), none, none, none, none] [] h n 0 0
  refine o_iconst (v := nI 0) hC dX8_makeFold_0 (by decide +kernel) ?_
  refine o_istore_n hC dX8_makeFold_1 (Nat.le_of_ble_eq_true rfl) ?_
  exact loop tb.length 0 _ _ _ A r0 _ _ _ (by omega) hq mop.rf hr0 rfl

/-- how the model writes down a node -/
def mnd (S : md_A) (a op : Nat) (f2 f3 f4 f5 f6 f7 : Int32) : Prop := (op = 0 → S.2.2.2.2.1 a = f7) ∧ (1 ≤ op → S.2.2.2.2.1 a = f2) ∧ (op = 3 ∨ op = 4 ∨ op = 5 → S.2.2.2.2.2.1 a = f3) ∧ (op = 1 → S.2.2.2.2.2.2.1 a = f4 ∧ S.2.2.2.2.2.2.2.1 a = f6 ∧ S.2.2.2.2.2.2.2.2.1 a = f5 ∧ S.2.2.2.2.2.2.2.2.2.1 a = f7) ∧ (op = 2 → S.2.2.2.2.2.2.1 a = f7) ∧ (op = 3 → S.2.2.2.2.2.2.1 a = f4 ∧ S.2.2.2.2.2.2.2.1 a = f5) ∧ (op = 6 → S.2.2.2.2.2.2.1 a = f4 ∧ S.2.2.2.2.2.2.2.1 a = f5 ∧ S.2.2.2.2.2.2.2.2.1 a = f6)
theorem scl_csc {rs rc sf : Nat → Int32} {cf : Nat → Nat → Int32} {q : Int32} {w n : Nat} (hw : w ≤ 4) (h : ∀ r : Nat, r < n → rs r = sf r ∧ ∀ c : Nat, c < 4 → rc (4 * r + c) = cf r c) : scl rs rc q w 0 n = csc sf cf q w 0 n := by
  unfold scl csc
  have e1 : (List.range' 0 n).filter (fun r => decide (rs r = q)) = (List.range' 0 n).filter (fun r => decide (sf r = q)) := by
    refine List.filter_congr (fun r hr => ?_)
    have := List.mem_range'_1.mp hr
    rw [(h r (by omega)).1]
  rw [e1]
  refine List.map_congr_left (fun r hr => ?_)
  have := List.mem_range'_1.mp (List.mem_filter.mp hr).1
  rw [show rcl (fun c => rc (4 * r + c)) w = rcl (cf r) w from rsg_eq (fun i _ hi => (h r (by omega)).2 i (by omega))]

set_option maxHeartbeats 4000000 in
set_option maxRecDepth 100000 in
theorem cf_X8_make (l : Launch) (D : va_G) (ids : Nat → ClassId) (H0 : Heap) (h : rl_H) (n : Nat) (m : Nat) (T : md_T) (fu : Int32) (k : Nat) (A : md_D) (S : md_A) (a rr op w wb wd : Nat) (tb td : List arow) (sf : Nat → Int32) (cf : Nat → Nat → Int32) (f2 f3 f4 f5 f6 f7 : Int32) (hq : mf ids h h m T fu k A) (hs : md_sa ids h m S) (ha : a < 16) (hop : S.2.2.2.1 a = nI op) (hw : S.2.2.2.2.2.2.2.2.2.2 a = nI w) (hok : nd_f op w f4 f5 f6 f7 wb wd) (hrr : T.2.2.1 = nI rr) (hr36 : rr ≤ 36) (hfu : fu = nI 0) (hn : mnd S a op f2 f3 f4 f5 f6 f7) (hsr : ∀ r : Nat, r < rr → S.2.1 r = sf r ∧ ∀ c : Nat, c < 4 → S.2.2.1 (4 * r + c) = cf r c) (hi : 1 ≤ op → ∃ b : Nat, b < a ∧ f2 = nI b ∧ S.2.2.2.2.2.2.2.2.2.2 b = nI wb ∧ mtb A b wb tb ∧ aok wb tb) (hj : op = 3 ∨ op = 4 ∨ op = 5 → ∃ d : Nat, d < a ∧ f3 = nI d ∧ S.2.2.2.2.2.2.2.2.2.2 d = nI wd ∧ mtb A d wd td ∧ aok wd td) : rl_Met l (rl_e D ids H0) rl_BW rl_Ns yX8_make cX8_make 4 none ({ frames := 6, cells := 0, slots := 0, locals := 155 }) [.ref m, .int (nI a)] h n (fun v h' n' => ∃ (fu' : Int32) (k' : Nat) (A' : md_D), v = none ∧ n' = n ∧ mf ids h h' m T fu' k' A' ∧ mop A A' a ∧ mst A' a w fu' (nfn sf cf rr op w f4 f5 f6 f7 tb td)) := by
  obtain ⟨hm0, g12, g13, g14, g15, g16, g17, g18, g19, g20, g21, g22⟩ := id hq
  have g0 := hm0.1
  have gk := hm0.2.1
  have b13 := hq.b13
  have b15 := hq.b15
  have b21 := hq.b21
  obtain ⟨a1, a2, a3, a4, a5, a6, a7, a8, a9, a10, a11⟩ := id hs
  have op6 := hok.1
  have w6 := hok.2.2.1
  have w16 := hok.2.2.2.1
  have w26 := hok.2.2.2.2.1
  obtain ⟨n0, n1, n2, n3, n4, n5, n6⟩ := hn
  refine rl_Met.of (by decide +kernel) (Nat.le_of_ble_eq_true rfl) ?_
  intro X hC hB
  show rl_G X (rl_e D ids H0) 0 [some (.ref m), some (.int (nI a)), none, none] [] h n 0 0
  refine o_aload_n hC dX8_make_0 (by rfl) ?_
  refine o_getf hC (fX8_46 hC rfl) dX8_make_1 (by repeat (first | with_reducible assumption | (rw [rl_u_s]; done) | (rw [rl_u_s]; rfl) | rw [rl_u_n (by first | with_reducible assumption | omega)])) (by first | rfl | with_reducible assumption) ?_
  refine o_iload_n hC dX8_make_4 (by rfl) ?_
  refine o_iconst (v := nI 0) hC dX8_make_5 (by decide +kernel) ?_
  refine o_iastN (t0 := 0) hC rfl dX8_make_6 (by repeat (first | with_reducible assumption | (rw [rl_u_s]; done) | (rw [rl_u_s]; rfl) | rw [rl_u_n (by first | with_reducible assumption | omega)])) (by omega) (by decide) ?_
  refine o_aload_n hC dX8_make_7 (by rfl) ?_
  refine o_getf hC (fX8_22 hC rfl) dX8_make_8 (by repeat (first | with_reducible assumption | (rw [rl_u_s]; done) | (rw [rl_u_s]; rfl) | rw [rl_u_n (by first | with_reducible assumption | omega)])) (by first | rfl | with_reducible assumption) ?_
  refine o_iload_n hC dX8_make_11 (by rfl) ?_
  refine o_ialdN (t0 := 0) hC rfl dX8_make_12 (by repeat (first | with_reducible assumption | (rw [rl_u_s]; done) | (rw [rl_u_s]; rfl) | rw [rl_u_n (by first | with_reducible assumption | omega)])) (by omega) (by decide) ?_
  refine o_istore_n hC dX8_make_13 (Nat.le_of_ble_eq_true rfl) ?_
  refine o_aload_n hC dX8_make_14 (by rfl) ?_
  refine o_getf hC (fX8_25 hC rfl) dX8_make_15 (by repeat (first | with_reducible assumption | (rw [rl_u_s]; done) | (rw [rl_u_s]; rfl) | rw [rl_u_n (by first | with_reducible assumption | omega)])) (by first | rfl | with_reducible assumption) ?_
  refine o_iload_n hC dX8_make_18 (by rfl) ?_
  refine o_ialdN (t0 := 0) hC rfl dX8_make_19 (by repeat (first | with_reducible assumption | (rw [rl_u_s]; done) | (rw [rl_u_s]; rfl) | rw [rl_u_n (by first | with_reducible assumption | omega)])) (by omega) (by decide) ?_
  refine o_istore_n hC dX8_make_20 (Nat.le_of_ble_eq_true rfl) ?_
  refine o_aload_n hC dX8_make_21 (by rfl) ?_
  refine o_getf hC (fX8_19 hC rfl) dX8_make_22 (by repeat (first | with_reducible assumption | (rw [rl_u_s]; done) | (rw [rl_u_s]; rfl) | rw [rl_u_n (by first | with_reducible assumption | omega)])) (by first | rfl | with_reducible assumption) ?_
  refine o_iload_n hC dX8_make_25 (by rfl) ?_
  refine o_ialdN (t0 := 0) hC rfl dX8_make_26 (by repeat (first | with_reducible assumption | (rw [rl_u_s]; done) | (rw [rl_u_s]; rfl) | rw [rl_u_n (by first | with_reducible assumption | omega)])) (by omega) (by decide) ?_
  have hq1 := hq.s13 (upd A.2.1 a (nI 0)) (md_bd b13 ⟨0, by decide, rfl⟩)
  have hs1 := hq1.1.sa hs
  have hop1 : mop A (A.1, upd A.2.1 a (nI 0), A.2.2.1, A.2.2.2.1, A.2.2.2.2.1, A.2.2.2.2.2.1, A.2.2.2.2.2.2.1, A.2.2.2.2.2.2.2.1, A.2.2.2.2.2.2.2.2.1, A.2.2.2.2.2.2.2.2.2.1, A.2.2.2.2.2.2.2.2.2.2) a := ⟨fun _ _ => rfl, fun i hi => if_neg hi, rfl, fun _ _ _ => rfl, fun _ _ _ => ⟨rfl, rfl⟩, rfl⟩
  have hr0 : mst (A.1, upd A.2.1 a (nI 0), A.2.2.1, A.2.2.2.1, A.2.2.2.2.1, A.2.2.2.2.2.1, A.2.2.2.2.2.2.1, A.2.2.2.2.2.2.2.1, A.2.2.2.2.2.2.2.2.1, A.2.2.2.2.2.2.2.2.2.1, A.2.2.2.2.2.2.2.2.2.2) a w fu (some []) := Or.inl ⟨[], rfl, hfu, ⟨upd_at, fun j hj => absurd hj (Nat.not_lt_zero j)⟩, aok_nil w⟩
  rw [hop]
  rcases (show op = 0 ∨ op = 1 ∨ op = 2 ∨ op = 3 ∨ op = 4 ∨ op = 5 ∨ op = 6 by omega) with rfl | rfl | rfl | rfl | rfl | rfl | rfl
  · rw [n0 rfl]
    refine o_tableIn (off := 37) (tgt := 64) hC dX8_make_27 (by decide +kernel) (by decide +kernel) (by decide +kernel) (by decide) ?_
    refine o_aload_n hC dX8_make_64 (by rfl) ?_
    refine o_iload_n hC dX8_make_65 (by rfl) ?_
    refine o_iload_n hC dX8_make_66 (by rfl) ?_
    refine o_callV2 hC rl_BW_good rl_Ns_nw (by exact hB.2.2.2.2.2) YX8_makeScan IX8_makeScan VX8_makeScan (mX8_157 hC) (by rw [hB.1]; exact cf_X8_makeScan l D ids H0 _ _ m T _ _ _ S a w rr _ (some []) hq1.rf hs1 ha hw w6 (hok.2.2.2.2.2.1 rfl) hrr hr36 hr0) (by exact hq1.1.1) rfl rfl (Nat.le_of_ble_eq_true rfl) (by rw [hB.2.1]; first | exact Nat.le_of_ble_eq_true rfl | (dsimp only; omega)) (by rw [hB.2.1]; first | exact Nat.le_of_ble_eq_true rfl | (dsimp only; omega)) (by rw [hB.2.1]; first | exact Nat.le_of_ble_eq_true rfl | (dsimp only; omega)) (by rw [hB.2.1]; first | exact Nat.le_of_ble_eq_true rfl | (dsimp only; omega)) dX8_make_67 (fun v h_67 n_67 p_67 => ?_)
    obtain ⟨f67, k67, A67, rfl, rfl, q67, r67, u67⟩ := p_67
    try dsimp only [Option.toList, List.cons_append, List.nil_append]
    refine o_goto (tgt := 132) hC dX8_make_70 (by decide) ?_
    refine o_vret hC hB dX8_make_132 (Nat.le_of_ble_eq_true rfl) (Nat.le_of_ble_eq_true rfl) ?_
    refine ⟨f67, k67, A67, rfl, rfl, hq1.tr q67, hop1.tr r67, ?_⟩
    unfold nfn
    rw [if_pos rfl]
    rw [← scl_csc (hok.2.2.2.2.2.1 rfl) hsr]
    exact u67
  · obtain ⟨b, b1, rfl, hwb, hbt0, hbk⟩ := hi (by decide)
    rw [n1 (by decide)]
    have b16 : b < 16 := by omega
    have hbt := hop1.tb w16 hbk.2.2 (by omega) hbt0 (by omega)
    obtain ⟨rfl, ⟨c4, h4, rfl⟩, hf5, kd, h6, rfl⟩ := hok.2.2.2.2.2.2.1 rfl
    obtain ⟨m1, m2, m3, m4⟩ := n3 rfl
    have hoc : (oN f5 = none ∧ S.2.2.2.2.2.2.2.2.1 a = -1) ∨ ∃ c : Nat, oN f5 = some c ∧ c < w ∧ S.2.2.2.2.2.2.2.2.1 a = nI c := by
      rw [m3]
      rcases hf5 with rfl | ⟨c5, h5, rfl⟩
      · exact Or.inl ⟨if_pos rfl, rfl⟩
      · refine Or.inr ⟨c5, ?_, h5, rfl⟩
        unfold oN
        rw [if_neg (fun e => absurd (e ▸ (show (-1 : Int32) < 0 by decide +kernel)) (nI_pos (by omega))), iN_nI (by omega)]
    refine o_tableIn (off := 46) (tgt := 73) hC dX8_make_27 (by decide +kernel) (by decide +kernel) (by decide +kernel) (by decide) ?_
    refine o_aload_n hC dX8_make_73 (by rfl) ?_
    refine o_iload_n hC dX8_make_74 (by rfl) ?_
    refine o_iload_n hC dX8_make_75 (by rfl) ?_
    refine o_callV2 hC rl_BW_good rl_Ns_nw (by exact hB.2.2.2.2.2) YX8_makePick IX8_makePick VX8_makePick (mX8_160 hC) (by rw [hB.1]; exact cf_X8_makePick l D ids H0 _ _ m T _ _ _ S a b w w tb (some []) c4 (oN f5) hq1.rf hs1 ha b16 (by omega) hw w6 hwb w16 hbt hbk hr0 rfl m1 h4 hoc) (by exact hq1.1.1) rfl rfl (Nat.le_of_ble_eq_true rfl) (by rw [hB.2.1]; first | exact Nat.le_of_ble_eq_true rfl | (dsimp only; omega)) (by rw [hB.2.1]; first | exact Nat.le_of_ble_eq_true rfl | (dsimp only; omega)) (by rw [hB.2.1]; first | exact Nat.le_of_ble_eq_true rfl | (dsimp only; omega)) (by rw [hB.2.1]; first | exact Nat.le_of_ble_eq_true rfl | (dsimp only; omega)) dX8_make_76 (fun v h_76 n_76 p_76 => ?_)
    obtain ⟨f76, k76, A76, rfl, rfl, q76, r76, u76⟩ := p_76
    try dsimp only [Option.toList, List.cons_append, List.nil_append]
    refine o_goto (tgt := 132) hC dX8_make_79 (by decide) ?_
    refine o_vret hC hB dX8_make_132 (Nat.le_of_ble_eq_true rfl) (Nat.le_of_ble_eq_true rfl) ?_
    refine ⟨f76, k76, A76, rfl, rfl, hq1.tr q76, hop1.tr r76, ?_⟩
    unfold nfn
    rw [if_neg (by decide), if_pos rfl]
    rw [iN_nI (by omega)]
    rw [m2, m4] at u76
    exact u76
  · obtain ⟨b, b1, rfl, hwb, hbt0, hbk⟩ := hi (by decide)
    rw [n1 (by decide)]
    have b16 : b < 16 := by omega
    have hbt := hop1.tb w16 hbk.2.2 (by omega) hbt0 (by omega)
    obtain ⟨N, hN, rfl, hN0, hNz, hdg⟩ := hok.2.2.2.2.2.2.2.1 rfl
    refine o_tableIn (off := 55) (tgt := 82) hC dX8_make_27 (by decide +kernel) (by decide +kernel) (by decide +kernel) (by decide) ?_
    refine o_aload_n hC dX8_make_82 (by rfl) ?_
    refine o_iload_n hC dX8_make_83 (by rfl) ?_
    refine o_iload_n hC dX8_make_84 (by rfl) ?_
    refine o_callV2 hC rl_BW_good rl_Ns_nw (by exact hB.2.2.2.2.2) YX8_makeCols IX8_makeCols VX8_makeCols (mX8_163 hC) (by rw [hB.1]; exact cf_X8_makeCols l D ids H0 _ _ m T _ _ _ S a b w wb tb (some []) N hq1.rf hs1 ha b16 (by omega) hw w6 hwb w16 hbt hbk hr0 (n4 rfl) hN hN0 hNz hdg) (by exact hq1.1.1) rfl rfl (Nat.le_of_ble_eq_true rfl) (by rw [hB.2.1]; first | exact Nat.le_of_ble_eq_true rfl | (dsimp only; omega)) (by rw [hB.2.1]; first | exact Nat.le_of_ble_eq_true rfl | (dsimp only; omega)) (by rw [hB.2.1]; first | exact Nat.le_of_ble_eq_true rfl | (dsimp only; omega)) (by rw [hB.2.1]; first | exact Nat.le_of_ble_eq_true rfl | (dsimp only; omega)) dX8_make_85 (fun v h_85 n_85 p_85 => ?_)
    obtain ⟨f85, k85, A85, rfl, rfl, q85, r85, u85⟩ := p_85
    try dsimp only [Option.toList, List.cons_append, List.nil_append]
    refine o_goto (tgt := 132) hC dX8_make_88 (by decide) ?_
    refine o_vret hC hB dX8_make_132 (Nat.le_of_ble_eq_true rfl) (Nat.le_of_ble_eq_true rfl) ?_
    refine ⟨f85, k85, A85, rfl, rfl, hq1.tr q85, hop1.tr r85, ?_⟩
    unfold nfn
    rw [if_neg (by decide), if_neg (by decide), if_pos rfl]
    rw [iN_nI (by omega)]
    exact u85
  · obtain ⟨b, b1, rfl, hwb, hbt0, hbk⟩ := hi (by decide)
    rw [n1 (by decide)]
    have b16 : b < 16 := by omega
    have hbt := hop1.tb w16 hbk.2.2 (by omega) hbt0 (by omega)
    obtain ⟨d, d1, rfl, hwd, hdt0, hdk⟩ := hj (by decide)
    rw [n2 (by decide)]
    have d16 : d < 16 := by omega
    have hdt := hop1.tb w26 hdk.2.2 (by omega) hdt0 (by omega)
    obtain ⟨⟨c4, h4, rfl⟩, ⟨c5, h5, rfl⟩, hwd9⟩ := hok.2.2.2.2.2.2.2.2.1 rfl
    obtain ⟨m1, m2⟩ := n5 rfl
    refine o_tableIn (off := 64) (tgt := 91) hC dX8_make_27 (by decide +kernel) (by decide +kernel) (by decide +kernel) (by decide) ?_
    refine o_aload_n hC dX8_make_91 (by rfl) ?_
    refine o_iload_n hC dX8_make_92 (by rfl) ?_
    refine o_iload_n hC dX8_make_93 (by rfl) ?_
    refine o_iload_n hC dX8_make_94 (by rfl) ?_
    refine o_callV3 hC rl_BW_good rl_Ns_nw (by exact hB.2.2.2.2.2) YX8_makeJoin IX8_makeJoin VX8_makeJoin (mX8_166 hC) (by rw [hB.1]; exact cf_X8_makeJoin l D ids H0 _ _ m T _ _ _ S a b d w wb wd c4 c5 tb td (some []) hq1.rf hs1 ha b16 (by omega) hw w6 hwb w16 hbt hbk hr0 d16 (by omega) hwd w26 hdt hdk m1 h4 m2 h5 hwd9) (by exact hq1.1.1) rfl rfl (Nat.le_of_ble_eq_true rfl) (by rw [hB.2.1]; first | exact Nat.le_of_ble_eq_true rfl | (dsimp only; omega)) (by rw [hB.2.1]; first | exact Nat.le_of_ble_eq_true rfl | (dsimp only; omega)) (by rw [hB.2.1]; first | exact Nat.le_of_ble_eq_true rfl | (dsimp only; omega)) (by rw [hB.2.1]; first | exact Nat.le_of_ble_eq_true rfl | (dsimp only; omega)) dX8_make_95 (fun v h_95 n_95 p_95 => ?_)
    obtain ⟨f95, k95, A95, rfl, rfl, q95, r95, u95⟩ := p_95
    try dsimp only [Option.toList, List.cons_append, List.nil_append]
    refine o_goto (tgt := 132) hC dX8_make_98 (by decide) ?_
    refine o_vret hC hB dX8_make_132 (Nat.le_of_ble_eq_true rfl) (Nat.le_of_ble_eq_true rfl) ?_
    refine ⟨f95, k95, A95, rfl, rfl, hq1.tr q95, hop1.tr r95, ?_⟩
    unfold nfn
    rw [if_neg (by decide), if_neg (by decide), if_neg (by decide), if_pos rfl]
    rw [iN_nI (by omega), iN_nI (by omega)]
    exact u95
  · obtain ⟨b, b1, rfl, hwb, hbt0, hbk⟩ := hi (by decide)
    rw [n1 (by decide)]
    have b16 : b < 16 := by omega
    have hbt := hop1.tb w16 hbk.2.2 (by omega) hbt0 (by omega)
    obtain ⟨d, d1, rfl, hwd, hdt0, hdk⟩ := hj (by decide)
    rw [n2 (by decide)]
    have d16 : d < 16 := by omega
    have hdt := hop1.tb w26 hdk.2.2 (by omega) hdt0 (by omega)
    obtain ⟨rfl, rfl⟩ := hok.2.2.2.2.2.2.2.2.2.1 (Or.inl rfl)
    refine o_tableIn (off := 74) (tgt := 101) hC dX8_make_27 (by decide +kernel) (by decide +kernel) (by decide +kernel) (by decide) ?_
    refine o_aload_n hC dX8_make_101 (by rfl) ?_
    refine o_iload_n hC dX8_make_102 (by rfl) ?_
    refine o_iload_n hC dX8_make_103 (by rfl) ?_
    refine o_callV2 hC rl_BW_good rl_Ns_nw (by exact hB.2.2.2.2.2) YX8_makeUnite IX8_makeUnite VX8_makeUnite (mX8_169 hC) (by rw [hB.1]; exact cf_X8_makeUnite l D ids H0 _ _ m T _ _ _ S a b w w tb (some []) hq1.rf hs1 ha b16 (by omega) hw w6 hwb w16 hbt hbk hr0 rfl) (by exact hq1.1.1) rfl rfl (Nat.le_of_ble_eq_true rfl) (by rw [hB.2.1]; first | exact Nat.le_of_ble_eq_true rfl | (dsimp only; omega)) (by rw [hB.2.1]; first | exact Nat.le_of_ble_eq_true rfl | (dsimp only; omega)) (by rw [hB.2.1]; first | exact Nat.le_of_ble_eq_true rfl | (dsimp only; omega)) (by rw [hB.2.1]; first | exact Nat.le_of_ble_eq_true rfl | (dsimp only; omega)) dX8_make_104 (fun v h_104 n_104 p_104 => ?_)
    obtain ⟨f104, k104, A104, rfl, rfl, q104, r104, u104⟩ := p_104
    have hq2 := hq1.tr q104
    have hs2 := hq2.1.sa hs
    have hop2 := hop1.tr r104
    have hdt2 := hop2.tb w26 hdk.2.2 (by omega) hdt0 (by omega)
    try dsimp only [Option.toList, List.cons_append, List.nil_append]
    refine o_aload_n hC dX8_make_107 (by rfl) ?_
    refine o_iload_n hC dX8_make_108 (by rfl) ?_
    refine o_iload_n hC dX8_make_109 (by rfl) ?_
    refine o_callV2 hC rl_BW_good rl_Ns_nw (by exact hB.2.2.2.2.2) YX8_makeUnite IX8_makeUnite VX8_makeUnite (mX8_169 hC) (by rw [hB.1]; exact cf_X8_makeUnite l D ids H0 _ _ m T _ _ _ S a d w w td _ hq2.rf hs2 ha d16 (by omega) hw w6 hwd w26 hdt2 hdk u104 rfl) (by exact hq2.1.1) rfl rfl (Nat.le_of_ble_eq_true rfl) (by rw [hB.2.1]; first | exact Nat.le_of_ble_eq_true rfl | (dsimp only; omega)) (by rw [hB.2.1]; first | exact Nat.le_of_ble_eq_true rfl | (dsimp only; omega)) (by rw [hB.2.1]; first | exact Nat.le_of_ble_eq_true rfl | (dsimp only; omega)) (by rw [hB.2.1]; first | exact Nat.le_of_ble_eq_true rfl | (dsimp only; omega)) dX8_make_110 (fun v h_110 n_110 p_110 => ?_)
    obtain ⟨f110, k110, A110, rfl, rfl, q110, r110, u110⟩ := p_110
    try dsimp only [Option.toList, List.cons_append, List.nil_append]
    refine o_goto (tgt := 132) hC dX8_make_113 (by decide) ?_
    refine o_vret hC hB dX8_make_132 (Nat.le_of_ble_eq_true rfl) (Nat.le_of_ble_eq_true rfl) ?_
    refine ⟨f110, k110, A110, rfl, rfl, hq2.tr q110, hop2.tr r110, ?_⟩
    unfold nfn
    rw [if_neg (by decide), if_neg (by decide), if_neg (by decide), if_neg (by decide), if_pos rfl]
    exact u110
  · obtain ⟨b, b1, rfl, hwb, hbt0, hbk⟩ := hi (by decide)
    rw [n1 (by decide)]
    have b16 : b < 16 := by omega
    have hbt := hop1.tb w16 hbk.2.2 (by omega) hbt0 (by omega)
    obtain ⟨d, d1, rfl, hwd, hdt0, hdk⟩ := hj (by decide)
    rw [n2 (by decide)]
    have d16 : d < 16 := by omega
    have hdt := hop1.tb w26 hdk.2.2 (by omega) hdt0 (by omega)
    obtain ⟨rfl, rfl⟩ := hok.2.2.2.2.2.2.2.2.2.1 (Or.inr rfl)
    refine o_tableIn (off := 89) (tgt := 116) hC dX8_make_27 (by decide +kernel) (by decide +kernel) (by decide +kernel) (by decide) ?_
    refine o_aload_n hC dX8_make_116 (by rfl) ?_
    refine o_iload_n hC dX8_make_117 (by rfl) ?_
    refine o_iload_n hC dX8_make_118 (by rfl) ?_
    refine o_iload_n hC dX8_make_119 (by rfl) ?_
    refine o_callV3 hC rl_BW_good rl_Ns_nw (by exact hB.2.2.2.2.2) YX8_makeMinus IX8_makeMinus VX8_makeMinus (mX8_172 hC) (by rw [hB.1]; exact cf_X8_makeMinus l D ids H0 _ _ m T _ _ _ S a b d w w w tb td (some []) hq1.rf hs1 ha b16 (by omega) hw w6 hwb w16 hbt hbk hr0 d16 (by omega) hwd w26 hdt hdk rfl rfl) (by exact hq1.1.1) rfl rfl (Nat.le_of_ble_eq_true rfl) (by rw [hB.2.1]; first | exact Nat.le_of_ble_eq_true rfl | (dsimp only; omega)) (by rw [hB.2.1]; first | exact Nat.le_of_ble_eq_true rfl | (dsimp only; omega)) (by rw [hB.2.1]; first | exact Nat.le_of_ble_eq_true rfl | (dsimp only; omega)) (by rw [hB.2.1]; first | exact Nat.le_of_ble_eq_true rfl | (dsimp only; omega)) dX8_make_120 (fun v h_120 n_120 p_120 => ?_)
    obtain ⟨f120, k120, A120, rfl, rfl, q120, r120, u120⟩ := p_120
    try dsimp only [Option.toList, List.cons_append, List.nil_append]
    refine o_goto (tgt := 132) hC dX8_make_123 (by decide) ?_
    refine o_vret hC hB dX8_make_132 (Nat.le_of_ble_eq_true rfl) (Nat.le_of_ble_eq_true rfl) ?_
    refine ⟨f120, k120, A120, rfl, rfl, hq1.tr q120, hop1.tr r120, ?_⟩
    unfold nfn
    rw [if_neg (by decide), if_neg (by decide), if_neg (by decide), if_neg (by decide), if_neg (by decide), if_pos rfl]
    exact u120
  · obtain ⟨b, b1, rfl, hwb, hbt0, hbk⟩ := hi (by decide)
    rw [n1 (by decide)]
    have b16 : b < 16 := by omega
    have hbt := hop1.tb w16 hbk.2.2 (by omega) hbt0 (by omega)
    obtain ⟨rfl, ⟨c4, h4, rfl⟩, ⟨c5, h5, rfl⟩, kd, h6, rfl⟩ := hok.2.2.2.2.2.2.2.2.2.2 rfl
    obtain ⟨m1, m2, m3⟩ := n6 rfl
    refine o_tableOut (tgt := 126) hC dX8_make_27 (by decide +kernel) (by decide) ?_
    refine o_aload_n hC dX8_make_126 (by rfl) ?_
    refine o_iload_n hC dX8_make_127 (by rfl) ?_
    refine o_iload_n hC dX8_make_128 (by rfl) ?_
    refine o_callV2 hC rl_BW_good rl_Ns_nw (by exact hB.2.2.2.2.2) YX8_makeFold IX8_makeFold VX8_makeFold (mX8_175 hC) (by rw [hB.1]; exact cf_X8_makeFold l D ids H0 _ _ m T _ _ _ S a b 2 wb c4 c5 kd tb (some []) hq1.rf hs1 ha b16 (by omega) hw w6 hwb w16 hbt hbk hr0 rfl m1 h4 m2 h5 m3 h6) (by exact hq1.1.1) rfl rfl (Nat.le_of_ble_eq_true rfl) (by rw [hB.2.1]; first | exact Nat.le_of_ble_eq_true rfl | (dsimp only; omega)) (by rw [hB.2.1]; first | exact Nat.le_of_ble_eq_true rfl | (dsimp only; omega)) (by rw [hB.2.1]; first | exact Nat.le_of_ble_eq_true rfl | (dsimp only; omega)) (by rw [hB.2.1]; first | exact Nat.le_of_ble_eq_true rfl | (dsimp only; omega)) dX8_make_129 (fun v h_129 n_129 p_129 => ?_)
    obtain ⟨f129, k129, A129, rfl, rfl, q129, r129, u129⟩ := p_129
    try dsimp only [Option.toList, List.cons_append, List.nil_append]
    refine o_vret hC hB dX8_make_132 (Nat.le_of_ble_eq_true rfl) (Nat.le_of_ble_eq_true rfl) ?_
    refine ⟨f129, k129, A129, rfl, rfl, hq1.tr q129, hop1.tr r129, ?_⟩
    unfold nfn
    rw [if_neg (by decide), if_neg (by decide), if_neg (by decide), if_neg (by decide), if_neg (by decide), if_neg (by decide)]
    rw [iN_nI (by omega), iN_nI (by omega), iN_nI (by omega)]
    exact u129
