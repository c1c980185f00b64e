/-! THE MODEL by shapes: join, minus, fold -/
theorem md_shl : ∀ q : Nat, q ≤ 4 → nI 1 <<< (nI q &&& 31) ≤ nI 16 := by decide +kernel

set_option maxHeartbeats 4000000 in
set_option maxRecDepth 100000 in
theorem cm_X8_makeJoin (l : Launch) (D : va_G) (ids : Nat → ClassId) (H0 : Heap) (h : rl_H) (n : Nat) (m : Nat) (T : md_T) (fu : Int32) (k : Nat) (S : md_A) (a b d w wb wd ca cb : Nat) (hq : mq ids h h m T fu k) (hs : md_sa ids h m S) (ha : a < 16) (hb : b < 16) (hw : S.2.2.2.2.2.2.2.2.2.2 a = nI w) (hw6 : w ≤ 6) (hwb : S.2.2.2.2.2.2.2.2.2.2 b = nI wb) (hwb6 : wb ≤ 6) (hd : d < 16) (hwd : S.2.2.2.2.2.2.2.2.2.2 d = nI wd) (hwd6 : wd ≤ 6) (hnA : S.2.2.2.2.2.2.1 a = nI ca) (hca : ca < 6) (hnB : S.2.2.2.2.2.2.2.1 a = nI cb) (hcb : cb < 6) (hsum : wb + wd ≤ 6) : rl_Met l (rl_e D ids H0) rl_BW rl_Ns yX8_makeJoin cX8_makeJoin 7 none ({ frames := 4, cells := 0, slots := 0, locals := 98 }) [.ref m, .int (nI a), .int (nI b), .int (nI d)] h n (fun v h' n' => v = none ∧ n' = n ∧ ∃ (fu' : Int32) (k' : Nat), mq ids h h' m T fu' k') := by
  refine rl_Met.of (by decide +kernel) (Nat.le_of_ble_eq_true rfl) ?_
  intro X hC hB
  have loop : ∀ (mm t : Nat) (h1 : rl_H) (f1 : Int32) (k1 : Nat) (o5 o6 : Option Value), t + mm = 80 → mq ids h h1 m T f1 k1 → rl_G X (rl_e D ids H0) 3 [some (.ref m), some (.int (nI a)), some (.int (nI b)), some (.int (nI d)), some (.int (nI t)), o5, o6] [] h1 n 0 0 := by
    intro mm
    induction mm with
    | zero =>
      intro t h1 f1 k1 o5 o6 hm hq1
      have hs1 := hq1.sa hs
      obtain ⟨g0, gk, ⟨⟨cl, g12⟩, ⟨tu, g13, b13⟩, ⟨im, g14⟩, ⟨te, g15, b15⟩, ⟨ne, g16⟩, ⟨la, g17⟩, ⟨hn, g18⟩, ⟨hl, g19⟩, ⟨tp, g20⟩, ⟨gr, g21, b21⟩, ⟨it, g22⟩⟩, gf⟩ := id hq1
      obtain ⟨a1, a2, a3, a4, a5, a6, a7, a8, a9, a10, a11⟩ := id hs1
      refine o_iload hC dX8_makeJoin_3 (by rfl) ?_
      refine o_aload_n hC dX8_makeJoin_5 (by rfl) ?_
      refine o_getf hC (fX8_46 hC rfl) dX8_makeJoin_6 (by repeat (first | with_reducible assumption | (rw [rl_u_s]; done) | (rw [rl_u_s]; rfl) | rw [rl_u_n (by first | with_reducible assumption | omega)])) (by first | rfl | with_reducible assumption) ?_
      refine o_iload_n hC dX8_makeJoin_9 (by rfl) ?_
      obtain ⟨t10, ht10, et10⟩ := b13 b (by omega)
      refine o_ialdN (t0 := 0) (k := b) hC rfl dX8_makeJoin_10 (by repeat (first | with_reducible assumption | (rw [rl_u_s]; done) | (rw [rl_u_s]; rfl) | rw [rl_u_n (by first | with_reducible assumption | omega)])) (by omega) (by decide) ?_
      rw [et10]
      refine o_icmp_ge (tgt := 161) hC dX8_makeJoin_11 (by decide) (fun c_11 => ?_) (fun c_11 => ?_)
      · refine o_vret hC hB dX8_makeJoin_161 (Nat.le_of_ble_eq_true rfl) (Nat.le_of_ble_eq_true rfl) ?_
        exact ⟨rfl, rfl, _, _, hq1⟩
      · exact absurd (nI_le (by omega) (by omega)) c_11
    | succ mm ih =>
      intro t h1 f1 k1 o5 o6 hm hq1
      have loopU : ∀ (m2 u : Nat) (h2 : rl_H) (f2 : Int32) (k2 : Nat) (o6 : Option Value), u + m2 = 80 → mq ids h h2 m T f2 k2 → rl_G X (rl_e D ids H0) 17 [some (.ref m), some (.int (nI a)), some (.int (nI b)), some (.int (nI d)), some (.int (nI t)), some (.int (nI u)), o6] [] h2 n 0 0 := by
        intro m2
        induction m2 with
        | zero =>
          intro u h2 f2 k2 o6 hm2 hq2
          have hs1 := hq2.sa hs
          obtain ⟨g0, gk, ⟨⟨cl, g12⟩, ⟨tu, g13, b13⟩, ⟨im, g14⟩, ⟨te, g15, b15⟩, ⟨ne, g16⟩, ⟨la, g17⟩, ⟨hn, g18⟩, ⟨hl, g19⟩, ⟨tp, g20⟩, ⟨gr, g21, b21⟩, ⟨it, g22⟩⟩, gf⟩ := id hq2
          obtain ⟨a1, a2, a3, a4, a5, a6, a7, a8, a9, a10, a11⟩ := id hs1
          refine o_iload hC dX8_makeJoin_17 (by rfl) ?_
          refine o_aload_n hC dX8_makeJoin_19 (by rfl) ?_
          refine o_getf hC (fX8_46 hC rfl) dX8_makeJoin_20 (by repeat (first | with_reducible assumption | (rw [rl_u_s]; done) | (rw [rl_u_s]; rfl) | rw [rl_u_n (by first | with_reducible assumption | omega)])) (by first | rfl | with_reducible assumption) ?_
          refine o_iload_n hC dX8_makeJoin_23 (by rfl) ?_
          obtain ⟨t24, ht24, et24⟩ := b13 d (by omega)
          refine o_ialdN (t0 := 0) (k := d) hC rfl dX8_makeJoin_24 (by repeat (first | with_reducible assumption | (rw [rl_u_s]; done) | (rw [rl_u_s]; rfl) | rw [rl_u_n (by first | with_reducible assumption | omega)])) (by omega) (by decide) ?_
          rw [et24]
          refine o_icmp_ge (tgt := 155) hC dX8_makeJoin_25 (by decide) (fun c_25 => ?_) (fun c_25 => ?_)
          · refine o_iinc hC dX8_makeJoin_155 (by rfl) (rl_inc _) (Nat.le_of_ble_eq_true rfl) ?_
            refine o_goto (tgt := 3) hC dX8_makeJoin_158 (by decide) ?_
            exact ih (t + 1) _ _ _ _ _ (by omega) hq2
          · exact absurd (nI_le (by omega) (by omega)) c_25
        | succ m2 ih2 =>
          intro u h2 f2 k2 o6 hm2 hq2
          have loopC : ∀ (m3 c : Nat) (h3 : rl_H) (f3 : Int32) (k3 : Nat), c + m3 = wd → mq ids h h3 m T f3 k3 → rl_G X (rl_e D ids H0) 101 [some (.ref m), some (.int (nI a)), some (.int (nI b)), some (.int (nI d)), some (.int (nI t)), some (.int (nI u)), some (.int (nI c))] [] h3 n 0 0 := by
            intro m3
            induction m3 with
            | zero =>
              intro c h3 f3 k3 hm3 hq3
              have hs1 := hq3.sa hs
              obtain ⟨g0, gk, ⟨⟨cl, g12⟩, ⟨tu, g13, b13⟩, ⟨im, g14⟩, ⟨te, g15, b15⟩, ⟨ne, g16⟩, ⟨la, g17⟩, ⟨hn, g18⟩, ⟨hl, g19⟩, ⟨tp, g20⟩, ⟨gr, g21, b21⟩, ⟨it, g22⟩⟩, gf⟩ := id hq3
              obtain ⟨a1, a2, a3, a4, a5, a6, a7, a8, a9, a10, a11⟩ := id hs1
              refine o_iload hC dX8_makeJoin_101 (by rfl) ?_
              refine o_aload_n hC dX8_makeJoin_103 (by rfl) ?_
              refine o_getf hC (fX8_40 hC rfl) dX8_makeJoin_104 (by repeat (first | with_reducible assumption | (rw [rl_u_s]; done) | (rw [rl_u_s]; rfl) | rw [rl_u_n (by first | with_reducible assumption | omega)])) (by first | rfl | with_reducible assumption) ?_
              refine o_iload_n hC dX8_makeJoin_107 (by rfl) ?_
              refine o_ialdN (t0 := 0) (k := d) hC rfl dX8_makeJoin_108 (by repeat (first | with_reducible assumption | (rw [rl_u_s]; done) | (rw [rl_u_s]; rfl) | rw [rl_u_n (by first | with_reducible assumption | omega)])) (by omega) (by decide) ?_
              rw [hwd]
              refine o_icmp_ge (tgt := 141) hC dX8_makeJoin_109 (by decide) (fun c_109 => ?_) (fun c_109 => ?_)
              · refine o_aload_n hC dX8_makeJoin_141 (by rfl) ?_
                refine o_iload_n hC dX8_makeJoin_142 (by rfl) ?_
                refine o_sipush (v := nI 1360) hC dX8_makeJoin_143 (by decide +kernel) ?_
                refine o_callV2 hC rl_BW_good rl_Ns_nw (by exact hB.2.2.2.2.2) YX8_comes IX8_comes VX8_comes (mX8_178 hC) (by rw [hB.1]; exact cm_X8_comes l D ids H0 _ _ m T _ _ S a 1360 w hq3.rf hs1 (by omega) (by omega) hw hw6) (by exact hq3.1) rfl rfl (Nat.le_of_ble_eq_true rfl) (by rw [hB.2.1]; first | exact Nat.le_of_ble_eq_true rfl | (dsimp only; omega)) (by rw [hB.2.1]; first | exact Nat.le_of_ble_eq_true rfl | (dsimp only; omega)) (by rw [hB.2.1]; first | exact Nat.le_of_ble_eq_true rfl | (dsimp only; omega)) (by rw [hB.2.1]; first | exact Nat.le_of_ble_eq_true rfl | (dsimp only; omega)) dX8_makeJoin_146 (fun v h_146 n_146 p_146 => ?_)
                obtain ⟨rfl, rfl, f146, k146, q146⟩ := p_146
                try dsimp only [Option.toList, List.cons_append, List.nil_append]
                refine o_iinc hC dX8_makeJoin_149 (by rfl) (rl_inc _) (Nat.le_of_ble_eq_true rfl) ?_
                refine o_goto (tgt := 17) hC dX8_makeJoin_152 (by decide) ?_
                exact ih2 (u + 1) _ _ _ _ (by omega) (hq3.tr q146)
              · exact absurd (nI_le (by omega) (by omega)) c_109
            | succ m3 ih3 =>
              intro c h3 f3 k3 hm3 hq3
              have hs1 := hq3.sa hs
              obtain ⟨g0, gk, ⟨⟨cl, g12⟩, ⟨tu, g13, b13⟩, ⟨im, g14⟩, ⟨te, g15, b15⟩, ⟨ne, g16⟩, ⟨la, g17⟩, ⟨hn, g18⟩, ⟨hl, g19⟩, ⟨tp, g20⟩, ⟨gr, g21, b21⟩, ⟨it, g22⟩⟩, gf⟩ := id hq3
              obtain ⟨a1, a2, a3, a4, a5, a6, a7, a8, a9, a10, a11⟩ := id hs1
              refine o_iload hC dX8_makeJoin_101 (by rfl) ?_
              refine o_aload_n hC dX8_makeJoin_103 (by rfl) ?_
              refine o_getf hC (fX8_40 hC rfl) dX8_makeJoin_104 (by repeat (first | with_reducible assumption | (rw [rl_u_s]; done) | (rw [rl_u_s]; rfl) | rw [rl_u_n (by first | with_reducible assumption | omega)])) (by first | rfl | with_reducible assumption) ?_
              refine o_iload_n hC dX8_makeJoin_107 (by rfl) ?_
              refine o_ialdN (t0 := 0) (k := d) hC rfl dX8_makeJoin_108 (by repeat (first | with_reducible assumption | (rw [rl_u_s]; done) | (rw [rl_u_s]; rfl) | rw [rl_u_n (by first | with_reducible assumption | omega)])) (by omega) (by decide) ?_
              rw [hwd]
              refine o_icmp_ge (tgt := 141) hC dX8_makeJoin_109 (by decide) (fun c_109 => ?_) (fun c_109 => ?_)
              · exact absurd c_109 (nI_ge (by omega) (by omega))
              · refine o_aload_n hC dX8_makeJoin_112 (by rfl) ?_
                refine o_getf hC (fX8_69 hC rfl) dX8_makeJoin_113 (by repeat (first | with_reducible assumption | (rw [rl_u_s]; done) | (rw [rl_u_s]; rfl) | rw [rl_u_n (by first | with_reducible assumption | omega)])) (by first | rfl | with_reducible assumption) ?_
                refine o_aload_n hC dX8_makeJoin_116 (by rfl) ?_
                refine o_getf hC (fX8_40 hC rfl) dX8_makeJoin_117 (by repeat (first | with_reducible assumption | (rw [rl_u_s]; done) | (rw [rl_u_s]; rfl) | rw [rl_u_n (by first | with_reducible assumption | omega)])) (by first | rfl | with_reducible assumption) ?_
                refine o_iload_n hC dX8_makeJoin_120 (by rfl) ?_
                refine o_ialdN (t0 := 0) (k := b) hC rfl dX8_makeJoin_121 (by repeat (first | with_reducible assumption | (rw [rl_u_s]; done) | (rw [rl_u_s]; rfl) | rw [rl_u_n (by first | with_reducible assumption | omega)])) (by omega) (by decide) ?_
                rw [hwb]
                refine o_iload hC dX8_makeJoin_122 (by rfl) ?_
                refine o_iadd hC dX8_makeJoin_124 ?_
                try rw [nI_add]
                refine o_aload_n hC dX8_makeJoin_125 (by rfl) ?_
                refine o_iload_n hC dX8_makeJoin_126 (by rfl) ?_
                refine o_iload hC dX8_makeJoin_127 (by rfl) ?_
                refine o_iload hC dX8_makeJoin_129 (by rfl) ?_
                refine o_callV3 hC rl_BW_good rl_Ns_nw (by exact hB.2.2.2.2.2) YX8_cellAt IX8_cellAt VX8_cellAt (mX8_138 hC) (by rw [hB.1]; exact cm_X8_cellAt l D ids H0 _ _ m T _ _ d u c hq3.rf (by omega)) (by exact hq3.rf.1) rfl rfl (Nat.le_of_ble_eq_true rfl) (by rw [hB.2.1]; first | exact Nat.le_of_ble_eq_true rfl | (dsimp only; omega)) (by rw [hB.2.1]; first | exact Nat.le_of_ble_eq_true rfl | (dsimp only; omega)) (by rw [hB.2.1]; first | exact Nat.le_of_ble_eq_true rfl | (dsimp only; omega)) (by rw [hB.2.1]; first | exact Nat.le_of_ble_eq_true rfl | (dsimp only; omega)) dX8_makeJoin_131 (fun v h_131 n_131 p_131 => ?_)
                obtain ⟨r131, rfl, rfl, rfl⟩ := p_131
                try dsimp only [Option.toList, List.cons_append, List.nil_append]
                refine o_iastN (t0 := 0) hC rfl dX8_makeJoin_134 (by repeat (first | with_reducible assumption | (rw [rl_u_s]; done) | (rw [rl_u_s]; rfl) | rw [rl_u_n (by first | with_reducible assumption | omega)])) (by omega) (by decide) ?_
                refine o_iinc hC dX8_makeJoin_135 (by rfl) (rl_inc _) (Nat.le_of_ble_eq_true rfl) ?_
                refine o_goto (tgt := 101) hC dX8_makeJoin_138 (by decide) ?_
                exact ih3 (c + 1) _ _ _ (by omega) (hq3.s20 _)
          have hs1 := hq2.sa hs
          obtain ⟨g0, gk, ⟨⟨cl, g12⟩, ⟨tu, g13, b13⟩, ⟨im, g14⟩, ⟨te, g15, b15⟩, ⟨ne, g16⟩, ⟨la, g17⟩, ⟨hn, g18⟩, ⟨hl, g19⟩, ⟨tp, g20⟩, ⟨gr, g21, b21⟩, ⟨it, g22⟩⟩, gf⟩ := id hq2
          obtain ⟨a1, a2, a3, a4, a5, a6, a7, a8, a9, a10, a11⟩ := id hs1
          refine o_iload hC dX8_makeJoin_17 (by rfl) ?_
          refine o_aload_n hC dX8_makeJoin_19 (by rfl) ?_
          refine o_getf hC (fX8_46 hC rfl) dX8_makeJoin_20 (by repeat (first | with_reducible assumption | (rw [rl_u_s]; done) | (rw [rl_u_s]; rfl) | rw [rl_u_n (by first | with_reducible assumption | omega)])) (by first | rfl | with_reducible assumption) ?_
          refine o_iload_n hC dX8_makeJoin_23 (by rfl) ?_
          obtain ⟨t24, ht24, et24⟩ := b13 d (by omega)
          refine o_ialdN (t0 := 0) (k := d) hC rfl dX8_makeJoin_24 (by repeat (first | with_reducible assumption | (rw [rl_u_s]; done) | (rw [rl_u_s]; rfl) | rw [rl_u_n (by first | with_reducible assumption | omega)])) (by omega) (by decide) ?_
          rw [et24]
          refine o_icmp_ge (tgt := 155) hC dX8_makeJoin_25 (by decide) (fun c_25 => ?_) (fun c_25 => ?_)
          · refine o_iinc hC dX8_makeJoin_155 (by rfl) (rl_inc _) (Nat.le_of_ble_eq_true rfl) ?_
            refine o_goto (tgt := 3) hC dX8_makeJoin_158 (by decide) ?_
            exact ih (t + 1) _ _ _ _ _ (by omega) hq2
          · refine o_aload_n hC dX8_makeJoin_28 (by rfl) ?_
            refine o_getf hC (fX8_91 hC rfl) dX8_makeJoin_29 (by repeat (first | with_reducible assumption | (rw [rl_u_s]; done) | (rw [rl_u_s]; rfl) | rw [rl_u_n (by first | with_reducible assumption | omega)])) (by first | rfl | with_reducible assumption) ?_
            refine o_if_ne (tgt := 155) hC dX8_makeJoin_32 (by decide) (fun c_32 => ?_) (fun c_32 => ?_)
            · refine o_iinc hC dX8_makeJoin_155 (by rfl) (rl_inc _) (Nat.le_of_ble_eq_true rfl) ?_
              refine o_goto (tgt := 3) hC dX8_makeJoin_158 (by decide) ?_
              exact ih (t + 1) _ _ _ _ _ (by omega) hq2
            · refine o_aload_n hC dX8_makeJoin_35 (by rfl) ?_
              refine o_iload_n hC dX8_makeJoin_36 (by rfl) ?_
              refine o_iload hC dX8_makeJoin_37 (by rfl) ?_
              refine o_aload_n hC dX8_makeJoin_39 (by rfl) ?_
              refine o_getf hC (fX8_28 hC rfl) dX8_makeJoin_40 (by repeat (first | with_reducible assumption | (rw [rl_u_s]; done) | (rw [rl_u_s]; rfl) | rw [rl_u_n (by first | with_reducible assumption | omega)])) (by first | rfl | with_reducible assumption) ?_
              refine o_iload_n hC dX8_makeJoin_43 (by rfl) ?_
              refine o_ialdN (t0 := 0) (k := a) hC rfl dX8_makeJoin_44 (by repeat (first | with_reducible assumption | (rw [rl_u_s]; done) | (rw [rl_u_s]; rfl) | rw [rl_u_n (by first | with_reducible assumption | omega)])) (by omega) (by decide) ?_
              rw [hnA]
              refine o_callV3 hC rl_BW_good rl_Ns_nw (by exact hB.2.2.2.2.2) YX8_cellAt IX8_cellAt VX8_cellAt (mX8_138 hC) (by rw [hB.1]; exact cm_X8_cellAt l D ids H0 _ _ m T _ _ b t ca hq2.rf (by omega)) (by exact hq2.rf.1) rfl rfl (Nat.le_of_ble_eq_true rfl) (by rw [hB.2.1]; first | exact Nat.le_of_ble_eq_true rfl | (dsimp only; omega)) (by rw [hB.2.1]; first | exact Nat.le_of_ble_eq_true rfl | (dsimp only; omega)) (by rw [hB.2.1]; first | exact Nat.le_of_ble_eq_true rfl | (dsimp only; omega)) (by rw [hB.2.1]; first | exact Nat.le_of_ble_eq_true rfl | (dsimp only; omega)) dX8_makeJoin_45 (fun v h_45 n_45 p_45 => ?_)
              obtain ⟨r45, rfl, rfl, rfl⟩ := p_45
              try dsimp only [Option.toList, List.cons_append, List.nil_append]
              refine o_aload_n hC dX8_makeJoin_48 (by rfl) ?_
              refine o_iload_n hC dX8_makeJoin_49 (by rfl) ?_
              refine o_iload hC dX8_makeJoin_50 (by rfl) ?_
              refine o_aload_n hC dX8_makeJoin_52 (by rfl) ?_
              refine o_getf hC (fX8_31 hC rfl) dX8_makeJoin_53 (by repeat (first | with_reducible assumption | (rw [rl_u_s]; done) | (rw [rl_u_s]; rfl) | rw [rl_u_n (by first | with_reducible assumption | omega)])) (by first | rfl | with_reducible assumption) ?_
              refine o_iload_n hC dX8_makeJoin_56 (by rfl) ?_
              refine o_ialdN (t0 := 0) (k := a) hC rfl dX8_makeJoin_57 (by repeat (first | with_reducible assumption | (rw [rl_u_s]; done) | (rw [rl_u_s]; rfl) | rw [rl_u_n (by first | with_reducible assumption | omega)])) (by omega) (by decide) ?_
              rw [hnB]
              refine o_callV3 hC rl_BW_good rl_Ns_nw (by exact hB.2.2.2.2.2) YX8_cellAt IX8_cellAt VX8_cellAt (mX8_138 hC) (by rw [hB.1]; exact cm_X8_cellAt l D ids H0 _ _ m T _ _ d u cb hq2.rf (by omega)) (by exact hq2.rf.1) rfl rfl (Nat.le_of_ble_eq_true rfl) (by rw [hB.2.1]; first | exact Nat.le_of_ble_eq_true rfl | (dsimp only; omega)) (by rw [hB.2.1]; first | exact Nat.le_of_ble_eq_true rfl | (dsimp only; omega)) (by rw [hB.2.1]; first | exact Nat.le_of_ble_eq_true rfl | (dsimp only; omega)) (by rw [hB.2.1]; first | exact Nat.le_of_ble_eq_true rfl | (dsimp only; omega)) dX8_makeJoin_58 (fun v h_58 n_58 p_58 => ?_)
              obtain ⟨r58, rfl, rfl, rfl⟩ := p_58
              try dsimp only [Option.toList, List.cons_append, List.nil_append]
              refine o_icmp_ne (tgt := 149) hC dX8_makeJoin_61 (by decide) (fun c_61 => ?_) (fun c_61 => ?_)
              · refine o_iinc hC dX8_makeJoin_149 (by rfl) (rl_inc _) (Nat.le_of_ble_eq_true rfl) ?_
                refine o_goto (tgt := 17) hC dX8_makeJoin_152 (by decide) ?_
                exact ih2 (u + 1) _ _ _ _ (by omega) hq2
              · refine o_aload_n hC dX8_makeJoin_64 (by rfl) ?_
                refine o_sipush (v := nI 1360) hC dX8_makeJoin_65 (by decide +kernel) ?_
                refine o_bipush (v := nI 80) hC dX8_makeJoin_68 (by decide +kernel) ?_
                refine o_iload_n hC dX8_makeJoin_70 (by rfl) ?_
                refine o_imul hC dX8_makeJoin_71 ?_
                try rw [nI_mul]
                refine o_iload hC dX8_makeJoin_72 (by rfl) ?_
                refine o_iadd hC dX8_makeJoin_74 ?_
                try rw [nI_add]
                refine o_bipush (v := nI 80) hC dX8_makeJoin_75 (by decide +kernel) ?_
                refine o_iload_n hC dX8_makeJoin_77 (by rfl) ?_
                refine o_imul hC dX8_makeJoin_78 ?_
                try rw [nI_mul]
                refine o_iload hC dX8_makeJoin_79 (by rfl) ?_
                refine o_iadd hC dX8_makeJoin_81 ?_
                try rw [nI_add]
                refine o_callV3 hC rl_BW_good rl_Ns_nw (by exact hB.2.2.2.2.2) YX8_both IX8_both VX8_both (mX8_184 hC) (by rw [hB.1]; exact cm_X8_both l D ids H0 _ _ m T _ _ 1360 (80 * b + t) (80 * d + u) hq2.rf (by omega) (by omega) (by omega)) (by exact hq2.1) rfl rfl (Nat.le_of_ble_eq_true rfl) (by rw [hB.2.1]; first | exact Nat.le_of_ble_eq_true rfl | (dsimp only; omega)) (by rw [hB.2.1]; first | exact Nat.le_of_ble_eq_true rfl | (dsimp only; omega)) (by rw [hB.2.1]; first | exact Nat.le_of_ble_eq_true rfl | (dsimp only; omega)) (by rw [hB.2.1]; first | exact Nat.le_of_ble_eq_true rfl | (dsimp only; omega)) dX8_makeJoin_82 (fun v h_82 n_82 p_82 => ?_)
                obtain ⟨rfl, rfl, f82, k82, q82⟩ := p_82
                have hq4 := hq2.tr q82
                have hs4 := hq4.sa hs
                have g04 := hq4.1
                obtain ⟨-, -, -, -, -, -, -, -, -, -, a11⟩ := id hs4
                try dsimp only [Option.toList, List.cons_append, List.nil_append]
                refine o_aload_n hC dX8_makeJoin_85 (by rfl) ?_
                refine o_iload_n hC dX8_makeJoin_86 (by rfl) ?_
                refine o_iload hC dX8_makeJoin_87 (by rfl) ?_
                refine o_aload_n hC dX8_makeJoin_89 (by rfl) ?_
                refine o_getf hC (fX8_40 hC rfl) dX8_makeJoin_90 (by repeat (first | with_reducible assumption | (rw [rl_u_s]; done) | (rw [rl_u_s]; rfl) | rw [rl_u_n (by first | with_reducible assumption | omega)])) (by first | rfl | with_reducible assumption) ?_
                refine o_iload_n hC dX8_makeJoin_93 (by rfl) ?_
                refine o_ialdN (t0 := 0) (k := b) hC rfl dX8_makeJoin_94 (by repeat (first | with_reducible assumption | (rw [rl_u_s]; done) | (rw [rl_u_s]; rfl) | rw [rl_u_n (by first | with_reducible assumption | omega)])) (by omega) (by decide) ?_
                rw [hwb]
                refine o_callV3 hC rl_BW_good rl_Ns_nw (by exact hB.2.2.2.2.2) YX8_take IX8_take VX8_take (mX8_181 hC) (by rw [hB.1]; exact cm_X8_take l D ids H0 _ _ m T _ _ b t wb hq4.rf (by omega) (by omega) hwb6) (by exact hq4.1) rfl rfl (Nat.le_of_ble_eq_true rfl) (by rw [hB.2.1]; first | exact Nat.le_of_ble_eq_true rfl | (dsimp only; omega)) (by rw [hB.2.1]; first | exact Nat.le_of_ble_eq_true rfl | (dsimp only; omega)) (by rw [hB.2.1]; first | exact Nat.le_of_ble_eq_true rfl | (dsimp only; omega)) (by rw [hB.2.1]; first | exact Nat.le_of_ble_eq_true rfl | (dsimp only; omega)) dX8_makeJoin_95 (fun v h_95 n_95 p_95 => ?_)
                obtain ⟨rfl, rfl, q95⟩ := p_95
                have hq5 := hq4.tr q95
                try dsimp only [Option.toList, List.cons_append, List.nil_append]
                refine o_iconst (v := nI 0) hC dX8_makeJoin_98 (by decide +kernel) ?_
                refine o_istore hC dX8_makeJoin_99 (Nat.le_of_ble_eq_true rfl) ?_
                exact loopC wd 0 _ _ _ (by omega) hq5
      have hs1 := hq1.sa hs
      obtain ⟨g0, gk, ⟨⟨cl, g12⟩, ⟨tu, g13, b13⟩, ⟨im, g14⟩, ⟨te, g15, b15⟩, ⟨ne, g16⟩, ⟨la, g17⟩, ⟨hn, g18⟩, ⟨hl, g19⟩, ⟨tp, g20⟩, ⟨gr, g21, b21⟩, ⟨it, g22⟩⟩, gf⟩ := id hq1
      obtain ⟨a1, a2, a3, a4, a5, a6, a7, a8, a9, a10, a11⟩ := id hs1
      refine o_iload hC dX8_makeJoin_3 (by rfl) ?_
      refine o_aload_n hC dX8_makeJoin_5 (by rfl) ?_
      refine o_getf hC (fX8_46 hC rfl) dX8_makeJoin_6 (by repeat (first | with_reducible assumption | (rw [rl_u_s]; done) | (rw [rl_u_s]; rfl) | rw [rl_u_n (by first | with_reducible assumption | omega)])) (by first | rfl | with_reducible assumption) ?_
      refine o_iload_n hC dX8_makeJoin_9 (by rfl) ?_
      obtain ⟨t10, ht10, et10⟩ := b13 b (by omega)
      refine o_ialdN (t0 := 0) (k := b) hC rfl dX8_makeJoin_10 (by repeat (first | with_reducible assumption | (rw [rl_u_s]; done) | (rw [rl_u_s]; rfl) | rw [rl_u_n (by first | with_reducible assumption | omega)])) (by omega) (by decide) ?_
      rw [et10]
      refine o_icmp_ge (tgt := 161) hC dX8_makeJoin_11 (by decide) (fun c_11 => ?_) (fun c_11 => ?_)
      · refine o_vret hC hB dX8_makeJoin_161 (Nat.le_of_ble_eq_true rfl) (Nat.le_of_ble_eq_true rfl) ?_
        exact ⟨rfl, rfl, _, _, hq1⟩
      · refine o_iconst (v := nI 0) hC dX8_makeJoin_14 (by decide +kernel) ?_
        refine o_istore hC dX8_makeJoin_15 (Nat.le_of_ble_eq_true rfl) ?_
        exact loopU 80 0 _ _ _ _ (by omega) hq1
  show rl_G X (rl_e D ids H0) 0 [some (.ref m), some (.int (nI a)), some (.int (nI b)), some (.int (nI d)), none, none, none] [] h n 0 0
  refine o_iconst (v := nI 0) hC dX8_makeJoin_0 (by decide +kernel) ?_
  refine o_istore hC dX8_makeJoin_1 (Nat.le_of_ble_eq_true rfl) ?_
  exact loop 80 0 _ _ _ _ _ (by omega) hq

set_option maxHeartbeats 4000000 in
set_option maxRecDepth 100000 in
theorem cm_X8_makeMinus (l : Launch) (D : va_G) (ids : Nat → ClassId) (H0 : Heap) (h : rl_H) (n : Nat) (m : Nat) (T : md_T) (fu : Int32) (k : Nat) (S : md_A) (a b d w wb wd : Nat) (hq : mq ids h h m T fu k) (hs : md_sa ids h m S) (ha : a < 16) (hb : b < 16) (hw : S.2.2.2.2.2.2.2.2.2.2 a = nI w) (hw6 : w ≤ 6) (hwb : S.2.2.2.2.2.2.2.2.2.2 b = nI wb) (hwb6 : wb ≤ 6) (hd : d < 16) (hwd : S.2.2.2.2.2.2.2.2.2.2 d = nI wd) (hwd6 : wd ≤ 6)  : rl_Met l (rl_e D ids H0) rl_BW rl_Ns yX8_makeMinus cX8_makeMinus 7 none ({ frames := 4, cells := 0, slots := 0, locals := 98 }) [.ref m, .int (nI a), .int (nI b), .int (nI d)] h n (fun v h' n' => v = none ∧ n' = n ∧ ∃ (fu' : Int32) (k' : Nat), mq ids h h' m T fu' k') := by
  refine rl_Met.of (by decide +kernel) (Nat.le_of_ble_eq_true rfl) ?_
  intro X hC hB
  have loop : ∀ (mm t : Nat) (h1 : rl_H) (f1 : Int32) (k1 : Nat) (o5 o6 : Option Value), t + mm = 80 → mq ids h h1 m T f1 k1 → rl_G X (rl_e D ids H0) 3 [some (.ref m), some (.int (nI a)), some (.int (nI b)), some (.int (nI d)), some (.int (nI t)), o5, o6] [] h1 n 0 0 := by
    intro mm
    induction mm with
    | zero =>
      intro t h1 f1 k1 o5 o6 hm hq1
      have hs1 := hq1.sa hs
      obtain ⟨g0, gk, ⟨⟨cl, g12⟩, ⟨tu, g13, b13⟩, ⟨im, g14⟩, ⟨te, g15, b15⟩, ⟨ne, g16⟩, ⟨la, g17⟩, ⟨hn, g18⟩, ⟨hl, g19⟩, ⟨tp, g20⟩, ⟨gr, g21, b21⟩, ⟨it, g22⟩⟩, gf⟩ := id hq1
      obtain ⟨a1, a2, a3, a4, a5, a6, a7, a8, a9, a10, a11⟩ := id hs1
      refine o_iload hC dX8_makeMinus_3 (by rfl) ?_
      refine o_aload_n hC dX8_makeMinus_5 (by rfl) ?_
      refine o_getf hC (fX8_46 hC rfl) dX8_makeMinus_6 (by repeat (first | with_reducible assumption | (rw [rl_u_s]; done) | (rw [rl_u_s]; rfl) | rw [rl_u_n (by first | with_reducible assumption | omega)])) (by first | rfl | with_reducible assumption) ?_
      refine o_iload_n hC dX8_makeMinus_9 (by rfl) ?_
      obtain ⟨t10, ht10, et10⟩ := b13 b (by omega)
      refine o_ialdN (t0 := 0) (k := b) hC rfl dX8_makeMinus_10 (by repeat (first | with_reducible assumption | (rw [rl_u_s]; done) | (rw [rl_u_s]; rfl) | rw [rl_u_n (by first | with_reducible assumption | omega)])) (by omega) (by decide) ?_
      rw [et10]
      refine o_icmp_ge (tgt := 149) hC dX8_makeMinus_11 (by decide) (fun c_11 => ?_) (fun c_11 => ?_)
      · refine o_vret hC hB dX8_makeMinus_149 (Nat.le_of_ble_eq_true rfl) (Nat.le_of_ble_eq_true rfl) ?_
        exact ⟨rfl, rfl, _, _, hq1⟩
      · exact absurd (nI_le (by omega) (by omega)) c_11
    | succ mm ih =>
      intro t h1 f1 k1 o5 o6 hm hq1
      have loopK : ∀ (m2 i : Nat) (h2 : rl_H) (f2 : Int32) (k2 : Nat) (u : Int32), i + m2 = 80 → mq ids h h2 m T f2 k2 → (u = -1 ∨ ∃ j : Nat, j < 80 ∧ u = nI j) → rl_G X (rl_e D ids H0) 40 [some (.ref m), some (.int (nI a)), some (.int (nI b)), some (.int (nI d)), some (.int (nI t)), some (.int u), some (.int (nI i))] [] h2 n 0 0 := by
        intro m2
        have fin : ∀ (h2 : rl_H) (f2 : Int32) (k2 : Nat) (u : Int32) (o6 : Option Value), mq ids h h2 m T f2 k2 → (u = -1 ∨ ∃ j : Nat, j < 80 ∧ u = nI j) → rl_G X (rl_e D ids H0) 76 [some (.ref m), some (.int (nI a)), some (.int (nI b)), some (.int (nI d)), some (.int (nI t)), some (.int u), o6] [] h2 n 0 0 := by
          intro h2 f2 k2 u o6 hq2 hu
          have hs1 := hq2.sa hs
          obtain ⟨g0, gk, ⟨⟨cl, g12⟩, ⟨tu, g13, b13⟩, ⟨im, g14⟩, ⟨te, g15, b15⟩, ⟨ne, g16⟩, ⟨la, g17⟩, ⟨hn, g18⟩, ⟨hl, g19⟩, ⟨tp, g20⟩, ⟨gr, g21, b21⟩, ⟨it, g22⟩⟩, gf⟩ := id hq2
          obtain ⟨a1, a2, a3, a4, a5, a6, a7, a8, a9, a10, a11⟩ := id hs1
          refine o_iload hC dX8_makeMinus_76 (by rfl) ?_
          refine o_iconst (v := (-1 : Int32)) hC dX8_makeMinus_78 (by decide +kernel) ?_
          refine o_icmp_ne (tgt := 97) hC dX8_makeMinus_79 (by decide) (fun c_79 => ?_) (fun c_79 => ?_)
          · obtain ⟨j, hj, rfl⟩ := hu.resolve_left c_79
            refine o_aload_n hC dX8_makeMinus_97 (by rfl) ?_
            refine o_sipush (v := nI 1361) hC dX8_makeMinus_98 (by decide +kernel) ?_
            refine o_bipush (v := nI 80) hC dX8_makeMinus_101 (by decide +kernel) ?_
            refine o_iload_n hC dX8_makeMinus_103 (by rfl) ?_
            refine o_imul hC dX8_makeMinus_104 ?_
            try rw [nI_mul]
            refine o_iload hC dX8_makeMinus_105 (by rfl) ?_
            refine o_iadd hC dX8_makeMinus_107 ?_
            try rw [nI_add]
            refine o_callV2 hC rl_BW_good rl_Ns_nw (by exact hB.2.2.2.2.2) YX8_not IX8_not VX8_not (mX8_187 hC) (by rw [hB.1]; exact cm_X8_not l D ids H0 _ _ m T _ _ 1361 (80 * d + j) hq2.rf (by omega) (by omega)) (by exact hq2.1) rfl rfl (Nat.le_of_ble_eq_true rfl) (by rw [hB.2.1]; first | exact Nat.le_of_ble_eq_true rfl | (dsimp only; omega)) (by rw [hB.2.1]; first | exact Nat.le_of_ble_eq_true rfl | (dsimp only; omega)) (by rw [hB.2.1]; first | exact Nat.le_of_ble_eq_true rfl | (dsimp only; omega)) (by rw [hB.2.1]; first | exact Nat.le_of_ble_eq_true rfl | (dsimp only; omega)) dX8_makeMinus_108 (fun v h_108 n_108 p_108 => ?_)
            obtain ⟨rfl, rfl, f108, k108, q108⟩ := p_108
            have hq4 := hq2.tr q108
            have hs4 := hq4.sa hs
            have g04 := hq4.1
            try dsimp only [Option.toList, List.cons_append, List.nil_append]
            refine o_aload_n hC dX8_makeMinus_111 (by rfl) ?_
            refine o_getf hC (fX8_91 hC rfl) dX8_makeMinus_112 (by repeat (first | with_reducible assumption | (rw [rl_u_s]; done) | (rw [rl_u_s]; rfl) | rw [rl_u_n (by first | with_reducible assumption | omega)])) (by first | rfl | with_reducible assumption) ?_
            refine o_if_ne (tgt := 135) hC dX8_makeMinus_115 (by decide) (fun c_115 => ?_) (fun c_115 => ?_)
            · refine o_aload_n hC dX8_makeMinus_135 (by rfl) ?_
              refine o_iload_n hC dX8_makeMinus_136 (by rfl) ?_
              refine o_sipush (v := nI 1360) hC dX8_makeMinus_137 (by decide +kernel) ?_
              refine o_callV2 hC rl_BW_good rl_Ns_nw (by exact hB.2.2.2.2.2) YX8_comes IX8_comes VX8_comes (mX8_178 hC) (by rw [hB.1]; exact (by first | exact cm_X8_comes l D ids H0 _ _ m T _ _ S a 1360 w hq5.rf hs5 (by omega) (by omega) hw hw6 | exact cm_X8_comes l D ids H0 _ _ m T _ _ S a 1360 w hq4.rf hs4 (by omega) (by omega) hw hw6)) (by first | exact hq5.1 | exact hq4.1) rfl rfl (Nat.le_of_ble_eq_true rfl) (by rw [hB.2.1]; first | exact Nat.le_of_ble_eq_true rfl | (dsimp only; omega)) (by rw [hB.2.1]; first | exact Nat.le_of_ble_eq_true rfl | (dsimp only; omega)) (by rw [hB.2.1]; first | exact Nat.le_of_ble_eq_true rfl | (dsimp only; omega)) (by rw [hB.2.1]; first | exact Nat.le_of_ble_eq_true rfl | (dsimp only; omega)) dX8_makeMinus_140 (fun v h_140 n_140 p_140 => ?_)
              obtain ⟨rfl, rfl, f140, k140, q140⟩ := p_140
              try dsimp only [Option.toList, List.cons_append, List.nil_append]
              refine o_iinc hC dX8_makeMinus_143 (by rfl) (rl_inc _) (Nat.le_of_ble_eq_true rfl) ?_
              refine o_goto (tgt := 3) hC dX8_makeMinus_146 (by decide) ?_
              first
              | exact ih (t + 1) _ _ _ _ _ (by omega) (hq2.tr q91)
              | exact ih (t + 1) _ _ _ _ _ (by omega) (hq5.tr q140)
              | exact ih (t + 1) _ _ _ _ _ (by omega) (hq4.tr q140)
            · refine o_aload_n hC dX8_makeMinus_118 (by rfl) ?_
              refine o_sipush (v := nI 1360) hC dX8_makeMinus_119 (by decide +kernel) ?_
              refine o_bipush (v := nI 80) hC dX8_makeMinus_122 (by decide +kernel) ?_
              refine o_iload_n hC dX8_makeMinus_124 (by rfl) ?_
              refine o_imul hC dX8_makeMinus_125 ?_
              try rw [nI_mul]
              refine o_iload hC dX8_makeMinus_126 (by rfl) ?_
              refine o_iadd hC dX8_makeMinus_128 ?_
              try rw [nI_add]
              refine o_sipush (v := nI 1361) hC dX8_makeMinus_129 (by decide +kernel) ?_
              refine o_callV3 hC rl_BW_good rl_Ns_nw (by exact hB.2.2.2.2.2) YX8_both IX8_both VX8_both (mX8_184 hC) (by rw [hB.1]; exact cm_X8_both l D ids H0 _ _ m T _ _ 1360 (80 * b + t) 1361 hq4.rf (by omega) (by omega) (by omega)) (by exact hq4.1) rfl rfl (Nat.le_of_ble_eq_true rfl) (by rw [hB.2.1]; first | exact Nat.le_of_ble_eq_true rfl | (dsimp only; omega)) (by rw [hB.2.1]; first | exact Nat.le_of_ble_eq_true rfl | (dsimp only; omega)) (by rw [hB.2.1]; first | exact Nat.le_of_ble_eq_true rfl | (dsimp only; omega)) (by rw [hB.2.1]; first | exact Nat.le_of_ble_eq_true rfl | (dsimp only; omega)) dX8_makeMinus_132 (fun v h_132 n_132 p_132 => ?_)
              obtain ⟨rfl, rfl, f132, k132, q132⟩ := p_132
              have hq5 := hq4.tr q132
              have hs5 := hq5.sa hs
              try dsimp only [Option.toList, List.cons_append, List.nil_append]
              refine o_aload_n hC dX8_makeMinus_135 (by rfl) ?_
              refine o_iload_n hC dX8_makeMinus_136 (by rfl) ?_
              refine o_sipush (v := nI 1360) hC dX8_makeMinus_137 (by decide +kernel) ?_
              refine o_callV2 hC rl_BW_good rl_Ns_nw (by exact hB.2.2.2.2.2) YX8_comes IX8_comes VX8_comes (mX8_178 hC) (by rw [hB.1]; exact (by first | exact cm_X8_comes l D ids H0 _ _ m T _ _ S a 1360 w hq5.rf hs5 (by omega) (by omega) hw hw6 | exact cm_X8_comes l D ids H0 _ _ m T _ _ S a 1360 w hq4.rf hs4 (by omega) (by omega) hw hw6)) (by first | exact hq5.1 | exact hq4.1) rfl rfl (Nat.le_of_ble_eq_true rfl) (by rw [hB.2.1]; first | exact Nat.le_of_ble_eq_true rfl | (dsimp only; omega)) (by rw [hB.2.1]; first | exact Nat.le_of_ble_eq_true rfl | (dsimp only; omega)) (by rw [hB.2.1]; first | exact Nat.le_of_ble_eq_true rfl | (dsimp only; omega)) (by rw [hB.2.1]; first | exact Nat.le_of_ble_eq_true rfl | (dsimp only; omega)) dX8_makeMinus_140 (fun v h_140 n_140 p_140 => ?_)
              obtain ⟨rfl, rfl, f140, k140, q140⟩ := p_140
              try dsimp only [Option.toList, List.cons_append, List.nil_append]
              refine o_iinc hC dX8_makeMinus_143 (by rfl) (rl_inc _) (Nat.le_of_ble_eq_true rfl) ?_
              refine o_goto (tgt := 3) hC dX8_makeMinus_146 (by decide) ?_
              first
              | exact ih (t + 1) _ _ _ _ _ (by omega) (hq2.tr q91)
              | exact ih (t + 1) _ _ _ _ _ (by omega) (hq5.tr q140)
              | exact ih (t + 1) _ _ _ _ _ (by omega) (hq4.tr q140)
          · refine o_aload_n hC dX8_makeMinus_82 (by rfl) ?_
            refine o_iload_n hC dX8_makeMinus_83 (by rfl) ?_
            refine o_bipush (v := nI 80) hC dX8_makeMinus_84 (by decide +kernel) ?_
            refine o_iload_n hC dX8_makeMinus_86 (by rfl) ?_
            refine o_imul hC dX8_makeMinus_87 ?_
            try rw [nI_mul]
            refine o_iload hC dX8_makeMinus_88 (by rfl) ?_
            refine o_iadd hC dX8_makeMinus_90 ?_
            try rw [nI_add]
            refine o_callV2 hC rl_BW_good rl_Ns_nw (by exact hB.2.2.2.2.2) YX8_comes IX8_comes VX8_comes (mX8_178 hC) (by rw [hB.1]; exact cm_X8_comes l D ids H0 _ _ m T _ _ S a (80 * b + t) w hq2.rf hs1 (by omega) (by omega) hw hw6) (by exact hq2.1) rfl rfl (Nat.le_of_ble_eq_true rfl) (by rw [hB.2.1]; first | exact Nat.le_of_ble_eq_true rfl | (dsimp only; omega)) (by rw [hB.2.1]; first | exact Nat.le_of_ble_eq_true rfl | (dsimp only; omega)) (by rw [hB.2.1]; first | exact Nat.le_of_ble_eq_true rfl | (dsimp only; omega)) (by rw [hB.2.1]; first | exact Nat.le_of_ble_eq_true rfl | (dsimp only; omega)) dX8_makeMinus_91 (fun v h_91 n_91 p_91 => ?_)
            obtain ⟨rfl, rfl, f91, k91, q91⟩ := p_91
            try dsimp only [Option.toList, List.cons_append, List.nil_append]
            refine o_goto (tgt := 143) hC dX8_makeMinus_94 (by decide) ?_
            refine o_iinc hC dX8_makeMinus_143 (by rfl) (rl_inc _) (Nat.le_of_ble_eq_true rfl) ?_
            refine o_goto (tgt := 3) hC dX8_makeMinus_146 (by decide) ?_
            first
            | exact ih (t + 1) _ _ _ _ _ (by omega) (hq2.tr q91)
            | exact ih (t + 1) _ _ _ _ _ (by omega) (hq5.tr q140)
            | exact ih (t + 1) _ _ _ _ _ (by omega) (hq4.tr q140)
        induction m2 with
        | zero =>
          intro i h2 f2 k2 u hm2 hq2 hu
          have hs1 := hq2.sa hs
          obtain ⟨g0, gk, ⟨⟨cl, g12⟩, ⟨tu, g13, b13⟩, ⟨im, g14⟩, ⟨te, g15, b15⟩, ⟨ne, g16⟩, ⟨la, g17⟩, ⟨hn, g18⟩, ⟨hl, g19⟩, ⟨tp, g20⟩, ⟨gr, g21, b21⟩, ⟨it, g22⟩⟩, gf⟩ := id hq2
          obtain ⟨a1, a2, a3, a4, a5, a6, a7, a8, a9, a10, a11⟩ := id hs1
          refine o_iload hC dX8_makeMinus_40 (by rfl) ?_
          refine o_aload_n hC dX8_makeMinus_42 (by rfl) ?_
          refine o_getf hC (fX8_46 hC rfl) dX8_makeMinus_43 (by repeat (first | with_reducible assumption | (rw [rl_u_s]; done) | (rw [rl_u_s]; rfl) | rw [rl_u_n (by first | with_reducible assumption | omega)])) (by first | rfl | with_reducible assumption) ?_
          refine o_iload_n hC dX8_makeMinus_46 (by rfl) ?_
          obtain ⟨t47, ht47, et47⟩ := b13 d (by omega)
          refine o_ialdN (t0 := 0) (k := d) hC rfl dX8_makeMinus_47 (by repeat (first | with_reducible assumption | (rw [rl_u_s]; done) | (rw [rl_u_s]; rfl) | rw [rl_u_n (by first | with_reducible assumption | omega)])) (by omega) (by decide) ?_
          rw [et47]
          refine o_icmp_ge (tgt := 76) hC dX8_makeMinus_48 (by decide) (fun c_48 => ?_) (fun c_48 => ?_)
          · exact fin _ _ _ _ _ hq2 hu
          · exact absurd (nI_le (by omega) (by omega)) c_48
        | succ m2 ih2 =>
          intro i h2 f2 k2 u hm2 hq2 hu
          have hs1 := hq2.sa hs
          obtain ⟨g0, gk, ⟨⟨cl, g12⟩, ⟨tu, g13, b13⟩, ⟨im, g14⟩, ⟨te, g15, b15⟩, ⟨ne, g16⟩, ⟨la, g17⟩, ⟨hn, g18⟩, ⟨hl, g19⟩, ⟨tp, g20⟩, ⟨gr, g21, b21⟩, ⟨it, g22⟩⟩, gf⟩ := id hq2
          obtain ⟨a1, a2, a3, a4, a5, a6, a7, a8, a9, a10, a11⟩ := id hs1
          refine o_iload hC dX8_makeMinus_40 (by rfl) ?_
          refine o_aload_n hC dX8_makeMinus_42 (by rfl) ?_
          refine o_getf hC (fX8_46 hC rfl) dX8_makeMinus_43 (by repeat (first | with_reducible assumption | (rw [rl_u_s]; done) | (rw [rl_u_s]; rfl) | rw [rl_u_n (by first | with_reducible assumption | omega)])) (by first | rfl | with_reducible assumption) ?_
          refine o_iload_n hC dX8_makeMinus_46 (by rfl) ?_
          obtain ⟨t47, ht47, et47⟩ := b13 d (by omega)
          refine o_ialdN (t0 := 0) (k := d) hC rfl dX8_makeMinus_47 (by repeat (first | with_reducible assumption | (rw [rl_u_s]; done) | (rw [rl_u_s]; rfl) | rw [rl_u_n (by first | with_reducible assumption | omega)])) (by omega) (by decide) ?_
          rw [et47]
          refine o_icmp_ge (tgt := 76) hC dX8_makeMinus_48 (by decide) (fun c_48 => ?_) (fun c_48 => ?_)
          · exact fin _ _ _ _ _ hq2 hu
          · refine o_aload_n hC dX8_makeMinus_51 (by rfl) ?_
            refine o_iload_n hC dX8_makeMinus_52 (by rfl) ?_
            refine o_iload hC dX8_makeMinus_53 (by rfl) ?_
            refine o_callV2 hC rl_BW_good rl_Ns_nw (by exact hB.2.2.2.2.2) YX8_against IX8_against VX8_against (mX8_141 hC) (by rw [hB.1]; exact cm_X8_against l D ids H0 _ _ m T _ _ S d i wd hq2.rf hs1 (by omega) (by omega) hwd hwd6) (by exact hq2.rf.1) rfl rfl (Nat.le_of_ble_eq_true rfl) (by rw [hB.2.1]; first | exact Nat.le_of_ble_eq_true rfl | (dsimp only; omega)) (by rw [hB.2.1]; first | exact Nat.le_of_ble_eq_true rfl | (dsimp only; omega)) (by rw [hB.2.1]; first | exact Nat.le_of_ble_eq_true rfl | (dsimp only; omega)) (by rw [hB.2.1]; first | exact Nat.le_of_ble_eq_true rfl | (dsimp only; omega)) dX8_makeMinus_55 (fun v h_55 n_55 p_55 => ?_)
            obtain ⟨r55, rfl, rfl, rfl⟩ := p_55
            try dsimp only [Option.toList, List.cons_append, List.nil_append]
            refine o_if_ne (tgt := 66) hC dX8_makeMinus_58 (by decide) (fun c_58 => ?_) (fun c_58 => ?_)
            · refine o_iload hC dX8_makeMinus_66 (by rfl) ?_
              refine o_istore hC dX8_makeMinus_68 (Nat.le_of_ble_eq_true rfl) ?_
              refine o_iinc hC dX8_makeMinus_70 (by rfl) (rl_inc _) (Nat.le_of_ble_eq_true rfl) ?_
              refine o_goto (tgt := 40) hC dX8_makeMinus_73 (by decide) ?_
              first
              | exact ih2 (i + 1) _ _ _ _ (by omega) hq2 (Or.inr ⟨i, by omega, rfl⟩)
              | exact ih2 (i + 1) _ _ _ _ (by omega) hq2 hu
            · refine o_iload hC dX8_makeMinus_61 (by rfl) ?_
              refine o_goto (tgt := 68) hC dX8_makeMinus_63 (by decide) ?_
              refine o_istore hC dX8_makeMinus_68 (Nat.le_of_ble_eq_true rfl) ?_
              refine o_iinc hC dX8_makeMinus_70 (by rfl) (rl_inc _) (Nat.le_of_ble_eq_true rfl) ?_
              refine o_goto (tgt := 40) hC dX8_makeMinus_73 (by decide) ?_
              first
              | exact ih2 (i + 1) _ _ _ _ (by omega) hq2 (Or.inr ⟨i, by omega, rfl⟩)
              | exact ih2 (i + 1) _ _ _ _ (by omega) hq2 hu
      have hs1 := hq1.sa hs
      obtain ⟨g0, gk, ⟨⟨cl, g12⟩, ⟨tu, g13, b13⟩, ⟨im, g14⟩, ⟨te, g15, b15⟩, ⟨ne, g16⟩, ⟨la, g17⟩, ⟨hn, g18⟩, ⟨hl, g19⟩, ⟨tp, g20⟩, ⟨gr, g21, b21⟩, ⟨it, g22⟩⟩, gf⟩ := id hq1
      obtain ⟨a1, a2, a3, a4, a5, a6, a7, a8, a9, a10, a11⟩ := id hs1
      refine o_iload hC dX8_makeMinus_3 (by rfl) ?_
      refine o_aload_n hC dX8_makeMinus_5 (by rfl) ?_
      refine o_getf hC (fX8_46 hC rfl) dX8_makeMinus_6 (by repeat (first | with_reducible assumption | (rw [rl_u_s]; done) | (rw [rl_u_s]; rfl) | rw [rl_u_n (by first | with_reducible assumption | omega)])) (by first | rfl | with_reducible assumption) ?_
      refine o_iload_n hC dX8_makeMinus_9 (by rfl) ?_
      obtain ⟨t10, ht10, et10⟩ := b13 b (by omega)
      refine o_ialdN (t0 := 0) (k := b) hC rfl dX8_makeMinus_10 (by repeat (first | with_reducible assumption | (rw [rl_u_s]; done) | (rw [rl_u_s]; rfl) | rw [rl_u_n (by first | with_reducible assumption | omega)])) (by omega) (by decide) ?_
      rw [et10]
      refine o_icmp_ge (tgt := 149) hC dX8_makeMinus_11 (by decide) (fun c_11 => ?_) (fun c_11 => ?_)
      · refine o_vret hC hB dX8_makeMinus_149 (Nat.le_of_ble_eq_true rfl) (Nat.le_of_ble_eq_true rfl) ?_
        exact ⟨rfl, rfl, _, _, hq1⟩
      · refine o_aload_n hC dX8_makeMinus_14 (by rfl) ?_
        refine o_getf hC (fX8_91 hC rfl) dX8_makeMinus_15 (by repeat (first | with_reducible assumption | (rw [rl_u_s]; done) | (rw [rl_u_s]; rfl) | rw [rl_u_n (by first | with_reducible assumption | omega)])) (by first | rfl | with_reducible assumption) ?_
        refine o_if_ne (tgt := 149) hC dX8_makeMinus_18 (by decide) (fun c_18 => ?_) (fun c_18 => ?_)
        · refine o_vret hC hB dX8_makeMinus_149 (Nat.le_of_ble_eq_true rfl) (Nat.le_of_ble_eq_true rfl) ?_
          exact ⟨rfl, rfl, _, _, hq1⟩
        · refine o_aload_n hC dX8_makeMinus_21 (by rfl) ?_
          refine o_iload_n hC dX8_makeMinus_22 (by rfl) ?_
          refine o_iload hC dX8_makeMinus_23 (by rfl) ?_
          refine o_aload_n hC dX8_makeMinus_25 (by rfl) ?_
          refine o_getf hC (fX8_40 hC rfl) dX8_makeMinus_26 (by repeat (first | with_reducible assumption | (rw [rl_u_s]; done) | (rw [rl_u_s]; rfl) | rw [rl_u_n (by first | with_reducible assumption | omega)])) (by first | rfl | with_reducible assumption) ?_
          refine o_iload_n hC dX8_makeMinus_29 (by rfl) ?_
          refine o_ialdN (t0 := 0) (k := b) hC rfl dX8_makeMinus_30 (by repeat (first | with_reducible assumption | (rw [rl_u_s]; done) | (rw [rl_u_s]; rfl) | rw [rl_u_n (by first | with_reducible assumption | omega)])) (by omega) (by decide) ?_
          rw [hwb]
          refine o_callV3 hC rl_BW_good rl_Ns_nw (by exact hB.2.2.2.2.2) YX8_take IX8_take VX8_take (mX8_181 hC) (by rw [hB.1]; exact cm_X8_take l D ids H0 _ _ m T _ _ b t wb hq1.rf (by omega) (by omega) hwb6) (by exact hq1.1) rfl rfl (Nat.le_of_ble_eq_true rfl) (by rw [hB.2.1]; first | exact Nat.le_of_ble_eq_true rfl | (dsimp only; omega)) (by rw [hB.2.1]; first | exact Nat.le_of_ble_eq_true rfl | (dsimp only; omega)) (by rw [hB.2.1]; first | exact Nat.le_of_ble_eq_true rfl | (dsimp only; omega)) (by rw [hB.2.1]; first | exact Nat.le_of_ble_eq_true rfl | (dsimp only; omega)) dX8_makeMinus_31 (fun v h_31 n_31 p_31 => ?_)
          obtain ⟨rfl, rfl, q31⟩ := p_31
          have hq3 := hq1.tr q31
          try dsimp only [Option.toList, List.cons_append, List.nil_append]
          refine o_iconst (v := (-1 : Int32)) hC dX8_makeMinus_34 (by decide +kernel) ?_
          refine o_istore hC dX8_makeMinus_35 (Nat.le_of_ble_eq_true rfl) ?_
          refine o_iconst (v := nI 0) hC dX8_makeMinus_37 (by decide +kernel) ?_
          refine o_istore hC dX8_makeMinus_38 (Nat.le_of_ble_eq_true rfl) ?_
          exact loopK 80 0 _ _ _ _ (by omega) hq3 (Or.inl rfl)
  show rl_G X (rl_e D ids H0) 0 [some (.ref m), some (.int (nI a)), some (.int (nI b)), some (.int (nI d)), none, none, none] [] h n 0 0
  refine o_iconst (v := nI 0) hC dX8_makeMinus_0 (by decide +kernel) ?_
  refine o_istore hC dX8_makeMinus_1 (Nat.le_of_ble_eq_true rfl) ?_
  exact loop 80 0 _ _ _ _ _ (by omega) hq

set_option maxHeartbeats 4000000 in
set_option maxRecDepth 100000 in
theorem cm_X8_makeGroup (l : Launch) (D : va_G) (ids : Nat → ClassId) (H0 : Heap) (h : rl_H) (n : Nat) (m : Nat) (T : md_T) (fu : Int32) (k : Nat) (S : md_A) (a b w wb ca cb q : Nat) (hq : mq ids h h m T fu k) (hs : md_sa ids h m S) (ha : a < 16) (hb : b < 16) (hw : S.2.2.2.2.2.2.2.2.2.2 a = nI w) (hw6 : w ≤ 6) (hwb : S.2.2.2.2.2.2.2.2.2.2 b = nI wb) (hwb6 : wb ≤ 6) (hnA : S.2.2.2.2.2.2.1 a = nI ca) (hca : ca < 6) (hnB : S.2.2.2.2.2.2.2.1 a = nI cb) (hcb : cb < 6) (hq4 : q ≤ 4) : rl_Met l (rl_e D ids H0) rl_BW rl_Ns yX8_makeGroup cX8_makeGroup 12 none ({ frames := 4, cells := 0, slots := 0, locals := 98 }) [.ref m, .int (nI a), .int (nI b), .int (nI q)] h n (fun v h' n' => v = none ∧ n' = n ∧ ∃ (fu' : Int32) (k' : Nat), mq ids h h' m T fu' k') := by
  refine rl_Met.of (by decide +kernel) (Nat.le_of_ble_eq_true rfl) ?_
  intro X hC hB
  have loop3 : ∀ (sn : Nat), (∀ (h1 : rl_H) (f1 : Int32) (k1 : Nat) (o5 o6 o7 o8 o9 o10 o11 : Option Value), mq ids h h1 m T f1 k1 → rl_G X (rl_e D ids H0) 52 [some (.ref m), some (.int (nI a)), some (.int (nI b)), some (.int (nI q)), some (.int (nI (sn + 1))), o5, o6, o7, o8, o9, o10, o11] [] h1 n 0 0) → ∀ (m3 i : Nat) (h1 : rl_H) (f1 : Int32) (k1 : Nat) (c5 c6 c7 c8 : Int32) (o10 o11 : Option Value), i + m3 = q → mq ids h h1 m T f1 k1 → rl_G X (rl_e D ids H0) 89 [some (.ref m), some (.int (nI a)), some (.int (nI b)), some (.int (nI q)), some (.int (nI sn)), some (.int c5), some (.int c6), some (.int c7), some (.int c8), some (.int (nI i)), o10, o11] [] h1 n 0 0 := by
    intro sn nx m3
    have fin : ∀ (h1 : rl_H) (f1 : Int32) (k1 : Nat) (c5 c6 c7 c8 : Int32) (o9 o10 o11 : Option Value), mq ids h h1 m T f1 k1 → rl_G X (rl_e D ids H0) 239 [some (.ref m), some (.int (nI a)), some (.int (nI b)), some (.int (nI q)), some (.int (nI sn)), some (.int c5), some (.int c6), some (.int c7), some (.int c8), o9, o10, o11] [] h1 n 0 0 := by
      intro h1 f1 k1 c5 c6 c7 c8 o9 o10 o11 hq1
      have hs1 := hq1.sa hs
      obtain ⟨g0, gk, ⟨⟨cl, g12⟩, ⟨tu, g13, b13⟩, ⟨im, g14⟩, ⟨te, g15, b15⟩, ⟨ne, g16⟩, ⟨la, g17⟩, ⟨hn, g18⟩, ⟨hl, g19⟩, ⟨tp, g20⟩, ⟨gr, g21, b21⟩, ⟨it, g22⟩⟩, gf⟩ := id hq1
      obtain ⟨a1, a2, a3, a4, a5, a6, a7, a8, a9, a10, a11⟩ := id hs1
      refine o_aload_n hC dX8_makeGroup_239 (by rfl) ?_
      refine o_getf hC (fX8_69 hC rfl) dX8_makeGroup_240 (by repeat (first | with_reducible assumption | (rw [rl_u_s]; done) | (rw [rl_u_s]; rfl) | rw [rl_u_n (by first | with_reducible assumption | omega)])) (by first | rfl | with_reducible assumption) ?_
      refine o_iconst (v := nI 0) hC dX8_makeGroup_243 (by decide +kernel) ?_
      refine o_aload_n hC dX8_makeGroup_244 (by rfl) ?_
      refine o_iload_n hC dX8_makeGroup_245 (by rfl) ?_
      refine o_aload_n hC dX8_makeGroup_246 (by rfl) ?_
      refine o_getf hC (fX8_72 hC rfl) dX8_makeGroup_247 (by repeat (first | with_reducible assumption | (rw [rl_u_s]; done) | (rw [rl_u_s]; rfl) | rw [rl_u_n (by first | with_reducible assumption | omega)])) (by first | rfl | with_reducible assumption) ?_
      refine o_iconst (v := nI 0) hC dX8_makeGroup_250 (by decide +kernel) ?_
      obtain ⟨t251, ht251, et251⟩ := b21 0 (by omega)
      refine o_ialdN (t0 := 0) (k := 0) hC rfl dX8_makeGroup_251 (by repeat (first | with_reducible assumption | (rw [rl_u_s]; done) | (rw [rl_u_s]; rfl) | rw [rl_u_n (by first | with_reducible assumption | omega)])) (by omega) (by decide) ?_
      rw [et251]
      refine o_aload_n hC dX8_makeGroup_252 (by rfl) ?_
      refine o_getf hC (fX8_28 hC rfl) dX8_makeGroup_253 (by repeat (first | with_reducible assumption | (rw [rl_u_s]; done) | (rw [rl_u_s]; rfl) | rw [rl_u_n (by first | with_reducible assumption | omega)])) (by first | rfl | with_reducible assumption) ?_
      refine o_iload_n hC dX8_makeGroup_256 (by rfl) ?_
      refine o_ialdN (t0 := 0) (k := a) hC rfl dX8_makeGroup_257 (by repeat (first | with_reducible assumption | (rw [rl_u_s]; done) | (rw [rl_u_s]; rfl) | rw [rl_u_n (by first | with_reducible assumption | omega)])) (by omega) (by decide) ?_
      rw [hnA]
      refine o_callV3 hC rl_BW_good rl_Ns_nw (by exact hB.2.2.2.2.2) YX8_cellAt IX8_cellAt VX8_cellAt (mX8_138 hC) (by rw [hB.1]; exact cm_X8_cellAt l D ids H0 _ _ m T _ _ b t251 ca hq1.rf (by omega)) (by exact hq1.rf.1) rfl rfl (Nat.le_of_ble_eq_true rfl) (by rw [hB.2.1]; first | exact Nat.le_of_ble_eq_true rfl | (dsimp only; omega)) (by rw [hB.2.1]; first | exact Nat.le_of_ble_eq_true rfl | (dsimp only; omega)) (by rw [hB.2.1]; first | exact Nat.le_of_ble_eq_true rfl | (dsimp only; omega)) (by rw [hB.2.1]; first | exact Nat.le_of_ble_eq_true rfl | (dsimp only; omega)) dX8_makeGroup_258 (fun v h_258 n_258 p_258 => ?_)
      obtain ⟨r258, rfl, rfl, rfl⟩ := p_258
      try dsimp only [Option.toList, List.cons_append, List.nil_append]
      refine o_iastN (t0 := 0) hC rfl dX8_makeGroup_261 (by repeat (first | with_reducible assumption | (rw [rl_u_s]; done) | (rw [rl_u_s]; rfl) | rw [rl_u_n (by first | with_reducible assumption | omega)])) (by omega) (by decide) ?_
      refine o_aload_n hC dX8_makeGroup_262 (by rfl) ?_
      refine o_getf hC (fX8_69 hC rfl) dX8_makeGroup_263 (by repeat (first | with_reducible assumption | (rw [rl_u_s]; done) | (rw [rl_u_s]; rfl) | rw [rl_u_n (by first | with_reducible assumption | omega)])) (by first | rfl | with_reducible assumption) ?_
      refine o_iconst (v := nI 1) hC dX8_makeGroup_266 (by decide +kernel) ?_
      refine o_aload_n hC dX8_makeGroup_267 (by rfl) ?_
      refine o_getf hC (fX8_34 hC rfl) dX8_makeGroup_268 (by repeat (first | with_reducible assumption | (rw [rl_u_s]; done) | (rw [rl_u_s]; rfl) | rw [rl_u_n (by first | with_reducible assumption | omega)])) (by first | rfl | with_reducible assumption) ?_
      refine o_iload_n hC dX8_makeGroup_271 (by rfl) ?_
      refine o_ialdN (t0 := 0) hC rfl dX8_makeGroup_272 (by repeat (first | with_reducible assumption | (rw [rl_u_s]; done) | (rw [rl_u_s]; rfl) | rw [rl_u_n (by first | with_reducible assumption | omega)])) (by omega) (by decide) ?_
      refine o_if_ne (tgt := 281) hC dX8_makeGroup_273 (by decide) (fun c_273 => ?_) (fun c_273 => ?_)
      · refine o_aload_n hC dX8_makeGroup_281 (by rfl) ?_
        refine o_getf hC (fX8_34 hC rfl) dX8_makeGroup_282 (by repeat (first | with_reducible assumption | (rw [rl_u_s]; done) | (rw [rl_u_s]; rfl) | rw [rl_u_n (by first | with_reducible assumption | omega)])) (by first | rfl | with_reducible assumption) ?_
        refine o_iload_n hC dX8_makeGroup_285 (by rfl) ?_
        refine o_ialdN (t0 := 0) hC rfl dX8_makeGroup_286 (by repeat (first | with_reducible assumption | (rw [rl_u_s]; done) | (rw [rl_u_s]; rfl) | rw [rl_u_n (by first | with_reducible assumption | omega)])) (by omega) (by decide) ?_
        refine o_iconst (v := nI 1) hC dX8_makeGroup_287 (by decide +kernel) ?_
        refine o_icmp_ne (tgt := 296) hC dX8_makeGroup_288 (by decide) (fun c_288 => ?_) (fun c_288 => ?_)
        · refine o_aload_n hC dX8_makeGroup_296 (by rfl) ?_
          refine o_getf hC (fX8_34 hC rfl) dX8_makeGroup_297 (by repeat (first | with_reducible assumption | (rw [rl_u_s]; done) | (rw [rl_u_s]; rfl) | rw [rl_u_n (by first | with_reducible assumption | omega)])) (by first | rfl | with_reducible assumption) ?_
          refine o_iload_n hC dX8_makeGroup_300 (by rfl) ?_
          refine o_ialdN (t0 := 0) hC rfl dX8_makeGroup_301 (by repeat (first | with_reducible assumption | (rw [rl_u_s]; done) | (rw [rl_u_s]; rfl) | rw [rl_u_n (by first | with_reducible assumption | omega)])) (by omega) (by decide) ?_
          refine o_iconst (v := nI 2) hC dX8_makeGroup_302 (by decide +kernel) ?_
          refine o_icmp_ne (tgt := 311) hC dX8_makeGroup_303 (by decide) (fun c_303 => ?_) (fun c_303 => ?_)
          · refine o_iload hC dX8_makeGroup_311 (by rfl) ?_
            refine o_iastN (t0 := 0) hC rfl dX8_makeGroup_313 (by repeat (first | with_reducible assumption | (rw [rl_u_s]; done) | (rw [rl_u_s]; rfl) | rw [rl_u_n (by first | with_reducible assumption | omega)])) (by omega) (by decide) ?_
            refine o_aload_n hC dX8_makeGroup_314 (by rfl) ?_
            refine o_iload_n hC dX8_makeGroup_315 (by rfl) ?_
            refine o_sipush (v := nI 1360) hC dX8_makeGroup_316 (by decide +kernel) ?_
            refine o_callV2 hC rl_BW_good rl_Ns_nw (by exact hB.2.2.2.2.2) YX8_comes IX8_comes VX8_comes (mX8_178 hC) (by rw [hB.1]; exact cm_X8_comes l D ids H0 _ _ m T _ _ S a 1360 w ((hq1.s20 _).s20 _).rf (((hq1.s20 _).s20 _).sa hs) (by omega) (by omega) hw hw6) (by repeat (first | with_reducible assumption | (rw [rl_u_s]; done) | (rw [rl_u_s]; rfl) | rw [rl_u_n (by first | with_reducible assumption | omega)])) rfl rfl (Nat.le_of_ble_eq_true rfl) (by rw [hB.2.1]; first | exact Nat.le_of_ble_eq_true rfl | (dsimp only; omega)) (by rw [hB.2.1]; first | exact Nat.le_of_ble_eq_true rfl | (dsimp only; omega)) (by rw [hB.2.1]; first | exact Nat.le_of_ble_eq_true rfl | (dsimp only; omega)) (by rw [hB.2.1]; first | exact Nat.le_of_ble_eq_true rfl | (dsimp only; omega)) dX8_makeGroup_319 (fun v h_319 n_319 p_319 => ?_)
            obtain ⟨rfl, rfl, f319, k319, q319⟩ := p_319
            try dsimp only [Option.toList, List.cons_append, List.nil_append]
            refine o_iinc hC dX8_makeGroup_322 (by rfl) (rl_inc _) (Nat.le_of_ble_eq_true rfl) ?_
            refine o_goto (tgt := 52) hC dX8_makeGroup_325 (by decide) ?_
            exact nx _ _ _ _ _ _ _ _ _ _ (((hq1.s20 _).s20 _).tr q319)
          · refine o_iload hC dX8_makeGroup_306 (by rfl) ?_
            refine o_goto (tgt := 313) hC dX8_makeGroup_308 (by decide) ?_
            refine o_iastN (t0 := 0) hC rfl dX8_makeGroup_313 (by repeat (first | with_reducible assumption | (rw [rl_u_s]; done) | (rw [rl_u_s]; rfl) | rw [rl_u_n (by first | with_reducible assumption | omega)])) (by omega) (by decide) ?_
            refine o_aload_n hC dX8_makeGroup_314 (by rfl) ?_
            refine o_iload_n hC dX8_makeGroup_315 (by rfl) ?_
            refine o_sipush (v := nI 1360) hC dX8_makeGroup_316 (by decide +kernel) ?_
            refine o_callV2 hC rl_BW_good rl_Ns_nw (by exact hB.2.2.2.2.2) YX8_comes IX8_comes VX8_comes (mX8_178 hC) (by rw [hB.1]; exact cm_X8_comes l D ids H0 _ _ m T _ _ S a 1360 w ((hq1.s20 _).s20 _).rf (((hq1.s20 _).s20 _).sa hs) (by omega) (by omega) hw hw6) (by repeat (first | with_reducible assumption | (rw [rl_u_s]; done) | (rw [rl_u_s]; rfl) | rw [rl_u_n (by first | with_reducible assumption | omega)])) rfl rfl (Nat.le_of_ble_eq_true rfl) (by rw [hB.2.1]; first | exact Nat.le_of_ble_eq_true rfl | (dsimp only; omega)) (by rw [hB.2.1]; first | exact Nat.le_of_ble_eq_true rfl | (dsimp only; omega)) (by rw [hB.2.1]; first | exact Nat.le_of_ble_eq_true rfl | (dsimp only; omega)) (by rw [hB.2.1]; first | exact Nat.le_of_ble_eq_true rfl | (dsimp only; omega)) dX8_makeGroup_319 (fun v h_319 n_319 p_319 => ?_)
            obtain ⟨rfl, rfl, f319, k319, q319⟩ := p_319
            try dsimp only [Option.toList, List.cons_append, List.nil_append]
            refine o_iinc hC dX8_makeGroup_322 (by rfl) (rl_inc _) (Nat.le_of_ble_eq_true rfl) ?_
            refine o_goto (tgt := 52) hC dX8_makeGroup_325 (by decide) ?_
            exact nx _ _ _ _ _ _ _ _ _ _ (((hq1.s20 _).s20 _).tr q319)
        · refine o_iload hC dX8_makeGroup_291 (by rfl) ?_
          refine o_goto (tgt := 313) hC dX8_makeGroup_293 (by decide) ?_
          refine o_iastN (t0 := 0) hC rfl dX8_makeGroup_313 (by repeat (first | with_reducible assumption | (rw [rl_u_s]; done) | (rw [rl_u_s]; rfl) | rw [rl_u_n (by first | with_reducible assumption | omega)])) (by omega) (by decide) ?_
          refine o_aload_n hC dX8_makeGroup_314 (by rfl) ?_
          refine o_iload_n hC dX8_makeGroup_315 (by rfl) ?_
          refine o_sipush (v := nI 1360) hC dX8_makeGroup_316 (by decide +kernel) ?_
          refine o_callV2 hC rl_BW_good rl_Ns_nw (by exact hB.2.2.2.2.2) YX8_comes IX8_comes VX8_comes (mX8_178 hC) (by rw [hB.1]; exact cm_X8_comes l D ids H0 _ _ m T _ _ S a 1360 w ((hq1.s20 _).s20 _).rf (((hq1.s20 _).s20 _).sa hs) (by omega) (by omega) hw hw6) (by repeat (first | with_reducible assumption | (rw [rl_u_s]; done) | (rw [rl_u_s]; rfl) | rw [rl_u_n (by first | with_reducible assumption | omega)])) rfl rfl (Nat.le_of_ble_eq_true rfl) (by rw [hB.2.1]; first | exact Nat.le_of_ble_eq_true rfl | (dsimp only; omega)) (by rw [hB.2.1]; first | exact Nat.le_of_ble_eq_true rfl | (dsimp only; omega)) (by rw [hB.2.1]; first | exact Nat.le_of_ble_eq_true rfl | (dsimp only; omega)) (by rw [hB.2.1]; first | exact Nat.le_of_ble_eq_true rfl | (dsimp only; omega)) dX8_makeGroup_319 (fun v h_319 n_319 p_319 => ?_)
          obtain ⟨rfl, rfl, f319, k319, q319⟩ := p_319
          try dsimp only [Option.toList, List.cons_append, List.nil_append]
          refine o_iinc hC dX8_makeGroup_322 (by rfl) (rl_inc _) (Nat.le_of_ble_eq_true rfl) ?_
          refine o_goto (tgt := 52) hC dX8_makeGroup_325 (by decide) ?_
          exact nx _ _ _ _ _ _ _ _ _ _ (((hq1.s20 _).s20 _).tr q319)
      · refine o_iload hC dX8_makeGroup_276 (by rfl) ?_
        refine o_goto (tgt := 313) hC dX8_makeGroup_278 (by decide) ?_
        refine o_iastN (t0 := 0) hC rfl dX8_makeGroup_313 (by repeat (first | with_reducible assumption | (rw [rl_u_s]; done) | (rw [rl_u_s]; rfl) | rw [rl_u_n (by first | with_reducible assumption | omega)])) (by omega) (by decide) ?_
        refine o_aload_n hC dX8_makeGroup_314 (by rfl) ?_
        refine o_iload_n hC dX8_makeGroup_315 (by rfl) ?_
        refine o_sipush (v := nI 1360) hC dX8_makeGroup_316 (by decide +kernel) ?_
        refine o_callV2 hC rl_BW_good rl_Ns_nw (by exact hB.2.2.2.2.2) YX8_comes IX8_comes VX8_comes (mX8_178 hC) (by rw [hB.1]; exact cm_X8_comes l D ids H0 _ _ m T _ _ S a 1360 w ((hq1.s20 _).s20 _).rf (((hq1.s20 _).s20 _).sa hs) (by omega) (by omega) hw hw6) (by repeat (first | with_reducible assumption | (rw [rl_u_s]; done) | (rw [rl_u_s]; rfl) | rw [rl_u_n (by first | with_reducible assumption | omega)])) rfl rfl (Nat.le_of_ble_eq_true rfl) (by rw [hB.2.1]; first | exact Nat.le_of_ble_eq_true rfl | (dsimp only; omega)) (by rw [hB.2.1]; first | exact Nat.le_of_ble_eq_true rfl | (dsimp only; omega)) (by rw [hB.2.1]; first | exact Nat.le_of_ble_eq_true rfl | (dsimp only; omega)) (by rw [hB.2.1]; first | exact Nat.le_of_ble_eq_true rfl | (dsimp only; omega)) dX8_makeGroup_319 (fun v h_319 n_319 p_319 => ?_)
        obtain ⟨rfl, rfl, f319, k319, q319⟩ := p_319
        try dsimp only [Option.toList, List.cons_append, List.nil_append]
        refine o_iinc hC dX8_makeGroup_322 (by rfl) (rl_inc _) (Nat.le_of_ble_eq_true rfl) ?_
        refine o_goto (tgt := 52) hC dX8_makeGroup_325 (by decide) ?_
        exact nx _ _ _ _ _ _ _ _ _ _ (((hq1.s20 _).s20 _).tr q319)
    induction m3 with
    | zero =>
      intro i h1 f1 k1 c5 c6 c7 c8 o10 o11 hm hq1
      refine o_iload hC dX8_makeGroup_89 (by rfl) ?_
      refine o_iload_n hC dX8_makeGroup_91 (by rfl) ?_
      refine o_icmp_ge (tgt := 239) hC dX8_makeGroup_92 (by decide) (fun c_92 => ?_) (fun c_92 => ?_)
      · exact fin _ _ _ _ _ _ _ _ _ _ hq1
      · exact absurd (nI_le (by omega) (by omega)) c_92
    | succ m3 ih =>
      intro i h1 f1 k1 c5 c6 c7 c8 o10 o11 hm hq1
      have aft : ∀ (h1 : rl_H) (f1 : Int32) (k1 : Nat) (z : Int32) (o11 : Option Value), mq ids h h1 m T f1 k1 → rl_G X (rl_e D ids H0) 156 [some (.ref m), some (.int (nI a)), some (.int (nI b)), some (.int (nI q)), some (.int (nI sn)), some (.int c5), some (.int c6), some (.int c7), some (.int c8), some (.int (nI i)), some (.int z), o11] [] h1 n 0 0 := by
        intro h1 f1 k1 z o11 hq1
        have hs1 := hq1.sa hs
        obtain ⟨g0, gk, ⟨⟨cl, g12⟩, ⟨tu, g13, b13⟩, ⟨im, g14⟩, ⟨te, g15, b15⟩, ⟨ne, g16⟩, ⟨la, g17⟩, ⟨hn, g18⟩, ⟨hl, g19⟩, ⟨tp, g20⟩, ⟨gr, g21, b21⟩, ⟨it, g22⟩⟩, gf⟩ := id hq1
        obtain ⟨a1, a2, a3, a4, a5, a6, a7, a8, a9, a10, a11⟩ := id hs1
        refine o_aload_n hC dX8_makeGroup_156 (by rfl) ?_
        refine o_iload_n hC dX8_makeGroup_157 (by rfl) ?_
        refine o_aload_n hC dX8_makeGroup_158 (by rfl) ?_
        refine o_getf hC (fX8_72 hC rfl) dX8_makeGroup_159 (by repeat (first | with_reducible assumption | (rw [rl_u_s]; done) | (rw [rl_u_s]; rfl) | rw [rl_u_n (by first | with_reducible assumption | omega)])) (by first | rfl | with_reducible assumption) ?_
        refine o_iload hC dX8_makeGroup_162 (by rfl) ?_
        obtain ⟨t164, ht164, et164⟩ := b21 i (by omega)
        refine o_ialdN (t0 := 0) (k := i) hC rfl dX8_makeGroup_164 (by repeat (first | with_reducible assumption | (rw [rl_u_s]; done) | (rw [rl_u_s]; rfl) | rw [rl_u_n (by first | with_reducible assumption | omega)])) (by omega) (by decide) ?_
        rw [et164]
        refine o_aload_n hC dX8_makeGroup_165 (by rfl) ?_
        refine o_getf hC (fX8_31 hC rfl) dX8_makeGroup_166 (by repeat (first | with_reducible assumption | (rw [rl_u_s]; done) | (rw [rl_u_s]; rfl) | rw [rl_u_n (by first | with_reducible assumption | omega)])) (by first | rfl | with_reducible assumption) ?_
        refine o_iload_n hC dX8_makeGroup_169 (by rfl) ?_
        refine o_ialdN (t0 := 0) (k := a) hC rfl dX8_makeGroup_170 (by repeat (first | with_reducible assumption | (rw [rl_u_s]; done) | (rw [rl_u_s]; rfl) | rw [rl_u_n (by first | with_reducible assumption | omega)])) (by omega) (by decide) ?_
        rw [hnB]
        refine o_callV3 hC rl_BW_good rl_Ns_nw (by exact hB.2.2.2.2.2) YX8_cellAt IX8_cellAt VX8_cellAt (mX8_138 hC) (by rw [hB.1]; exact cm_X8_cellAt l D ids H0 _ _ m T _ _ b t164 cb hq1.rf (by omega)) (by exact hq1.rf.1) rfl rfl (Nat.le_of_ble_eq_true rfl) (by rw [hB.2.1]; first | exact Nat.le_of_ble_eq_true rfl | (dsimp only; omega)) (by rw [hB.2.1]; first | exact Nat.le_of_ble_eq_true rfl | (dsimp only; omega)) (by rw [hB.2.1]; first | exact Nat.le_of_ble_eq_true rfl | (dsimp only; omega)) (by rw [hB.2.1]; first | exact Nat.le_of_ble_eq_true rfl | (dsimp only; omega)) dX8_makeGroup_171 (fun v h_171 n_171 p_171 => ?_)
        obtain ⟨r171, rfl, rfl, rfl⟩ := p_171
        try dsimp only [Option.toList, List.cons_append, List.nil_append]
        refine o_istore hC dX8_makeGroup_174 (Nat.le_of_ble_eq_true rfl) ?_
        refine o_iload hC dX8_makeGroup_176 (by rfl) ?_
        refine o_if_eq (tgt := 233) hC dX8_makeGroup_178 (by decide) (fun c_178 => ?_) (fun c_178 => ?_)
        · refine o_iinc hC dX8_makeGroup_233 (by rfl) (rl_inc _) (Nat.le_of_ble_eq_true rfl) ?_
          refine o_goto (tgt := 89) hC dX8_makeGroup_236 (by decide) ?_
          exact ih (i + 1) _ _ _ _ _ _ _ _ _ (by omega) hq1
        · refine o_iload hC dX8_makeGroup_181 (by rfl) ?_
          refine o_if_eq (tgt := 193) hC dX8_makeGroup_183 (by decide) (fun c_183 => ?_) (fun c_183 => ?_)
          · refine o_iload hC dX8_makeGroup_193 (by rfl) ?_
            refine o_goto (tgt := 200) hC dX8_makeGroup_195 (by decide) ?_
            refine o_istore hC dX8_makeGroup_200 (Nat.le_of_ble_eq_true rfl) ?_
            refine o_iload hC dX8_makeGroup_202 (by rfl) ?_
            refine o_if_eq (tgt := 214) hC dX8_makeGroup_204 (by decide) (fun c_204 => ?_) (fun c_204 => ?_)
            · refine o_iload hC dX8_makeGroup_214 (by rfl) ?_
              refine o_goto (tgt := 221) hC dX8_makeGroup_216 (by decide) ?_
              refine o_istore hC dX8_makeGroup_221 (Nat.le_of_ble_eq_true rfl) ?_
              refine o_iload hC dX8_makeGroup_223 (by rfl) ?_
              refine o_iload hC dX8_makeGroup_225 (by rfl) ?_
              refine o_iadd hC dX8_makeGroup_227 ?_
              try rw [nI_add]
              refine o_istore hC dX8_makeGroup_228 (Nat.le_of_ble_eq_true rfl) ?_
              refine o_iinc hC dX8_makeGroup_230 (by rfl) rfl (Nat.le_of_ble_eq_true rfl) ?_
              refine o_iinc hC dX8_makeGroup_233 (by rfl) (rl_inc _) (Nat.le_of_ble_eq_true rfl) ?_
              refine o_goto (tgt := 89) hC dX8_makeGroup_236 (by decide) ?_
              exact ih (i + 1) _ _ _ _ _ _ _ _ _ (by omega) hq1
            · refine o_iload hC dX8_makeGroup_207 (by rfl) ?_
              refine o_iload hC dX8_makeGroup_209 (by rfl) ?_
              refine o_icmp_le (tgt := 219) hC dX8_makeGroup_211 (by decide) (fun c_211 => ?_) (fun c_211 => ?_)
              · refine o_iload hC dX8_makeGroup_219 (by rfl) ?_
                refine o_istore hC dX8_makeGroup_221 (Nat.le_of_ble_eq_true rfl) ?_
                refine o_iload hC dX8_makeGroup_223 (by rfl) ?_
                refine o_iload hC dX8_makeGroup_225 (by rfl) ?_
                refine o_iadd hC dX8_makeGroup_227 ?_
                try rw [nI_add]
                refine o_istore hC dX8_makeGroup_228 (Nat.le_of_ble_eq_true rfl) ?_
                refine o_iinc hC dX8_makeGroup_230 (by rfl) rfl (Nat.le_of_ble_eq_true rfl) ?_
                refine o_iinc hC dX8_makeGroup_233 (by rfl) (rl_inc _) (Nat.le_of_ble_eq_true rfl) ?_
                refine o_goto (tgt := 89) hC dX8_makeGroup_236 (by decide) ?_
                exact ih (i + 1) _ _ _ _ _ _ _ _ _ (by omega) hq1
              · refine o_iload hC dX8_makeGroup_214 (by rfl) ?_
                refine o_goto (tgt := 221) hC dX8_makeGroup_216 (by decide) ?_
                refine o_istore hC dX8_makeGroup_221 (Nat.le_of_ble_eq_true rfl) ?_
                refine o_iload hC dX8_makeGroup_223 (by rfl) ?_
                refine o_iload hC dX8_makeGroup_225 (by rfl) ?_
                refine o_iadd hC dX8_makeGroup_227 ?_
                try rw [nI_add]
                refine o_istore hC dX8_makeGroup_228 (Nat.le_of_ble_eq_true rfl) ?_
                refine o_iinc hC dX8_makeGroup_230 (by rfl) rfl (Nat.le_of_ble_eq_true rfl) ?_
                refine o_iinc hC dX8_makeGroup_233 (by rfl) (rl_inc _) (Nat.le_of_ble_eq_true rfl) ?_
                refine o_goto (tgt := 89) hC dX8_makeGroup_236 (by decide) ?_
                exact ih (i + 1) _ _ _ _ _ _ _ _ _ (by omega) hq1
          · refine o_iload hC dX8_makeGroup_186 (by rfl) ?_
            refine o_iload hC dX8_makeGroup_188 (by rfl) ?_
            refine o_icmp_ge (tgt := 198) hC dX8_makeGroup_190 (by decide) (fun c_190 => ?_) (fun c_190 => ?_)
            · refine o_iload hC dX8_makeGroup_198 (by rfl) ?_
              refine o_istore hC dX8_makeGroup_200 (Nat.le_of_ble_eq_true rfl) ?_
              refine o_iload hC dX8_makeGroup_202 (by rfl) ?_
              refine o_if_eq (tgt := 214) hC dX8_makeGroup_204 (by decide) (fun c_204 => ?_) (fun c_204 => ?_)
              · refine o_iload hC dX8_makeGroup_214 (by rfl) ?_
                refine o_goto (tgt := 221) hC dX8_makeGroup_216 (by decide) ?_
                refine o_istore hC dX8_makeGroup_221 (Nat.le_of_ble_eq_true rfl) ?_
                refine o_iload hC dX8_makeGroup_223 (by rfl) ?_
                refine o_iload hC dX8_makeGroup_225 (by rfl) ?_
                refine o_iadd hC dX8_makeGroup_227 ?_
                try rw [nI_add]
                refine o_istore hC dX8_makeGroup_228 (Nat.le_of_ble_eq_true rfl) ?_
                refine o_iinc hC dX8_makeGroup_230 (by rfl) rfl (Nat.le_of_ble_eq_true rfl) ?_
                refine o_iinc hC dX8_makeGroup_233 (by rfl) (rl_inc _) (Nat.le_of_ble_eq_true rfl) ?_
                refine o_goto (tgt := 89) hC dX8_makeGroup_236 (by decide) ?_
                exact ih (i + 1) _ _ _ _ _ _ _ _ _ (by omega) hq1
              · refine o_iload hC dX8_makeGroup_207 (by rfl) ?_
                refine o_iload hC dX8_makeGroup_209 (by rfl) ?_
                refine o_icmp_le (tgt := 219) hC dX8_makeGroup_211 (by decide) (fun c_211 => ?_) (fun c_211 => ?_)
                · refine o_iload hC dX8_makeGroup_219 (by rfl) ?_
                  refine o_istore hC dX8_makeGroup_221 (Nat.le_of_ble_eq_true rfl) ?_
                  refine o_iload hC dX8_makeGroup_223 (by rfl) ?_
                  refine o_iload hC dX8_makeGroup_225 (by rfl) ?_
                  refine o_iadd hC dX8_makeGroup_227 ?_
                  try rw [nI_add]
                  refine o_istore hC dX8_makeGroup_228 (Nat.le_of_ble_eq_true rfl) ?_
                  refine o_iinc hC dX8_makeGroup_230 (by rfl) rfl (Nat.le_of_ble_eq_true rfl) ?_
                  refine o_iinc hC dX8_makeGroup_233 (by rfl) (rl_inc _) (Nat.le_of_ble_eq_true rfl) ?_
                  refine o_goto (tgt := 89) hC dX8_makeGroup_236 (by decide) ?_
                  exact ih (i + 1) _ _ _ _ _ _ _ _ _ (by omega) hq1
                · refine o_iload hC dX8_makeGroup_214 (by rfl) ?_
                  refine o_goto (tgt := 221) hC dX8_makeGroup_216 (by decide) ?_
                  refine o_istore hC dX8_makeGroup_221 (Nat.le_of_ble_eq_true rfl) ?_
                  refine o_iload hC dX8_makeGroup_223 (by rfl) ?_
                  refine o_iload hC dX8_makeGroup_225 (by rfl) ?_
                  refine o_iadd hC dX8_makeGroup_227 ?_
                  try rw [nI_add]
                  refine o_istore hC dX8_makeGroup_228 (Nat.le_of_ble_eq_true rfl) ?_
                  refine o_iinc hC dX8_makeGroup_230 (by rfl) rfl (Nat.le_of_ble_eq_true rfl) ?_
                  refine o_iinc hC dX8_makeGroup_233 (by rfl) (rl_inc _) (Nat.le_of_ble_eq_true rfl) ?_
                  refine o_goto (tgt := 89) hC dX8_makeGroup_236 (by decide) ?_
                  exact ih (i + 1) _ _ _ _ _ _ _ _ _ (by omega) hq1
            · refine o_iload hC dX8_makeGroup_193 (by rfl) ?_
              refine o_goto (tgt := 200) hC dX8_makeGroup_195 (by decide) ?_
              refine o_istore hC dX8_makeGroup_200 (Nat.le_of_ble_eq_true rfl) ?_
              refine o_iload hC dX8_makeGroup_202 (by rfl) ?_
              refine o_if_eq (tgt := 214) hC dX8_makeGroup_204 (by decide) (fun c_204 => ?_) (fun c_204 => ?_)
              · refine o_iload hC dX8_makeGroup_214 (by rfl) ?_
                refine o_goto (tgt := 221) hC dX8_makeGroup_216 (by decide) ?_
                refine o_istore hC dX8_makeGroup_221 (Nat.le_of_ble_eq_true rfl) ?_
                refine o_iload hC dX8_makeGroup_223 (by rfl) ?_
                refine o_iload hC dX8_makeGroup_225 (by rfl) ?_
                refine o_iadd hC dX8_makeGroup_227 ?_
                try rw [nI_add]
                refine o_istore hC dX8_makeGroup_228 (Nat.le_of_ble_eq_true rfl) ?_
                refine o_iinc hC dX8_makeGroup_230 (by rfl) rfl (Nat.le_of_ble_eq_true rfl) ?_
                refine o_iinc hC dX8_makeGroup_233 (by rfl) (rl_inc _) (Nat.le_of_ble_eq_true rfl) ?_
                refine o_goto (tgt := 89) hC dX8_makeGroup_236 (by decide) ?_
                exact ih (i + 1) _ _ _ _ _ _ _ _ _ (by omega) hq1
              · refine o_iload hC dX8_makeGroup_207 (by rfl) ?_
                refine o_iload hC dX8_makeGroup_209 (by rfl) ?_
                refine o_icmp_le (tgt := 219) hC dX8_makeGroup_211 (by decide) (fun c_211 => ?_) (fun c_211 => ?_)
                · refine o_iload hC dX8_makeGroup_219 (by rfl) ?_
                  refine o_istore hC dX8_makeGroup_221 (Nat.le_of_ble_eq_true rfl) ?_
                  refine o_iload hC dX8_makeGroup_223 (by rfl) ?_
                  refine o_iload hC dX8_makeGroup_225 (by rfl) ?_
                  refine o_iadd hC dX8_makeGroup_227 ?_
                  try rw [nI_add]
                  refine o_istore hC dX8_makeGroup_228 (Nat.le_of_ble_eq_true rfl) ?_
                  refine o_iinc hC dX8_makeGroup_230 (by rfl) rfl (Nat.le_of_ble_eq_true rfl) ?_
                  refine o_iinc hC dX8_makeGroup_233 (by rfl) (rl_inc _) (Nat.le_of_ble_eq_true rfl) ?_
                  refine o_goto (tgt := 89) hC dX8_makeGroup_236 (by decide) ?_
                  exact ih (i + 1) _ _ _ _ _ _ _ _ _ (by omega) hq1
                · refine o_iload hC dX8_makeGroup_214 (by rfl) ?_
                  refine o_goto (tgt := 221) hC dX8_makeGroup_216 (by decide) ?_
                  refine o_istore hC dX8_makeGroup_221 (Nat.le_of_ble_eq_true rfl) ?_
                  refine o_iload hC dX8_makeGroup_223 (by rfl) ?_
                  refine o_iload hC dX8_makeGroup_225 (by rfl) ?_
                  refine o_iadd hC dX8_makeGroup_227 ?_
                  try rw [nI_add]
                  refine o_istore hC dX8_makeGroup_228 (Nat.le_of_ble_eq_true rfl) ?_
                  refine o_iinc hC dX8_makeGroup_230 (by rfl) rfl (Nat.le_of_ble_eq_true rfl) ?_
                  refine o_iinc hC dX8_makeGroup_233 (by rfl) (rl_inc _) (Nat.le_of_ble_eq_true rfl) ?_
                  refine o_goto (tgt := 89) hC dX8_makeGroup_236 (by decide) ?_
                  exact ih (i + 1) _ _ _ _ _ _ _ _ _ (by omega) hq1
      have hs1 := hq1.sa hs
      obtain ⟨g0, gk, ⟨⟨cl, g12⟩, ⟨tu, g13, b13⟩, ⟨im, g14⟩, ⟨te, g15, b15⟩, ⟨ne, g16⟩, ⟨la, g17⟩, ⟨hn, g18⟩, ⟨hl, g19⟩, ⟨tp, g20⟩, ⟨gr, g21, b21⟩, ⟨it, g22⟩⟩, gf⟩ := id hq1
      obtain ⟨a1, a2, a3, a4, a5, a6, a7, a8, a9, a10, a11⟩ := id hs1
      refine o_iload hC dX8_makeGroup_89 (by rfl) ?_
      refine o_iload_n hC dX8_makeGroup_91 (by rfl) ?_
      refine o_icmp_ge (tgt := 239) hC dX8_makeGroup_92 (by decide) (fun c_92 => ?_) (fun c_92 => ?_)
      · exact fin _ _ _ _ _ _ _ _ _ _ hq1
      · refine o_aload_n hC dX8_makeGroup_95 (by rfl) ?_
        refine o_getf hC (fX8_91 hC rfl) dX8_makeGroup_96 (by repeat (first | with_reducible assumption | (rw [rl_u_s]; done) | (rw [rl_u_s]; rfl) | rw [rl_u_n (by first | with_reducible assumption | omega)])) (by first | rfl | with_reducible assumption) ?_
        refine o_if_ne (tgt := 239) hC dX8_makeGroup_99 (by decide) (fun c_99 => ?_) (fun c_99 => ?_)
        · exact fin _ _ _ _ _ _ _ _ _ _ hq1
        · refine o_iload hC dX8_makeGroup_102 (by rfl) ?_
          refine o_iload hC dX8_makeGroup_104 (by rfl) ?_
          refine o_ishr hC dX8_makeGroup_106 ?_
          refine o_iconst (v := nI 1) hC dX8_makeGroup_107 (by decide +kernel) ?_
          refine o_iand hC dX8_makeGroup_108 ?_
          refine o_iconst (v := nI 1) hC dX8_makeGroup_109 (by decide +kernel) ?_
          refine o_icmp_ne (tgt := 117) hC dX8_makeGroup_110 (by decide) (fun c_110 => ?_) (fun c_110 => ?_)
          · refine o_iconst (v := nI 0) hC dX8_makeGroup_117 (by decide +kernel) ?_
            refine o_istore hC dX8_makeGroup_118 (Nat.le_of_ble_eq_true rfl) ?_
            refine o_aload_n hC dX8_makeGroup_120 (by rfl) ?_
            refine o_sipush (v := nI 1360) hC dX8_makeGroup_121 (by decide +kernel) ?_
            refine o_sipush (v := nI 1360) hC dX8_makeGroup_124 (by decide +kernel) ?_
            refine o_iload hC dX8_makeGroup_127 (by rfl) ?_
            refine o_if_eq (tgt := 147) hC dX8_makeGroup_129 (by decide) (fun c_129 => ?_) (fun c_129 => ?_)
            · refine o_sipush (v := nI 1362) hC dX8_makeGroup_147 (by decide +kernel) ?_
              refine o_iload hC dX8_makeGroup_150 (by rfl) ?_
              refine o_iadd hC dX8_makeGroup_152 ?_
              try rw [nI_add]
              refine o_callV3 hC rl_BW_good rl_Ns_nw (by exact hB.2.2.2.2.2) YX8_both IX8_both VX8_both (mX8_184 hC) (by rw [hB.1]; exact (by first | exact cm_X8_both l D ids H0 _ _ m T _ _ 1360 1360 (80 * b + t142) hq1.rf (by omega) (by omega) (by omega) | exact cm_X8_both l D ids H0 _ _ m T _ _ 1360 1360 (1362 + i) hq1.rf (by omega) (by omega) (by omega))) (by exact hq1.1) rfl rfl (Nat.le_of_ble_eq_true rfl) (by rw [hB.2.1]; first | exact Nat.le_of_ble_eq_true rfl | (dsimp only; omega)) (by rw [hB.2.1]; first | exact Nat.le_of_ble_eq_true rfl | (dsimp only; omega)) (by rw [hB.2.1]; first | exact Nat.le_of_ble_eq_true rfl | (dsimp only; omega)) (by rw [hB.2.1]; first | exact Nat.le_of_ble_eq_true rfl | (dsimp only; omega)) dX8_makeGroup_153 (fun v h_153 n_153 p_153 => ?_)
              obtain ⟨rfl, rfl, f153, k153, q153⟩ := p_153
              try dsimp only [Option.toList, List.cons_append, List.nil_append]
              exact aft _ _ _ _ _ (hq1.tr q153)
            · refine o_bipush (v := nI 80) hC dX8_makeGroup_132 (by decide +kernel) ?_
              refine o_iload_n hC dX8_makeGroup_134 (by rfl) ?_
              refine o_imul hC dX8_makeGroup_135 ?_
              try rw [nI_mul]
              refine o_aload_n hC dX8_makeGroup_136 (by rfl) ?_
              refine o_getf hC (fX8_72 hC rfl) dX8_makeGroup_137 (by repeat (first | with_reducible assumption | (rw [rl_u_s]; done) | (rw [rl_u_s]; rfl) | rw [rl_u_n (by first | with_reducible assumption | omega)])) (by first | rfl | with_reducible assumption) ?_
              refine o_iload hC dX8_makeGroup_140 (by rfl) ?_
              obtain ⟨t142, ht142, et142⟩ := b21 i (by omega)
              refine o_ialdN (t0 := 0) (k := i) hC rfl dX8_makeGroup_142 (by repeat (first | with_reducible assumption | (rw [rl_u_s]; done) | (rw [rl_u_s]; rfl) | rw [rl_u_n (by first | with_reducible assumption | omega)])) (by omega) (by decide) ?_
              rw [et142]
              refine o_iadd hC dX8_makeGroup_143 ?_
              try rw [nI_add]
              refine o_goto (tgt := 153) hC dX8_makeGroup_144 (by decide) ?_
              refine o_callV3 hC rl_BW_good rl_Ns_nw (by exact hB.2.2.2.2.2) YX8_both IX8_both VX8_both (mX8_184 hC) (by rw [hB.1]; exact (by first | exact cm_X8_both l D ids H0 _ _ m T _ _ 1360 1360 (80 * b + t142) hq1.rf (by omega) (by omega) (by omega) | exact cm_X8_both l D ids H0 _ _ m T _ _ 1360 1360 (1362 + i) hq1.rf (by omega) (by omega) (by omega))) (by exact hq1.1) rfl rfl (Nat.le_of_ble_eq_true rfl) (by rw [hB.2.1]; first | exact Nat.le_of_ble_eq_true rfl | (dsimp only; omega)) (by rw [hB.2.1]; first | exact Nat.le_of_ble_eq_true rfl | (dsimp only; omega)) (by rw [hB.2.1]; first | exact Nat.le_of_ble_eq_true rfl | (dsimp only; omega)) (by rw [hB.2.1]; first | exact Nat.le_of_ble_eq_true rfl | (dsimp only; omega)) dX8_makeGroup_153 (fun v h_153 n_153 p_153 => ?_)
              obtain ⟨rfl, rfl, f153, k153, q153⟩ := p_153
              try dsimp only [Option.toList, List.cons_append, List.nil_append]
              exact aft _ _ _ _ _ (hq1.tr q153)
          · refine o_iconst (v := nI 1) hC dX8_makeGroup_113 (by decide +kernel) ?_
            refine o_goto (tgt := 118) hC dX8_makeGroup_114 (by decide) ?_
            refine o_istore hC dX8_makeGroup_118 (Nat.le_of_ble_eq_true rfl) ?_
            refine o_aload_n hC dX8_makeGroup_120 (by rfl) ?_
            refine o_sipush (v := nI 1360) hC dX8_makeGroup_121 (by decide +kernel) ?_
            refine o_sipush (v := nI 1360) hC dX8_makeGroup_124 (by decide +kernel) ?_
            refine o_iload hC dX8_makeGroup_127 (by rfl) ?_
            refine o_if_eq (tgt := 147) hC dX8_makeGroup_129 (by decide) (fun c_129 => ?_) (fun c_129 => ?_)
            · refine o_sipush (v := nI 1362) hC dX8_makeGroup_147 (by decide +kernel) ?_
              refine o_iload hC dX8_makeGroup_150 (by rfl) ?_
              refine o_iadd hC dX8_makeGroup_152 ?_
              try rw [nI_add]
              refine o_callV3 hC rl_BW_good rl_Ns_nw (by exact hB.2.2.2.2.2) YX8_both IX8_both VX8_both (mX8_184 hC) (by rw [hB.1]; exact (by first | exact cm_X8_both l D ids H0 _ _ m T _ _ 1360 1360 (80 * b + t142) hq1.rf (by omega) (by omega) (by omega) | exact cm_X8_both l D ids H0 _ _ m T _ _ 1360 1360 (1362 + i) hq1.rf (by omega) (by omega) (by omega))) (by exact hq1.1) rfl rfl (Nat.le_of_ble_eq_true rfl) (by rw [hB.2.1]; first | exact Nat.le_of_ble_eq_true rfl | (dsimp only; omega)) (by rw [hB.2.1]; first | exact Nat.le_of_ble_eq_true rfl | (dsimp only; omega)) (by rw [hB.2.1]; first | exact Nat.le_of_ble_eq_true rfl | (dsimp only; omega)) (by rw [hB.2.1]; first | exact Nat.le_of_ble_eq_true rfl | (dsimp only; omega)) dX8_makeGroup_153 (fun v h_153 n_153 p_153 => ?_)
              obtain ⟨rfl, rfl, f153, k153, q153⟩ := p_153
              try dsimp only [Option.toList, List.cons_append, List.nil_append]
              exact aft _ _ _ _ _ (hq1.tr q153)
            · refine o_bipush (v := nI 80) hC dX8_makeGroup_132 (by decide +kernel) ?_
              refine o_iload_n hC dX8_makeGroup_134 (by rfl) ?_
              refine o_imul hC dX8_makeGroup_135 ?_
              try rw [nI_mul]
              refine o_aload_n hC dX8_makeGroup_136 (by rfl) ?_
              refine o_getf hC (fX8_72 hC rfl) dX8_makeGroup_137 (by repeat (first | with_reducible assumption | (rw [rl_u_s]; done) | (rw [rl_u_s]; rfl) | rw [rl_u_n (by first | with_reducible assumption | omega)])) (by first | rfl | with_reducible assumption) ?_
              refine o_iload hC dX8_makeGroup_140 (by rfl) ?_
              obtain ⟨t142, ht142, et142⟩ := b21 i (by omega)
              refine o_ialdN (t0 := 0) (k := i) hC rfl dX8_makeGroup_142 (by repeat (first | with_reducible assumption | (rw [rl_u_s]; done) | (rw [rl_u_s]; rfl) | rw [rl_u_n (by first | with_reducible assumption | omega)])) (by omega) (by decide) ?_
              rw [et142]
              refine o_iadd hC dX8_makeGroup_143 ?_
              try rw [nI_add]
              refine o_goto (tgt := 153) hC dX8_makeGroup_144 (by decide) ?_
              refine o_callV3 hC rl_BW_good rl_Ns_nw (by exact hB.2.2.2.2.2) YX8_both IX8_both VX8_both (mX8_184 hC) (by rw [hB.1]; exact (by first | exact cm_X8_both l D ids H0 _ _ m T _ _ 1360 1360 (80 * b + t142) hq1.rf (by omega) (by omega) (by omega) | exact cm_X8_both l D ids H0 _ _ m T _ _ 1360 1360 (1362 + i) hq1.rf (by omega) (by omega) (by omega))) (by exact hq1.1) rfl rfl (Nat.le_of_ble_eq_true rfl) (by rw [hB.2.1]; first | exact Nat.le_of_ble_eq_true rfl | (dsimp only; omega)) (by rw [hB.2.1]; first | exact Nat.le_of_ble_eq_true rfl | (dsimp only; omega)) (by rw [hB.2.1]; first | exact Nat.le_of_ble_eq_true rfl | (dsimp only; omega)) (by rw [hB.2.1]; first | exact Nat.le_of_ble_eq_true rfl | (dsimp only; omega)) dX8_makeGroup_153 (fun v h_153 n_153 p_153 => ?_)
              obtain ⟨rfl, rfl, f153, k153, q153⟩ := p_153
              try dsimp only [Option.toList, List.cons_append, List.nil_append]
              exact aft _ _ _ _ _ (hq1.tr q153)
  have loop2 : ∀ (mm sn : Nat) (h1 : rl_H) (f1 : Int32) (k1 : Nat) (o5 o6 o7 o8 o9 o10 o11 : Option Value), sn + mm = 16 → mq ids h h1 m T f1 k1 → rl_G X (rl_e D ids H0) 52 [some (.ref m), some (.int (nI a)), some (.int (nI b)), some (.int (nI q)), some (.int (nI sn)), o5, o6, o7, o8, o9, o10, o11] [] h1 n 0 0 := by
    intro mm
    induction mm with
    | zero =>
      intro sn h1 f1 k1 o5 o6 o7 o8 o9 o10 o11 hm hq1
      have e16 : sn = 16 := by omega
      subst e16
      refine o_iload hC dX8_makeGroup_52 (by rfl) ?_
      refine o_iconst (v := nI 1) hC dX8_makeGroup_54 (by decide +kernel) ?_
      refine o_iload_n hC dX8_makeGroup_55 (by rfl) ?_
      refine o_ishl hC dX8_makeGroup_56 ?_
      refine o_icmp_ge (tgt := 328) hC dX8_makeGroup_57 (by decide) (fun c_57 => ?_) (fun c_57 => ?_)
      · refine o_vret hC hB dX8_makeGroup_328 (Nat.le_of_ble_eq_true rfl) (Nat.le_of_ble_eq_true rfl) ?_
        exact ⟨rfl, rfl, _, _, hq1⟩
      · exact absurd (md_shl q hq4) c_57
    | succ mm ih =>
      intro sn h1 f1 k1 o5 o6 o7 o8 o9 o10 o11 hm hq1
      obtain ⟨g0, gk, -, gf⟩ := id hq1
      refine o_iload hC dX8_makeGroup_52 (by rfl) ?_
      refine o_iconst (v := nI 1) hC dX8_makeGroup_54 (by decide +kernel) ?_
      refine o_iload_n hC dX8_makeGroup_55 (by rfl) ?_
      refine o_ishl hC dX8_makeGroup_56 ?_
      refine o_icmp_ge (tgt := 328) hC dX8_makeGroup_57 (by decide) (fun c_57 => ?_) (fun c_57 => ?_)
      · refine o_vret hC hB dX8_makeGroup_328 (Nat.le_of_ble_eq_true rfl) (Nat.le_of_ble_eq_true rfl) ?_
        exact ⟨rfl, rfl, _, _, hq1⟩
      · refine o_aload_n hC dX8_makeGroup_60 (by rfl) ?_
        refine o_getf hC (fX8_91 hC rfl) dX8_makeGroup_61 (by repeat (first | with_reducible assumption | (rw [rl_u_s]; done) | (rw [rl_u_s]; rfl) | rw [rl_u_n (by first | with_reducible assumption | omega)])) (by first | rfl | with_reducible assumption) ?_
        refine o_if_ne (tgt := 328) hC dX8_makeGroup_64 (by decide) (fun c_64 => ?_) (fun c_64 => ?_)
        · refine o_vret hC hB dX8_makeGroup_328 (Nat.le_of_ble_eq_true rfl) (Nat.le_of_ble_eq_true rfl) ?_
          exact ⟨rfl, rfl, _, _, hq1⟩
        · refine o_aload_n hC dX8_makeGroup_67 (by rfl) ?_
          refine o_sipush (v := nI 1360) hC dX8_makeGroup_68 (by decide +kernel) ?_
          refine o_callV1 hC rl_BW_good rl_Ns_nw (by exact hB.2.2.2.2.2) YX8_truth IX8_truth VX8_truth (mX8_103 hC) (by rw [hB.1]; exact cm_X8_truth l D ids H0 _ _ m T _ _ 1360 hq1.rf (by decide)) (by exact hq1.1) rfl rfl (Nat.le_of_ble_eq_true rfl) (by rw [hB.2.1]; first | exact Nat.le_of_ble_eq_true rfl | (dsimp only; omega)) (by rw [hB.2.1]; first | exact Nat.le_of_ble_eq_true rfl | (dsimp only; omega)) (by rw [hB.2.1]; first | exact Nat.le_of_ble_eq_true rfl | (dsimp only; omega)) (by rw [hB.2.1]; first | exact Nat.le_of_ble_eq_true rfl | (dsimp only; omega)) dX8_makeGroup_71 (fun v h_71 n_71 p_71 => ?_)
          obtain ⟨rfl, rfl, q71⟩ := p_71
          try dsimp only [Option.toList, List.cons_append, List.nil_append]
          refine o_iconst (v := nI 0) hC dX8_makeGroup_74 (by decide +kernel) ?_
          refine o_istore hC dX8_makeGroup_75 (Nat.le_of_ble_eq_true rfl) ?_
          refine o_iconst (v := nI 0) hC dX8_makeGroup_77 (by decide +kernel) ?_
          refine o_istore hC dX8_makeGroup_78 (Nat.le_of_ble_eq_true rfl) ?_
          refine o_iconst (v := nI 0) hC dX8_makeGroup_80 (by decide +kernel) ?_
          refine o_istore hC dX8_makeGroup_81 (Nat.le_of_ble_eq_true rfl) ?_
          refine o_iconst (v := nI 0) hC dX8_makeGroup_83 (by decide +kernel) ?_
          refine o_istore hC dX8_makeGroup_84 (Nat.le_of_ble_eq_true rfl) ?_
          refine o_iconst (v := nI 0) hC dX8_makeGroup_86 (by decide +kernel) ?_
          refine o_istore hC dX8_makeGroup_87 (Nat.le_of_ble_eq_true rfl) ?_
          exact loop3 sn (fun h2 f2 k2 o5 o6 o7 o8 o9 o10 o11 hq2 => ih (sn + 1) _ _ _ _ _ _ _ _ _ _ (by omega) hq2) q 0 _ _ _ _ _ _ _ _ _ (by omega) (hq1.tr q71)
  have loop1 : ∀ (mm i : Nat) (h1 : rl_H) (f1 : Int32) (k1 : Nat), i + mm = q → mq ids h h1 m T f1 k1 → rl_G X (rl_e D ids H0) 3 [some (.ref m), some (.int (nI a)), some (.int (nI b)), some (.int (nI q)), some (.int (nI i)), none, none, none, none, none, none, none] [] h1 n 0 0 := by
    intro mm
    induction mm with
    | zero =>
      intro i h1 f1 k1 hm hq1
      refine o_iload hC dX8_makeGroup_3 (by rfl) ?_
      refine o_iload_n hC dX8_makeGroup_5 (by rfl) ?_
      refine o_icmp_ge (tgt := 49) hC dX8_makeGroup_6 (by decide) (fun c_6 => ?_) (fun c_6 => ?_)
      · refine o_iconst (v := nI 1) hC dX8_makeGroup_49 (by decide +kernel) ?_
        refine o_istore hC dX8_makeGroup_50 (Nat.le_of_ble_eq_true rfl) ?_
        exact loop2 15 1 _ _ _ _ _ _ _ _ _ _ (by omega) hq1
      · exact absurd (nI_le (by omega) (by omega)) c_6
    | succ mm ih =>
      intro i h1 f1 k1 hm hq1
      obtain ⟨g0, gk, ⟨⟨cl, g12⟩, ⟨tu, g13, b13⟩, ⟨im, g14⟩, ⟨te, g15, b15⟩, ⟨ne, g16⟩, ⟨la, g17⟩, ⟨hn, g18⟩, ⟨hl, g19⟩, ⟨tp, g20⟩, ⟨gr, g21, b21⟩, ⟨it, g22⟩⟩, gf⟩ := id hq1
      refine o_iload hC dX8_makeGroup_3 (by rfl) ?_
      refine o_iload_n hC dX8_makeGroup_5 (by rfl) ?_
      refine o_icmp_ge (tgt := 49) hC dX8_makeGroup_6 (by decide) (fun c_6 => ?_) (fun c_6 => ?_)
      · refine o_iconst (v := nI 1) hC dX8_makeGroup_49 (by decide +kernel) ?_
        refine o_istore hC dX8_makeGroup_50 (Nat.le_of_ble_eq_true rfl) ?_
        exact loop2 15 1 _ _ _ _ _ _ _ _ _ _ (by omega) hq1
      · refine o_aload_n hC dX8_makeGroup_9 (by rfl) ?_
        refine o_getf hC (fX8_91 hC rfl) dX8_makeGroup_10 (by repeat (first | with_reducible assumption | (rw [rl_u_s]; done) | (rw [rl_u_s]; rfl) | rw [rl_u_n (by first | with_reducible assumption | omega)])) (by first | rfl | with_reducible assumption) ?_
        refine o_if_ne (tgt := 49) hC dX8_makeGroup_13 (by decide) (fun c_13 => ?_) (fun c_13 => ?_)
        · refine o_iconst (v := nI 1) hC dX8_makeGroup_49 (by decide +kernel) ?_
          refine o_istore hC dX8_makeGroup_50 (Nat.le_of_ble_eq_true rfl) ?_
          exact loop2 15 1 _ _ _ _ _ _ _ _ _ _ (by omega) hq1
        · refine o_iload_n hC dX8_makeGroup_16 (by rfl) ?_
          refine o_iconst (v := nI 1) hC dX8_makeGroup_17 (by decide +kernel) ?_
          refine o_icmp_le (tgt := 43) hC dX8_makeGroup_18 (by decide) (fun c_18 => ?_) (fun c_18 => ?_)
          · refine o_iinc hC dX8_makeGroup_43 (by rfl) (rl_inc _) (Nat.le_of_ble_eq_true rfl) ?_
            refine o_goto (tgt := 3) hC dX8_makeGroup_46 (by decide) ?_
            first
            | exact ih (i + 1) _ _ _ (by omega) (hq1.tr q40)
            | exact ih (i + 1) _ _ _ (by omega) hq1
          · refine o_aload_n hC dX8_makeGroup_21 (by rfl) ?_
            refine o_sipush (v := nI 1362) hC dX8_makeGroup_22 (by decide +kernel) ?_
            refine o_iload hC dX8_makeGroup_25 (by rfl) ?_
            refine o_iadd hC dX8_makeGroup_27 ?_
            try rw [nI_add]
            refine o_bipush (v := nI 80) hC dX8_makeGroup_28 (by decide +kernel) ?_
            refine o_iload_n hC dX8_makeGroup_30 (by rfl) ?_
            refine o_imul hC dX8_makeGroup_31 ?_
            try rw [nI_mul]
            refine o_aload_n hC dX8_makeGroup_32 (by rfl) ?_
            refine o_getf hC (fX8_72 hC rfl) dX8_makeGroup_33 (by repeat (first | with_reducible assumption | (rw [rl_u_s]; done) | (rw [rl_u_s]; rfl) | rw [rl_u_n (by first | with_reducible assumption | omega)])) (by first | rfl | with_reducible assumption) ?_
            refine o_iload hC dX8_makeGroup_36 (by rfl) ?_
            obtain ⟨t38, ht38, et38⟩ := b21 i (by omega)
            refine o_ialdN (t0 := 0) (k := i) hC rfl dX8_makeGroup_38 (by repeat (first | with_reducible assumption | (rw [rl_u_s]; done) | (rw [rl_u_s]; rfl) | rw [rl_u_n (by first | with_reducible assumption | omega)])) (by omega) (by decide) ?_
            rw [et38]
            refine o_iadd hC dX8_makeGroup_39 ?_
            try rw [nI_add]
            refine o_callV2 hC rl_BW_good rl_Ns_nw (by exact hB.2.2.2.2.2) YX8_not IX8_not VX8_not (mX8_187 hC) (by rw [hB.1]; exact cm_X8_not l D ids H0 _ _ m T _ _ (1362 + i) (80 * b + t38) hq1.rf (by omega) (by omega)) (by exact hq1.1) rfl rfl (Nat.le_of_ble_eq_true rfl) (by rw [hB.2.1]; first | exact Nat.le_of_ble_eq_true rfl | (dsimp only; omega)) (by rw [hB.2.1]; first | exact Nat.le_of_ble_eq_true rfl | (dsimp only; omega)) (by rw [hB.2.1]; first | exact Nat.le_of_ble_eq_true rfl | (dsimp only; omega)) (by rw [hB.2.1]; first | exact Nat.le_of_ble_eq_true rfl | (dsimp only; omega)) dX8_makeGroup_40 (fun v h_40 n_40 p_40 => ?_)
            obtain ⟨rfl, rfl, f40, k40, q40⟩ := p_40
            try dsimp only [Option.toList, List.cons_append, List.nil_append]
            refine o_iinc hC dX8_makeGroup_43 (by rfl) (rl_inc _) (Nat.le_of_ble_eq_true rfl) ?_
            refine o_goto (tgt := 3) hC dX8_makeGroup_46 (by decide) ?_
            first
            | exact ih (i + 1) _ _ _ (by omega) (hq1.tr q40)
            | exact ih (i + 1) _ _ _ (by omega) hq1
  show rl_G X (rl_e D ids H0) 0 [some (.ref m), some (.int (nI a)), some (.int (nI b)), some (.int (nI q)), none, none, none, none, none, none, none, none] [] h n 0 0
  refine o_iconst (v := nI 0) hC dX8_makeGroup_0 (by decide +kernel) ?_
  refine o_istore hC dX8_makeGroup_1 (Nat.le_of_ble_eq_true rfl) ?_
  exact loop1 q 0 _ _ _ (by omega) hq

set_option maxHeartbeats 4000000 in
set_option maxRecDepth 100000 in
theorem cm_X8_makeFold (l : Launch) (D : va_G) (ids : Nat → ClassId) (H0 : Heap) (h : rl_H) (n : Nat) (m : Nat) (T : md_T) (fu : Int32) (k : Nat) (S : md_A) (a b w wb ca cb : Nat) (hq : mq ids h h m T fu k) (hs : md_sa ids h m S) (ha : a < 16) (hb : b < 16) (hw : S.2.2.2.2.2.2.2.2.2.2 a = nI w) (hw6 : w ≤ 6) (hwb : S.2.2.2.2.2.2.2.2.2.2 b = nI wb) (hwb6 : wb ≤ 6) (hnA : S.2.2.2.2.2.2.1 a = nI ca) (hca : ca < 6) (hnB : S.2.2.2.2.2.2.2.1 a = nI cb) (hcb : cb < 6) : rl_Met l (rl_e D ids H0) rl_BW rl_Ns yX8_makeFold cX8_makeFold 7 none ({ frames := 5, cells := 0, slots := 0, locals := 129 }) [.ref m, .int (nI a), .int (nI b)] h n (fun v h' n' => v = none ∧ n' = n ∧ ∃ (fu' : Int32) (k' : Nat), mq ids h h' m T fu' k') := by
  refine rl_Met.of (by decide +kernel) (Nat.le_of_ble_eq_true rfl) ?_
  intro X hC hB
  have loop : ∀ (mm t : Nat) (h1 : rl_H) (f1 : Int32) (k1 : Nat) (o4 o5 o6 : Option Value), t + mm = 80 → mq ids h h1 m T f1 k1 → rl_G X (rl_e D ids H0) 2 [some (.ref m), some (.int (nI a)), some (.int (nI b)), some (.int (nI t)), o4, o5, o6] [] h1 n 0 0 := by
    intro mm
    induction mm with
    | zero =>
      intro t h1 f1 k1 o4 o5 o6 hm hq1
      have hs1 := hq1.sa hs
      obtain ⟨g0, gk, ⟨⟨cl, g12⟩, ⟨tu, g13, b13⟩, ⟨im, g14⟩, ⟨te, g15, b15⟩, ⟨ne, g16⟩, ⟨la, g17⟩, ⟨hn, g18⟩, ⟨hl, g19⟩, ⟨tp, g20⟩, ⟨gr, g21, b21⟩, ⟨it, g22⟩⟩, gf⟩ := id hq1
      obtain ⟨a1, a2, a3, a4, a5, a6, a7, a8, a9, a10, a11⟩ := id hs1
      refine o_iload_n hC dX8_makeFold_2 (by rfl) ?_
      refine o_aload_n hC dX8_makeFold_3 (by rfl) ?_
      refine o_getf hC (fX8_46 hC rfl) dX8_makeFold_4 (by repeat (first | with_reducible assumption | (rw [rl_u_s]; done) | (rw [rl_u_s]; rfl) | rw [rl_u_n (by first | with_reducible assumption | omega)])) (by first | rfl | with_reducible assumption) ?_
      refine o_iload_n hC dX8_makeFold_7 (by rfl) ?_
      obtain ⟨t8, ht8, et8⟩ := b13 b (by omega)
      refine o_ialdN (t0 := 0) (k := b) hC rfl dX8_makeFold_8 (by repeat (first | with_reducible assumption | (rw [rl_u_s]; done) | (rw [rl_u_s]; rfl) | rw [rl_u_n (by first | with_reducible assumption | omega)])) (by omega) (by decide) ?_
      rw [et8]
      refine o_icmp_ge (tgt := 147) hC dX8_makeFold_9 (by decide) (fun c_9 => ?_) (fun c_9 => ?_)
      · refine o_vret hC hB dX8_makeFold_147 (Nat.le_of_ble_eq_true rfl) (Nat.le_of_ble_eq_true rfl) ?_
        exact ⟨rfl, rfl, _, _, hq1⟩
      · exact absurd (nI_le (by omega) (by omega)) c_9
    | succ mm ih =>
      intro t h1 f1 k1 o4 o5 o6 hm hq1
      have loopU : ∀ (m2 u q : Nat) (h2 : rl_H) (f2 : Int32) (k2 : Nat) (z : Int32), u + m2 = 80 → q ≤ u → mq ids h h2 m T f2 k2 → rl_G X (rl_e D ids H0) 28 [some (.ref m), some (.int (nI a)), some (.int (nI b)), some (.int (nI t)), some (.int (nI q)), some (.int z), some (.int (nI u))] [] h2 n 0 0 := by
        intro m2
        have fin : ∀ (q : Nat) (h2 : rl_H) (f2 : Int32) (k2 : Nat) (z : Int32) (o6 : Option Value), q ≤ 80 → mq ids h h2 m T f2 k2 → rl_G X (rl_e D ids H0) 109 [some (.ref m), some (.int (nI a)), some (.int (nI b)), some (.int (nI t)), some (.int (nI q)), some (.int z), o6] [] h2 n 0 0 := by
          intro q h2 f2 k2 z o6 hq80 hq2
          have hs1 := hq2.sa hs
          obtain ⟨g0, gk, ⟨⟨cl, g12⟩, ⟨tu, g13, b13⟩, ⟨im, g14⟩, ⟨te, g15, b15⟩, ⟨ne, g16⟩, ⟨la, g17⟩, ⟨hn, g18⟩, ⟨hl, g19⟩, ⟨tp, g20⟩, ⟨gr, g21, b21⟩, ⟨it, g22⟩⟩, gf⟩ := id hq2
          obtain ⟨a1, a2, a3, a4, a5, a6, a7, a8, a9, a10, a11⟩ := id hs1
          refine o_iload hC dX8_makeFold_109 (by rfl) ?_
          refine o_if_eq (tgt := 128) hC dX8_makeFold_111 (by decide) (fun c_111 => ?_) (fun c_111 => ?_)
          · refine o_iload hC dX8_makeFold_128 (by rfl) ?_
            refine o_if_eq (tgt := 141) hC dX8_makeFold_130 (by decide) (fun c_130 => ?_) (fun c_130 => ?_)
            · refine o_iinc hC dX8_makeFold_141 (by rfl) (rl_inc _) (Nat.le_of_ble_eq_true rfl) ?_
              refine o_goto (tgt := 2) hC dX8_makeFold_144 (by decide) ?_
              first
              | exact ih (t + 1) _ _ _ _ _ _ (by omega) (hq2.tr q138)
              | exact ih (t + 1) _ _ _ _ _ _ (by omega) (hq2.ob T (nI 1) k2 gk)
              | exact ih (t + 1) _ _ _ _ _ _ (by omega) hq2
            · have q4 : q ≤ 4 := by
                first | exact (nI_leI (by omega) (by decide)).mp c_117 | exact absurd c_111 c_130
              refine o_aload_n hC dX8_makeFold_133 (by rfl) ?_
              refine o_iload_n hC dX8_makeFold_134 (by rfl) ?_
              refine o_iload_n hC dX8_makeFold_135 (by rfl) ?_
              refine o_iload hC dX8_makeFold_136 (by rfl) ?_
              refine o_callV3 hC rl_BW_good rl_Ns_nw (by exact hB.2.2.2.2.2) YX8_makeGroup IX8_makeGroup VX8_makeGroup (mX8_190 hC) (by rw [hB.1]; exact cm_X8_makeGroup l D ids H0 _ _ m T _ _ S a b w wb ca cb q hq2.rf hs1 ha hb hw hw6 hwb hwb6 hnA hca hnB hcb q4) (by exact hq2.1) rfl rfl (Nat.le_of_ble_eq_true rfl) (by rw [hB.2.1]; first | exact Nat.le_of_ble_eq_true rfl | (dsimp only; omega)) (by rw [hB.2.1]; first | exact Nat.le_of_ble_eq_true rfl | (dsimp only; omega)) (by rw [hB.2.1]; first | exact Nat.le_of_ble_eq_true rfl | (dsimp only; omega)) (by rw [hB.2.1]; first | exact Nat.le_of_ble_eq_true rfl | (dsimp only; omega)) dX8_makeFold_138 (fun v h_138 n_138 p_138 => ?_)
              obtain ⟨rfl, rfl, f138, k138, q138⟩ := p_138
              try dsimp only [Option.toList, List.cons_append, List.nil_append]
              refine o_iinc hC dX8_makeFold_141 (by rfl) (rl_inc _) (Nat.le_of_ble_eq_true rfl) ?_
              refine o_goto (tgt := 2) hC dX8_makeFold_144 (by decide) ?_
              first
              | exact ih (t + 1) _ _ _ _ _ _ (by omega) (hq2.tr q138)
              | exact ih (t + 1) _ _ _ _ _ _ (by omega) (hq2.ob T (nI 1) k2 gk)
              | exact ih (t + 1) _ _ _ _ _ _ (by omega) hq2
          · refine o_iload hC dX8_makeFold_114 (by rfl) ?_
            refine o_iconst (v := nI 4) hC dX8_makeFold_116 (by decide +kernel) ?_
            refine o_icmp_le (tgt := 128) hC dX8_makeFold_117 (by decide) (fun c_117 => ?_) (fun c_117 => ?_)
            · refine o_iload hC dX8_makeFold_128 (by rfl) ?_
              refine o_if_eq (tgt := 141) hC dX8_makeFold_130 (by decide) (fun c_130 => ?_) (fun c_130 => ?_)
              · refine o_iinc hC dX8_makeFold_141 (by rfl) (rl_inc _) (Nat.le_of_ble_eq_true rfl) ?_
                refine o_goto (tgt := 2) hC dX8_makeFold_144 (by decide) ?_
                first
                | exact ih (t + 1) _ _ _ _ _ _ (by omega) (hq2.tr q138)
                | exact ih (t + 1) _ _ _ _ _ _ (by omega) (hq2.ob T (nI 1) k2 gk)
                | exact ih (t + 1) _ _ _ _ _ _ (by omega) hq2
              · have q4 : q ≤ 4 := by
                  first | exact (nI_leI (by omega) (by decide)).mp c_117 | exact absurd c_111 c_130
                refine o_aload_n hC dX8_makeFold_133 (by rfl) ?_
                refine o_iload_n hC dX8_makeFold_134 (by rfl) ?_
                refine o_iload_n hC dX8_makeFold_135 (by rfl) ?_
                refine o_iload hC dX8_makeFold_136 (by rfl) ?_
                refine o_callV3 hC rl_BW_good rl_Ns_nw (by exact hB.2.2.2.2.2) YX8_makeGroup IX8_makeGroup VX8_makeGroup (mX8_190 hC) (by rw [hB.1]; exact cm_X8_makeGroup l D ids H0 _ _ m T _ _ S a b w wb ca cb q hq2.rf hs1 ha hb hw hw6 hwb hwb6 hnA hca hnB hcb q4) (by exact hq2.1) rfl rfl (Nat.le_of_ble_eq_true rfl) (by rw [hB.2.1]; first | exact Nat.le_of_ble_eq_true rfl | (dsimp only; omega)) (by rw [hB.2.1]; first | exact Nat.le_of_ble_eq_true rfl | (dsimp only; omega)) (by rw [hB.2.1]; first | exact Nat.le_of_ble_eq_true rfl | (dsimp only; omega)) (by rw [hB.2.1]; first | exact Nat.le_of_ble_eq_true rfl | (dsimp only; omega)) dX8_makeFold_138 (fun v h_138 n_138 p_138 => ?_)
                obtain ⟨rfl, rfl, f138, k138, q138⟩ := p_138
                try dsimp only [Option.toList, List.cons_append, List.nil_append]
                refine o_iinc hC dX8_makeFold_141 (by rfl) (rl_inc _) (Nat.le_of_ble_eq_true rfl) ?_
                refine o_goto (tgt := 2) hC dX8_makeFold_144 (by decide) ?_
                first
                | exact ih (t + 1) _ _ _ _ _ _ (by omega) (hq2.tr q138)
                | exact ih (t + 1) _ _ _ _ _ _ (by omega) (hq2.ob T (nI 1) k2 gk)
                | exact ih (t + 1) _ _ _ _ _ _ (by omega) hq2
            · refine o_aload_n hC dX8_makeFold_120 (by rfl) ?_
              refine o_iconst (v := nI 1) hC dX8_makeFold_121 (by decide +kernel) ?_
              refine o_putf hC (fX8_91 hC rfl) (fwX8 rfl rfl rfl (Or.inl rfl)) dX8_makeFold_122 (by repeat (first | with_reducible assumption | (rw [rl_u_s]; done) | (rw [rl_u_s]; rfl) | rw [rl_u_n (by first | with_reducible assumption | omega)])) (Nat.le_of_ble_eq_true rfl) ?_
              try simp only [List.set_cons_zero, List.set_cons_succ]
              refine o_goto (tgt := 141) hC dX8_makeFold_125 (by decide) ?_
              refine o_iinc hC dX8_makeFold_141 (by rfl) (rl_inc _) (Nat.le_of_ble_eq_true rfl) ?_
              refine o_goto (tgt := 2) hC dX8_makeFold_144 (by decide) ?_
              first
              | exact ih (t + 1) _ _ _ _ _ _ (by omega) (hq2.tr q138)
              | exact ih (t + 1) _ _ _ _ _ _ (by omega) (hq2.ob T (nI 1) k2 gk)
              | exact ih (t + 1) _ _ _ _ _ _ (by omega) hq2
        induction m2 with
        | zero =>
          intro u q h2 f2 k2 z hm2 hqu hq2
          have hs1 := hq2.sa hs
          obtain ⟨g0, gk, ⟨⟨cl, g12⟩, ⟨tu, g13, b13⟩, ⟨im, g14⟩, ⟨te, g15, b15⟩, ⟨ne, g16⟩, ⟨la, g17⟩, ⟨hn, g18⟩, ⟨hl, g19⟩, ⟨tp, g20⟩, ⟨gr, g21, b21⟩, ⟨it, g22⟩⟩, gf⟩ := id hq2
          obtain ⟨a1, a2, a3, a4, a5, a6, a7, a8, a9, a10, a11⟩ := id hs1
          refine o_iload hC dX8_makeFold_28 (by rfl) ?_
          refine o_aload_n hC dX8_makeFold_30 (by rfl) ?_
          refine o_getf hC (fX8_46 hC rfl) dX8_makeFold_31 (by repeat (first | with_reducible assumption | (rw [rl_u_s]; done) | (rw [rl_u_s]; rfl) | rw [rl_u_n (by first | with_reducible assumption | omega)])) (by first | rfl | with_reducible assumption) ?_
          refine o_iload_n hC dX8_makeFold_34 (by rfl) ?_
          obtain ⟨t35, ht35, et35⟩ := b13 b (by omega)
          refine o_ialdN (t0 := 0) (k := b) hC rfl dX8_makeFold_35 (by repeat (first | with_reducible assumption | (rw [rl_u_s]; done) | (rw [rl_u_s]; rfl) | rw [rl_u_n (by first | with_reducible assumption | omega)])) (by omega) (by decide) ?_
          rw [et35]
          refine o_icmp_ge (tgt := 109) hC dX8_makeFold_36 (by decide) (fun c_36 => ?_) (fun c_36 => ?_)
          · exact fin _ _ _ _ _ _ (by omega) hq2
          · exact absurd (nI_le (by omega) (by omega)) c_36
        | succ m2 ih2 =>
          intro u q h2 f2 k2 z hm2 hqu hq2
          have hs1 := hq2.sa hs
          obtain ⟨g0, gk, ⟨⟨cl, g12⟩, ⟨tu, g13, b13⟩, ⟨im, g14⟩, ⟨te, g15, b15⟩, ⟨ne, g16⟩, ⟨la, g17⟩, ⟨hn, g18⟩, ⟨hl, g19⟩, ⟨tp, g20⟩, ⟨gr, g21, b21⟩, ⟨it, g22⟩⟩, gf⟩ := id hq2
          obtain ⟨a1, a2, a3, a4, a5, a6, a7, a8, a9, a10, a11⟩ := id hs1
          refine o_iload hC dX8_makeFold_28 (by rfl) ?_
          refine o_aload_n hC dX8_makeFold_30 (by rfl) ?_
          refine o_getf hC (fX8_46 hC rfl) dX8_makeFold_31 (by repeat (first | with_reducible assumption | (rw [rl_u_s]; done) | (rw [rl_u_s]; rfl) | rw [rl_u_n (by first | with_reducible assumption | omega)])) (by first | rfl | with_reducible assumption) ?_
          refine o_iload_n hC dX8_makeFold_34 (by rfl) ?_
          obtain ⟨t35, ht35, et35⟩ := b13 b (by omega)
          refine o_ialdN (t0 := 0) (k := b) hC rfl dX8_makeFold_35 (by repeat (first | with_reducible assumption | (rw [rl_u_s]; done) | (rw [rl_u_s]; rfl) | rw [rl_u_n (by first | with_reducible assumption | omega)])) (by omega) (by decide) ?_
          rw [et35]
          refine o_icmp_ge (tgt := 109) hC dX8_makeFold_36 (by decide) (fun c_36 => ?_) (fun c_36 => ?_)
          · exact fin _ _ _ _ _ _ (by omega) hq2
          · refine o_aload_n hC dX8_makeFold_39 (by rfl) ?_
            refine o_iload_n hC dX8_makeFold_40 (by rfl) ?_
            refine o_iload hC dX8_makeFold_41 (by rfl) ?_
            refine o_aload_n hC dX8_makeFold_43 (by rfl) ?_
            refine o_getf hC (fX8_28 hC rfl) dX8_makeFold_44 (by repeat (first | with_reducible assumption | (rw [rl_u_s]; done) | (rw [rl_u_s]; rfl) | rw [rl_u_n (by first | with_reducible assumption | omega)])) (by first | rfl | with_reducible assumption) ?_
            refine o_iload_n hC dX8_makeFold_47 (by rfl) ?_
            refine o_ialdN (t0 := 0) (k := a) hC rfl dX8_makeFold_48 (by repeat (first | with_reducible assumption | (rw [rl_u_s]; done) | (rw [rl_u_s]; rfl) | rw [rl_u_n (by first | with_reducible assumption | omega)])) (by omega) (by decide) ?_
            rw [hnA]
            refine o_callV3 hC rl_BW_good rl_Ns_nw (by exact hB.2.2.2.2.2) YX8_cellAt IX8_cellAt VX8_cellAt (mX8_138 hC) (by rw [hB.1]; exact cm_X8_cellAt l D ids H0 _ _ m T _ _ b u ca hq2.rf (by omega)) (by exact hq2.rf.1) rfl rfl (Nat.le_of_ble_eq_true rfl) (by rw [hB.2.1]; first | exact Nat.le_of_ble_eq_true rfl | (dsimp only; omega)) (by rw [hB.2.1]; first | exact Nat.le_of_ble_eq_true rfl | (dsimp only; omega)) (by rw [hB.2.1]; first | exact Nat.le_of_ble_eq_true rfl | (dsimp only; omega)) (by rw [hB.2.1]; first | exact Nat.le_of_ble_eq_true rfl | (dsimp only; omega)) dX8_makeFold_49 (fun v h_49 n_49 p_49 => ?_)
            obtain ⟨r49, rfl, rfl, rfl⟩ := p_49
            try dsimp only [Option.toList, List.cons_append, List.nil_append]
            refine o_aload_n hC dX8_makeFold_52 (by rfl) ?_
            refine o_iload_n hC dX8_makeFold_53 (by rfl) ?_
            refine o_iload_n hC dX8_makeFold_54 (by rfl) ?_
            refine o_aload_n hC dX8_makeFold_55 (by rfl) ?_
            refine o_getf hC (fX8_28 hC rfl) dX8_makeFold_56 (by repeat (first | with_reducible assumption | (rw [rl_u_s]; done) | (rw [rl_u_s]; rfl) | rw [rl_u_n (by first | with_reducible assumption | omega)])) (by first | rfl | with_reducible assumption) ?_
            refine o_iload_n hC dX8_makeFold_59 (by rfl) ?_
            refine o_ialdN (t0 := 0) (k := a) hC rfl dX8_makeFold_60 (by repeat (first | with_reducible assumption | (rw [rl_u_s]; done) | (rw [rl_u_s]; rfl) | rw [rl_u_n (by first | with_reducible assumption | omega)])) (by omega) (by decide) ?_
            rw [hnA]
            refine o_callV3 hC rl_BW_good rl_Ns_nw (by exact hB.2.2.2.2.2) YX8_cellAt IX8_cellAt VX8_cellAt (mX8_138 hC) (by rw [hB.1]; exact cm_X8_cellAt l D ids H0 _ _ m T _ _ b t ca hq2.rf (by omega)) (by exact hq2.rf.1) rfl rfl (Nat.le_of_ble_eq_true rfl) (by rw [hB.2.1]; first | exact Nat.le_of_ble_eq_true rfl | (dsimp only; omega)) (by rw [hB.2.1]; first | exact Nat.le_of_ble_eq_true rfl | (dsimp only; omega)) (by rw [hB.2.1]; first | exact Nat.le_of_ble_eq_true rfl | (dsimp only; omega)) (by rw [hB.2.1]; first | exact Nat.le_of_ble_eq_true rfl | (dsimp only; omega)) dX8_makeFold_61 (fun v h_61 n_61 p_61 => ?_)
            obtain ⟨r61, rfl, rfl, rfl⟩ := p_61
            try dsimp only [Option.toList, List.cons_append, List.nil_append]
            refine o_icmp_ne (tgt := 103) hC dX8_makeFold_64 (by decide) (fun c_64 => ?_) (fun c_64 => ?_)
            · refine o_iinc hC dX8_makeFold_103 (by rfl) (rl_inc _) (Nat.le_of_ble_eq_true rfl) ?_
              refine o_goto (tgt := 28) hC dX8_makeFold_106 (by decide) ?_
              first
              | exact ih2 (u + 1) (q + 1) _ _ _ _ (by omega) (by omega) (hq2.s21 _ (md_bl b21 ⟨u, by omega, rfl⟩))
              | exact ih2 (u + 1) (q + 1) _ _ _ _ (by omega) (by omega) hq2
              | exact ih2 (u + 1) q _ _ _ _ (by omega) (by omega) hq2
            · refine o_iload hC dX8_makeFold_67 (by rfl) ?_
              refine o_if_eq (tgt := 82) hC dX8_makeFold_69 (by decide) (fun c_69 => ?_) (fun c_69 => ?_)
              · refine o_iconst (v := nI 0) hC dX8_makeFold_82 (by decide +kernel) ?_
                refine o_istore hC dX8_makeFold_83 (Nat.le_of_ble_eq_true rfl) ?_
                refine o_iload hC dX8_makeFold_85 (by rfl) ?_
                refine o_iconst (v := nI 4) hC dX8_makeFold_87 (by decide +kernel) ?_
                refine o_icmp_ge (tgt := 100) hC dX8_makeFold_88 (by decide) (fun c_88 => ?_) (fun c_88 => ?_)
                · refine o_iinc hC dX8_makeFold_100 (by rfl) (rl_inc _) (Nat.le_of_ble_eq_true rfl) ?_
                  refine o_iinc hC dX8_makeFold_103 (by rfl) (rl_inc _) (Nat.le_of_ble_eq_true rfl) ?_
                  refine o_goto (tgt := 28) hC dX8_makeFold_106 (by decide) ?_
                  first
                  | exact ih2 (u + 1) (q + 1) _ _ _ _ (by omega) (by omega) (hq2.s21 _ (md_bl b21 ⟨u, by omega, rfl⟩))
                  | exact ih2 (u + 1) (q + 1) _ _ _ _ (by omega) (by omega) hq2
                  | exact ih2 (u + 1) q _ _ _ _ (by omega) (by omega) hq2
                · have q4 : q < 4 := by
                    rcases Nat.lt_or_ge q 4 with w9 | w9
                    · exact w9
                    · exact absurd (nI_le w9 (by omega)) c_88
                  refine o_aload_n hC dX8_makeFold_91 (by rfl) ?_
                  refine o_getf hC (fX8_72 hC rfl) dX8_makeFold_92 (by repeat (first | with_reducible assumption | (rw [rl_u_s]; done) | (rw [rl_u_s]; rfl) | rw [rl_u_n (by first | with_reducible assumption | omega)])) (by first | rfl | with_reducible assumption) ?_
                  refine o_iload hC dX8_makeFold_95 (by rfl) ?_
                  refine o_iload hC dX8_makeFold_97 (by rfl) ?_
                  refine o_iastN (t0 := 0) hC rfl dX8_makeFold_99 (by repeat (first | with_reducible assumption | (rw [rl_u_s]; done) | (rw [rl_u_s]; rfl) | rw [rl_u_n (by first | with_reducible assumption | omega)])) (by omega) (by decide) ?_
                  refine o_iinc hC dX8_makeFold_100 (by rfl) (rl_inc _) (Nat.le_of_ble_eq_true rfl) ?_
                  refine o_iinc hC dX8_makeFold_103 (by rfl) (rl_inc _) (Nat.le_of_ble_eq_true rfl) ?_
                  refine o_goto (tgt := 28) hC dX8_makeFold_106 (by decide) ?_
                  first
                  | exact ih2 (u + 1) (q + 1) _ _ _ _ (by omega) (by omega) (hq2.s21 _ (md_bl b21 ⟨u, by omega, rfl⟩))
                  | exact ih2 (u + 1) (q + 1) _ _ _ _ (by omega) (by omega) hq2
                  | exact ih2 (u + 1) q _ _ _ _ (by omega) (by omega) hq2
              · refine o_iload hC dX8_makeFold_72 (by rfl) ?_
                refine o_iload_n hC dX8_makeFold_74 (by rfl) ?_
                refine o_icmp_lt (tgt := 82) hC dX8_makeFold_75 (by decide) (fun c_75 => ?_) (fun c_75 => ?_)
                · refine o_iconst (v := nI 0) hC dX8_makeFold_82 (by decide +kernel) ?_
                  refine o_istore hC dX8_makeFold_83 (Nat.le_of_ble_eq_true rfl) ?_
                  refine o_iload hC dX8_makeFold_85 (by rfl) ?_
                  refine o_iconst (v := nI 4) hC dX8_makeFold_87 (by decide +kernel) ?_
                  refine o_icmp_ge (tgt := 100) hC dX8_makeFold_88 (by decide) (fun c_88 => ?_) (fun c_88 => ?_)
                  · refine o_iinc hC dX8_makeFold_100 (by rfl) (rl_inc _) (Nat.le_of_ble_eq_true rfl) ?_
                    refine o_iinc hC dX8_makeFold_103 (by rfl) (rl_inc _) (Nat.le_of_ble_eq_true rfl) ?_
                    refine o_goto (tgt := 28) hC dX8_makeFold_106 (by decide) ?_
                    first
                    | exact ih2 (u + 1) (q + 1) _ _ _ _ (by omega) (by omega) (hq2.s21 _ (md_bl b21 ⟨u, by omega, rfl⟩))
                    | exact ih2 (u + 1) (q + 1) _ _ _ _ (by omega) (by omega) hq2
                    | exact ih2 (u + 1) q _ _ _ _ (by omega) (by omega) hq2
                  · have q4 : q < 4 := by
                      rcases Nat.lt_or_ge q 4 with w9 | w9
                      · exact w9
                      · exact absurd (nI_le w9 (by omega)) c_88
                    refine o_aload_n hC dX8_makeFold_91 (by rfl) ?_
                    refine o_getf hC (fX8_72 hC rfl) dX8_makeFold_92 (by repeat (first | with_reducible assumption | (rw [rl_u_s]; done) | (rw [rl_u_s]; rfl) | rw [rl_u_n (by first | with_reducible assumption | omega)])) (by first | rfl | with_reducible assumption) ?_
                    refine o_iload hC dX8_makeFold_95 (by rfl) ?_
                    refine o_iload hC dX8_makeFold_97 (by rfl) ?_
                    refine o_iastN (t0 := 0) hC rfl dX8_makeFold_99 (by repeat (first | with_reducible assumption | (rw [rl_u_s]; done) | (rw [rl_u_s]; rfl) | rw [rl_u_n (by first | with_reducible assumption | omega)])) (by omega) (by decide) ?_
                    refine o_iinc hC dX8_makeFold_100 (by rfl) (rl_inc _) (Nat.le_of_ble_eq_true rfl) ?_
                    refine o_iinc hC dX8_makeFold_103 (by rfl) (rl_inc _) (Nat.le_of_ble_eq_true rfl) ?_
                    refine o_goto (tgt := 28) hC dX8_makeFold_106 (by decide) ?_
                    first
                    | exact ih2 (u + 1) (q + 1) _ _ _ _ (by omega) (by omega) (hq2.s21 _ (md_bl b21 ⟨u, by omega, rfl⟩))
                    | exact ih2 (u + 1) (q + 1) _ _ _ _ (by omega) (by omega) hq2
                    | exact ih2 (u + 1) q _ _ _ _ (by omega) (by omega) hq2
                · refine o_iconst (v := nI 1) hC dX8_makeFold_78 (by decide +kernel) ?_
                  refine o_goto (tgt := 83) hC dX8_makeFold_79 (by decide) ?_
                  refine o_istore hC dX8_makeFold_83 (Nat.le_of_ble_eq_true rfl) ?_
                  refine o_iload hC dX8_makeFold_85 (by rfl) ?_
                  refine o_iconst (v := nI 4) hC dX8_makeFold_87 (by decide +kernel) ?_
                  refine o_icmp_ge (tgt := 100) hC dX8_makeFold_88 (by decide) (fun c_88 => ?_) (fun c_88 => ?_)
                  · refine o_iinc hC dX8_makeFold_100 (by rfl) (rl_inc _) (Nat.le_of_ble_eq_true rfl) ?_
                    refine o_iinc hC dX8_makeFold_103 (by rfl) (rl_inc _) (Nat.le_of_ble_eq_true rfl) ?_
                    refine o_goto (tgt := 28) hC dX8_makeFold_106 (by decide) ?_
                    first
                    | exact ih2 (u + 1) (q + 1) _ _ _ _ (by omega) (by omega) (hq2.s21 _ (md_bl b21 ⟨u, by omega, rfl⟩))
                    | exact ih2 (u + 1) (q + 1) _ _ _ _ (by omega) (by omega) hq2
                    | exact ih2 (u + 1) q _ _ _ _ (by omega) (by omega) hq2
                  · have q4 : q < 4 := by
                      rcases Nat.lt_or_ge q 4 with w9 | w9
                      · exact w9
                      · exact absurd (nI_le w9 (by omega)) c_88
                    refine o_aload_n hC dX8_makeFold_91 (by rfl) ?_
                    refine o_getf hC (fX8_72 hC rfl) dX8_makeFold_92 (by repeat (first | with_reducible assumption | (rw [rl_u_s]; done) | (rw [rl_u_s]; rfl) | rw [rl_u_n (by first | with_reducible assumption | omega)])) (by first | rfl | with_reducible assumption) ?_
                    refine o_iload hC dX8_makeFold_95 (by rfl) ?_
                    refine o_iload hC dX8_makeFold_97 (by rfl) ?_
                    refine o_iastN (t0 := 0) hC rfl dX8_makeFold_99 (by repeat (first | with_reducible assumption | (rw [rl_u_s]; done) | (rw [rl_u_s]; rfl) | rw [rl_u_n (by first | with_reducible assumption | omega)])) (by omega) (by decide) ?_
                    refine o_iinc hC dX8_makeFold_100 (by rfl) (rl_inc _) (Nat.le_of_ble_eq_true rfl) ?_
                    refine o_iinc hC dX8_makeFold_103 (by rfl) (rl_inc _) (Nat.le_of_ble_eq_true rfl) ?_
                    refine o_goto (tgt := 28) hC dX8_makeFold_106 (by decide) ?_
                    first
                    | exact ih2 (u + 1) (q + 1) _ _ _ _ (by omega) (by omega) (hq2.s21 _ (md_bl b21 ⟨u, by omega, rfl⟩))
                    | exact ih2 (u + 1) (q + 1) _ _ _ _ (by omega) (by omega) hq2
                    | exact ih2 (u + 1) q _ _ _ _ (by omega) (by omega) hq2
      have hs1 := hq1.sa hs
      obtain ⟨g0, gk, ⟨⟨cl, g12⟩, ⟨tu, g13, b13⟩, ⟨im, g14⟩, ⟨te, g15, b15⟩, ⟨ne, g16⟩, ⟨la, g17⟩, ⟨hn, g18⟩, ⟨hl, g19⟩, ⟨tp, g20⟩, ⟨gr, g21, b21⟩, ⟨it, g22⟩⟩, gf⟩ := id hq1
      obtain ⟨a1, a2, a3, a4, a5, a6, a7, a8, a9, a10, a11⟩ := id hs1
      refine o_iload_n hC dX8_makeFold_2 (by rfl) ?_
      refine o_aload_n hC dX8_makeFold_3 (by rfl) ?_
      refine o_getf hC (fX8_46 hC rfl) dX8_makeFold_4 (by repeat (first | with_reducible assumption | (rw [rl_u_s]; done) | (rw [rl_u_s]; rfl) | rw [rl_u_n (by first | with_reducible assumption | omega)])) (by first | rfl | with_reducible assumption) ?_
      refine o_iload_n hC dX8_makeFold_7 (by rfl) ?_
      obtain ⟨t8, ht8, et8⟩ := b13 b (by omega)
      refine o_ialdN (t0 := 0) (k := b) hC rfl dX8_makeFold_8 (by repeat (first | with_reducible assumption | (rw [rl_u_s]; done) | (rw [rl_u_s]; rfl) | rw [rl_u_n (by first | with_reducible assumption | omega)])) (by omega) (by decide) ?_
      rw [et8]
      refine o_icmp_ge (tgt := 147) hC dX8_makeFold_9 (by decide) (fun c_9 => ?_) (fun c_9 => ?_)
      · refine o_vret hC hB dX8_makeFold_147 (Nat.le_of_ble_eq_true rfl) (Nat.le_of_ble_eq_true rfl) ?_
        exact ⟨rfl, rfl, _, _, hq1⟩
      · refine o_aload_n hC dX8_makeFold_12 (by rfl) ?_
        refine o_getf hC (fX8_91 hC rfl) dX8_makeFold_13 (by repeat (first | with_reducible assumption | (rw [rl_u_s]; done) | (rw [rl_u_s]; rfl) | rw [rl_u_n (by first | with_reducible assumption | omega)])) (by first | rfl | with_reducible assumption) ?_
        refine o_if_ne (tgt := 147) hC dX8_makeFold_16 (by decide) (fun c_16 => ?_) (fun c_16 => ?_)
        · refine o_vret hC hB dX8_makeFold_147 (Nat.le_of_ble_eq_true rfl) (Nat.le_of_ble_eq_true rfl) ?_
          exact ⟨rfl, rfl, _, _, hq1⟩
        · refine o_iconst (v := nI 0) hC dX8_makeFold_19 (by decide +kernel) ?_
          refine o_istore hC dX8_makeFold_20 (Nat.le_of_ble_eq_true rfl) ?_
          refine o_iconst (v := nI 1) hC dX8_makeFold_22 (by decide +kernel) ?_
          refine o_istore hC dX8_makeFold_23 (Nat.le_of_ble_eq_true rfl) ?_
          refine o_iconst (v := nI 0) hC dX8_makeFold_25 (by decide +kernel) ?_
          refine o_istore hC dX8_makeFold_26 (Nat.le_of_ble_eq_true rfl) ?_
          exact loopU 80 0 0 _ _ _ _ (by omega) (by omega) hq1
  show rl_G X (rl_e D ids H0) 0 [some (.ref m), some (.int (nI a)), some (.int (nI b)), none, none, none, none] [] h n 0 0
  refine o_iconst (v := nI 0) hC dX8_makeFold_0 (by decide +kernel) ?_
  refine o_istore_n hC dX8_makeFold_1 (Nat.le_of_ble_eq_true rfl) ?_
  exact loop 80 0 _ _ _ _ _ _ (by omega) hq
