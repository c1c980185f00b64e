/-! THE MODEL, functionally: makeJoin, makeMinus -/
theorem nI_m1 {k : Nat} (h : k < 2147483648) : ¬ nI k = -1 := fun e => nI_pos h (by rw [e]; decide +kernel)
theorem mro.op {A B : md_D} {a c : Nat} (h : mro A B c) (hc : 1360 ≤ c) : mop A B a := by
  obtain ⟨h1, h2, h3, h4, h5, h6⟩ := h
  exact ⟨fun q _ => congrFun h1 q, fun i _ => congrFun h2 i, h3, fun i _ hi => h4 i (by omega), fun q _ hq => h5 q (by omega), by rw [h6]⟩
theorem mtb.rw {A B : md_D} {a w c : Nat} {tab : List arow} (h : mtb A a w tab) (hw : w ≤ 6) (hl : tab.length ≤ 80) (ha : a < 17) (hr : mro A B c) (hc : 1360 ≤ c) : mtb B a w tab := ⟨(congrFun hr.2.1 a).trans h.1, fun j hj => (h.2 j hj).ro hw hr (by omega)⟩
theorem afd_hit {w : Nat} {td : List arow} {key : List Int32} {t : Nat} (h : aok w td) (ht : t < td.length) (e : (ark td t).1 = key) : afd td key = some (ark td t).2 := by
  unfold afd
  rw [afb_hit h ht e, Nat.add_sub_cancel, if_pos ⟨by omega, by rw [e]; exact lcm2_rf key⟩]
theorem afd_none {w : Nat} {td : List arow} {key : List Int32} (h : aok w td) (hk : key.length = w) (hn : ∀ j : Nat, j < td.length → (ark td j).1 ≠ key) : afd td key = none := by
  have hle : afb td key ≤ td.length := tb_fb_le _ _
  unfold afd
  rw [if_neg]
  intro q
  have hj : afb td key - 1 < td.length := by omega
  refine hn _ hj (lcm2_0 ?_ q.2)
  rw [ark_at hj, (h.2.1 _ (List.getElem_mem hj)).1, hk]

set_option maxHeartbeats 4000000 in
set_option maxRecDepth 100000 in
theorem cf_X8_makeJoin (l : Launch) (D : va_G) (ids : Nat → ClassId) (H0 : Heap) (h : rl_H) (n : Nat) (m : Nat) (T : md_T) (fu : Int32) (k : Nat) (A : md_D) (S : md_A) (a b d w wb wd ca cb : Nat) (tb td : List arow) (r0 : Option (List arow)) (hq : mf ids h h m T fu k A) (hs : md_sa ids h m S) (ha : a < 16) (hb : b < 16) (hba : b ≠ a) (hw : S.2.2.2.2.2.2.2.2.2.2 a = nI w) (hw6 : w ≤ 6) (hwb : S.2.2.2.2.2.2.2.2.2.2 b = nI wb) (hwb6 : wb ≤ 6) (hbt : mtb A b wb tb) (hbk : aok wb tb) (hr0 : mst A a w fu r0) (hd : d < 16) (hda : d ≠ a) (hwd : S.2.2.2.2.2.2.2.2.2.2 d = nI wd) (hwd6 : wd ≤ 6) (hdt : mtb A d wd td) (hdk : aok wd td) (hnA : S.2.2.2.2.2.2.1 a = nI ca) (hca : ca < wb) (hnB : S.2.2.2.2.2.2.2.1 a = nI cb) (hcb : cb < wd) (hwsum : w = wb + wd) : rl_Met l (rl_e D ids H0) rl_BW rl_Ns yX8_makeJoin cX8_makeJoin 7 none ({ frames := 4, cells := 0, slots := 0, locals := 98 }) [.ref m, .int (nI a), .int (nI b), .int (nI d)] h n (fun v h' n' => ∃ (fu' : Int32) (k' : Nat) (A' : md_D), v = none ∧ n' = n ∧ mf ids h h' m T fu' k' A' ∧ mop A A' a ∧ mst A' a w fu' (r0.bind (fun x => aall x (jll ca cb tb td)))) := by
  have tl80 := hbk.2.2
  have tl81 := hdk.2.2
  refine rl_Met.of (by decide +kernel) (Nat.le_of_ble_eq_true rfl) ?_
  intro X hC hB
  have loop : ∀ (mm t : Nat) (h1 : rl_H) (f1 : Int32) (k1 : Nat) (A1 : md_D) (r1 : Option (List arow)) (o5 o6 : Option Value), t + mm = tb.length → mf ids h h1 m T f1 k1 A1 → mop A A1 a → mst A1 a w f1 r1 → r0.bind (fun x => aall x (jll ca cb tb td)) = r1.bind (fun x => aall x (jll ca cb (tb.drop t) td)) → rl_G X (rl_e D ids H0) 3 [some (.ref m), some (.int (nI a)), some (.int (nI b)), some (.int (nI d)), some (.int (nI t)), o5, o6] [] h1 n 0 0 := by
    intro mm
    induction mm with
    | zero =>
      intro t h1 f1 k1 A1 r1 o5 o6 hm hq1 hop hst he
      have hTb := hop.tb hwb6 hbk.2.2 (by omega) hbt hba
      have hs1 := hq1.1.sa hs
      obtain ⟨hm0, g12, g13, g14, g15, g16, g17, g18, g19, g20, g21, g22⟩ := id hq1
      have g0 := hm0.1
      have gk := hm0.2.1
      obtain ⟨a1, a2, a3, a4, a5, a6, a7, a8, a9, a10, a11⟩ := id hs1
      refine o_iload hC dX8_makeJoin_3 (by rfl) ?_
      refine o_aload_n hC dX8_makeJoin_5 (by rfl) ?_
      refine o_getf hC (fX8_46 hC rfl) dX8_makeJoin_6 (by repeat (first | with_reducible assumption | (rw [rl_u_s]; done) | (rw [rl_u_s]; rfl) | rw [rl_u_n (by first | with_reducible assumption | omega)])) (by first | rfl | with_reducible assumption) ?_
      refine o_iload_n hC dX8_makeJoin_9 (by rfl) ?_
      refine o_ialdN (t0 := 0) (k := b) hC rfl dX8_makeJoin_10 (by repeat (first | with_reducible assumption | (rw [rl_u_s]; done) | (rw [rl_u_s]; rfl) | rw [rl_u_n (by first | with_reducible assumption | omega)])) (by omega) (by decide) ?_
      rw [hTb.1]
      refine o_icmp_ge (tgt := 161) hC dX8_makeJoin_11 (by decide) (fun c_11 => ?_) (fun c_11 => ?_)
      · refine o_vret hC hB dX8_makeJoin_161 (Nat.le_of_ble_eq_true rfl) (Nat.le_of_ble_eq_true rfl) ?_
        refine ⟨f1, k1, A1, rfl, rfl, hq1, hop, ?_⟩
        rw [he, show r1.bind (fun x => aall x (jll ca cb (tb.drop t) td)) = r1 by rw [List.drop_eq_nil_of_le (by omega)]; cases r1 <;> rfl]
        exact hst
      · exact absurd (nI_le (by omega) (by omega)) c_11
    | succ mm ih =>
      intro t h1 f1 k1 A1 r1 o5 o6 hm hq1 hop hst he
      have loopU : ∀ (m2 u : Nat) (h2 : rl_H) (f2 : Int32) (k2 : Nat) (A2 : md_D) (r2 : Option (List arow)) (o6 : Option Value), u + m2 = td.length → mf ids h h2 m T f2 k2 A2 → mop A A2 a → mst A2 a w f2 r2 → r0.bind (fun x => aall x (jll ca cb tb td)) = r2.bind (fun x => aall x (jlr ca cb (ark tb t) (td.drop u) ++ jll ca cb (tb.drop (t + 1)) td)) → rl_G X (rl_e D ids H0) 17 [some (.ref m), some (.int (nI a)), some (.int (nI b)), some (.int (nI d)), some (.int (nI t)), some (.int (nI u)), o6] [] h2 n 0 0 := by
        intro m2
        induction m2 with
        | zero =>
          intro u h2 f2 k2 A2 r2 o6 hm2 hq2 hop2 hst2 he2
          have hTd := hop2.tb hwd6 hdk.2.2 (by omega) hdt hda
          have hs1 := hq2.1.sa hs
          obtain ⟨hm0, g12, g13, g14, g15, g16, g17, g18, g19, g20, g21, g22⟩ := id hq2
          have g0 := hm0.1
          have gk := hm0.2.1
          obtain ⟨a1, a2, a3, a4, a5, a6, a7, a8, a9, a10, a11⟩ := id hs1
          refine o_iload hC dX8_makeJoin_17 (by rfl) ?_
          refine o_aload_n hC dX8_makeJoin_19 (by rfl) ?_
          refine o_getf hC (fX8_46 hC rfl) dX8_makeJoin_20 (by repeat (first | with_reducible assumption | (rw [rl_u_s]; done) | (rw [rl_u_s]; rfl) | rw [rl_u_n (by first | with_reducible assumption | omega)])) (by first | rfl | with_reducible assumption) ?_
          refine o_iload_n hC dX8_makeJoin_23 (by rfl) ?_
          refine o_ialdN (t0 := 0) (k := d) hC rfl dX8_makeJoin_24 (by repeat (first | with_reducible assumption | (rw [rl_u_s]; done) | (rw [rl_u_s]; rfl) | rw [rl_u_n (by first | with_reducible assumption | omega)])) (by omega) (by decide) ?_
          rw [hTd.1]
          refine o_icmp_ge (tgt := 155) hC dX8_makeJoin_25 (by decide) (fun c_25 => ?_) (fun c_25 => ?_)
          · refine o_iinc hC dX8_makeJoin_155 (by rfl) (rl_inc _) (Nat.le_of_ble_eq_true rfl) ?_
            refine o_goto (tgt := 3) hC dX8_makeJoin_158 (by decide) ?_
            exact ih (t + 1) _ _ _ A2 r2 _ _ (by omega) hq2 hop2 hst2 (by rw [he2, List.drop_eq_nil_of_le (show td.length ≤ u by omega)]; rfl)
          · exact absurd (nI_le (by omega) (by omega)) c_25
        | succ m2 ih2 =>
          intro u h2 f2 k2 A2 r2 o6 hm2 hq2 hop2 hst2 he2
          have hTb := hop2.tb hwb6 hbk.2.2 (by omega) hbt hba
          have hTd := hop2.tb hwd6 hdk.2.2 (by omega) hdt hda
          have hrt := hbk.2.1 _ (List.getElem_mem (show t < tb.length by omega))
          rw [← ark_at] at hrt
          have hru := hdk.2.1 _ (List.getElem_mem (show u < td.length by omega))
          rw [← ark_at] at hru
          have hrw := hTb.2 t (by omega)
          have hsw := hTd.2 u (by omega)
          rw [ark_dropp (show u < td.length by omega)] at he2
          have hs1 := hq2.1.sa hs
          obtain ⟨hm0, g12, g13, g14, g15, g16, g17, g18, g19, g20, g21, g22⟩ := id hq2
          have g0 := hm0.1
          have gk := hm0.2.1
          obtain ⟨a1, a2, a3, a4, a5, a6, a7, a8, a9, a10, a11⟩ := id hs1
          refine o_iload hC dX8_makeJoin_17 (by rfl) ?_
          refine o_aload_n hC dX8_makeJoin_19 (by rfl) ?_
          refine o_getf hC (fX8_46 hC rfl) dX8_makeJoin_20 (by repeat (first | with_reducible assumption | (rw [rl_u_s]; done) | (rw [rl_u_s]; rfl) | rw [rl_u_n (by first | with_reducible assumption | omega)])) (by first | rfl | with_reducible assumption) ?_
          refine o_iload_n hC dX8_makeJoin_23 (by rfl) ?_
          refine o_ialdN (t0 := 0) (k := d) hC rfl dX8_makeJoin_24 (by repeat (first | with_reducible assumption | (rw [rl_u_s]; done) | (rw [rl_u_s]; rfl) | rw [rl_u_n (by first | with_reducible assumption | omega)])) (by omega) (by decide) ?_
          rw [hTd.1]
          refine o_icmp_ge (tgt := 155) hC dX8_makeJoin_25 (by decide) (fun c_25 => ?_) (fun c_25 => ?_)
          · refine o_iinc hC dX8_makeJoin_155 (by rfl) (rl_inc _) (Nat.le_of_ble_eq_true rfl) ?_
            refine o_goto (tgt := 3) hC dX8_makeJoin_158 (by decide) ?_
            exact absurd c_25 (nI_ge (by omega) (by omega))
          · refine o_aload_n hC dX8_makeJoin_28 (by rfl) ?_
            refine o_getf hC (fX8_91 hC rfl) dX8_makeJoin_29 (by repeat (first | with_reducible assumption | (rw [rl_u_s]; done) | (rw [rl_u_s]; rfl) | rw [rl_u_n (by first | with_reducible assumption | omega)])) (by first | rfl | with_reducible assumption) ?_
            refine o_if_ne (tgt := 155) hC dX8_makeJoin_32 (by decide) (fun c_32 => ?_) (fun c_32 => ?_)
            · refine o_iinc hC dX8_makeJoin_155 (by rfl) (rl_inc _) (Nat.le_of_ble_eq_true rfl) ?_
              refine o_goto (tgt := 3) hC dX8_makeJoin_158 (by decide) ?_
              rcases hst2 with ⟨tab1, rfl, rfl, ht1, hk1⟩ | ⟨rfl, rfl⟩
              · exact absurd rfl c_32
              · exact ih (t + 1) _ _ _ A2 none _ _ (by omega) hq2 hop2 (Or.inr ⟨rfl, rfl⟩) he2
            · rcases hst2 with ⟨tab1, rfl, rfl, ht1, hk1⟩ | ⟨rfl, rfl⟩
              rotate_left
              · exact absurd c_32 (by decide +kernel)
              refine o_aload_n hC dX8_makeJoin_35 (by rfl) ?_
              refine o_iload_n hC dX8_makeJoin_36 (by rfl) ?_
              refine o_iload hC dX8_makeJoin_37 (by rfl) ?_
              refine o_aload_n hC dX8_makeJoin_39 (by rfl) ?_
              refine o_getf hC (fX8_28 hC rfl) dX8_makeJoin_40 (by repeat (first | with_reducible assumption | (rw [rl_u_s]; done) | (rw [rl_u_s]; rfl) | rw [rl_u_n (by first | with_reducible assumption | omega)])) (by first | rfl | with_reducible assumption) ?_
              refine o_iload_n hC dX8_makeJoin_43 (by rfl) ?_
              refine o_ialdN (t0 := 0) (k := a) hC rfl dX8_makeJoin_44 (by repeat (first | with_reducible assumption | (rw [rl_u_s]; done) | (rw [rl_u_s]; rfl) | rw [rl_u_n (by first | with_reducible assumption | omega)])) (by omega) (by decide) ?_
              rw [hnA]
              refine o_callV3 hC rl_BW_good rl_Ns_nw (by exact hB.2.2.2.2.2) YX8_cellAt IX8_cellAt VX8_cellAt (mX8_138 hC) (by rw [hB.1]; exact cf_X8_cellAt l D ids H0 _ _ m T _ _ _ b t ca hq2.rf (by omega)) (by exact hq2.rf.1.1) rfl rfl (Nat.le_of_ble_eq_true rfl) (by rw [hB.2.1]; first | exact Nat.le_of_ble_eq_true rfl | (dsimp only; omega)) (by rw [hB.2.1]; first | exact Nat.le_of_ble_eq_true rfl | (dsimp only; omega)) (by rw [hB.2.1]; first | exact Nat.le_of_ble_eq_true rfl | (dsimp only; omega)) (by rw [hB.2.1]; first | exact Nat.le_of_ble_eq_true rfl | (dsimp only; omega)) dX8_makeJoin_45 (fun v h_45 n_45 p_45 => ?_)
              obtain ⟨rfl, rfl, rfl⟩ := p_45
              try dsimp only [Option.toList, List.cons_append, List.nil_append]
              refine o_aload_n hC dX8_makeJoin_48 (by rfl) ?_
              refine o_iload_n hC dX8_makeJoin_49 (by rfl) ?_
              refine o_iload hC dX8_makeJoin_50 (by rfl) ?_
              refine o_aload_n hC dX8_makeJoin_52 (by rfl) ?_
              refine o_getf hC (fX8_31 hC rfl) dX8_makeJoin_53 (by repeat (first | with_reducible assumption | (rw [rl_u_s]; done) | (rw [rl_u_s]; rfl) | rw [rl_u_n (by first | with_reducible assumption | omega)])) (by first | rfl | with_reducible assumption) ?_
              refine o_iload_n hC dX8_makeJoin_56 (by rfl) ?_
              refine o_ialdN (t0 := 0) (k := a) hC rfl dX8_makeJoin_57 (by repeat (first | with_reducible assumption | (rw [rl_u_s]; done) | (rw [rl_u_s]; rfl) | rw [rl_u_n (by first | with_reducible assumption | omega)])) (by omega) (by decide) ?_
              rw [hnB]
              refine o_callV3 hC rl_BW_good rl_Ns_nw (by exact hB.2.2.2.2.2) YX8_cellAt IX8_cellAt VX8_cellAt (mX8_138 hC) (by rw [hB.1]; exact cf_X8_cellAt l D ids H0 _ _ m T _ _ _ d u cb hq2.rf (by omega)) (by exact hq2.rf.1.1) rfl rfl (Nat.le_of_ble_eq_true rfl) (by rw [hB.2.1]; first | exact Nat.le_of_ble_eq_true rfl | (dsimp only; omega)) (by rw [hB.2.1]; first | exact Nat.le_of_ble_eq_true rfl | (dsimp only; omega)) (by rw [hB.2.1]; first | exact Nat.le_of_ble_eq_true rfl | (dsimp only; omega)) (by rw [hB.2.1]; first | exact Nat.le_of_ble_eq_true rfl | (dsimp only; omega)) dX8_makeJoin_58 (fun v h_58 n_58 p_58 => ?_)
              obtain ⟨rfl, rfl, rfl⟩ := p_58
              try dsimp only [Option.toList, List.cons_append, List.nil_append]
              refine o_icmp_ne (tgt := 149) hC dX8_makeJoin_61 (by decide) (fun c_61 => ?_) (fun c_61 => ?_)
              · refine o_iinc hC dX8_makeJoin_149 (by rfl) (rl_inc _) (Nat.le_of_ble_eq_true rfl) ?_
                refine o_goto (tgt := 17) hC dX8_makeJoin_152 (by decide) ?_
                unfold jlr at he2
                rw [List.filter_cons_of_neg (p := fun s => decide (acg (ark tb t) ca = acg s cb)) (fun e => c_61 (by rw [hrw.cg hca, hsw.cg hcb]; exact of_decide_eq_true e))] at he2
                exact ih2 (u + 1) _ _ _ A2 _ _ (by omega) hq2 hop2 (Or.inl ⟨tab1, rfl, rfl, ht1, hk1⟩) he2
              · refine o_aload_n hC dX8_makeJoin_64 (by rfl) ?_
                refine o_sipush (v := nI 1360) hC dX8_makeJoin_65 (by decide +kernel) ?_
                refine o_bipush (v := nI 80) hC dX8_makeJoin_68 (by decide +kernel) ?_
                refine o_iload_n hC dX8_makeJoin_70 (by rfl) ?_
                refine o_imul hC dX8_makeJoin_71 ?_
                try rw [nI_mul]
                refine o_iload hC dX8_makeJoin_72 (by rfl) ?_
                refine o_iadd hC dX8_makeJoin_74 ?_
                try rw [nI_add]
                refine o_bipush (v := nI 80) hC dX8_makeJoin_75 (by decide +kernel) ?_
                refine o_iload_n hC dX8_makeJoin_77 (by rfl) ?_
                refine o_imul hC dX8_makeJoin_78 ?_
                try rw [nI_mul]
                refine o_iload hC dX8_makeJoin_79 (by rfl) ?_
                refine o_iadd hC dX8_makeJoin_81 ?_
                try rw [nI_add]
                refine o_callV3 hC rl_BW_good rl_Ns_nw (by exact hB.2.2.2.2.2) YX8_both IX8_both VX8_both (mX8_184 hC) (by rw [hB.1]; exact cf_X8_both l D ids H0 _ _ m T _ _ _ 1360 (80 * b + t) (80 * d + u) (ark tb t).2 (ark td u).2 hq2.rf (by omega) (by omega) (by omega) hrw.2 hsw.2) (by exact hq2.1.1) rfl rfl (Nat.le_of_ble_eq_true rfl) (by rw [hB.2.1]; first | exact Nat.le_of_ble_eq_true rfl | (dsimp only; omega)) (by rw [hB.2.1]; first | exact Nat.le_of_ble_eq_true rfl | (dsimp only; omega)) (by rw [hB.2.1]; first | exact Nat.le_of_ble_eq_true rfl | (dsimp only; omega)) (by rw [hB.2.1]; first | exact Nat.le_of_ble_eq_true rfl | (dsimp only; omega)) dX8_makeJoin_82 (fun v h_82 n_82 p_82 => ?_)
                obtain ⟨f82, k82, A82, rfl, rfl, q82, r82, w82⟩ := p_82
                have hq3 := hq2.tr q82
                have hs3 := hq3.1.sa hs
                have g03 := hq3.1.1
                obtain ⟨-, -, -, -, -, -, -, -, -, -, a11⟩ := id hs3
                try dsimp only [Option.toList, List.cons_append, List.nil_append]
                refine o_aload_n hC dX8_makeJoin_85 (by rfl) ?_
                refine o_iload_n hC dX8_makeJoin_86 (by rfl) ?_
                refine o_iload hC dX8_makeJoin_87 (by rfl) ?_
                refine o_aload_n hC dX8_makeJoin_89 (by rfl) ?_
                refine o_getf hC (fX8_40 hC rfl) dX8_makeJoin_90 (by repeat (first | with_reducible assumption | (rw [rl_u_s]; done) | (rw [rl_u_s]; rfl) | rw [rl_u_n (by first | with_reducible assumption | omega)])) (by first | rfl | with_reducible assumption) ?_
                refine o_iload_n hC dX8_makeJoin_93 (by rfl) ?_
                refine o_ialdN (t0 := 0) (k := b) hC rfl dX8_makeJoin_94 (by repeat (first | with_reducible assumption | (rw [rl_u_s]; done) | (rw [rl_u_s]; rfl) | rw [rl_u_n (by first | with_reducible assumption | omega)])) (by omega) (by decide) ?_
                rw [hwb]
                refine o_callV3 hC rl_BW_good rl_Ns_nw (by exact hB.2.2.2.2.2) YX8_take IX8_take VX8_take (mX8_181 hC) (by rw [hB.1]; exact cf_X8_take l D ids H0 _ _ m T _ _ _ b t wb hq3.rf (by omega) (by omega) hwb6) (by exact hq3.1.1) rfl rfl (Nat.le_of_ble_eq_true rfl) (by rw [hB.2.1]; first | exact Nat.le_of_ble_eq_true rfl | (dsimp only; omega)) (by rw [hB.2.1]; first | exact Nat.le_of_ble_eq_true rfl | (dsimp only; omega)) (by rw [hB.2.1]; first | exact Nat.le_of_ble_eq_true rfl | (dsimp only; omega)) (by rw [hB.2.1]; first | exact Nat.le_of_ble_eq_true rfl | (dsimp only; omega)) dX8_makeJoin_95 (fun v h_95 n_95 p_95 => ?_)
                obtain ⟨tp2, rfl, rfl, q95, e95⟩ := p_95
                try dsimp only [Option.toList, List.cons_append, List.nil_append]
                refine o_iconst (v := nI 0) hC dX8_makeJoin_98 (by decide +kernel) ?_
                refine o_istore hC dX8_makeJoin_99 (Nat.le_of_ble_eq_true rfl) ?_
                have hmeet : acg (ark tb t) ca = acg (ark td u) cb := by
                  rw [← hrw.cg hca, ← hsw.cg hcb]
                  first | exact c_61 | exact Classical.not_not.mp c_61
                unfold jlr at he2
                rw [List.filter_cons_of_pos (p := fun s => decide (acg (ark tb t) ca = acg s cb)) (decide_eq_true hmeet), List.map_cons, List.cons_append] at he2
                have hq4 := hq3.tr q95
                have l1 : (ark tb t).1.length = wb := hrt.1
                have l2 : (ark td u).1.length = wd := hru.1
                have ht3 := ht1.rw hw6 hk1.2.2 (by omega) r82 (by omega)
                have hsw3 := hsw.ro hwd6 r82 (by omega)
                have hrw3 := hrw.ro hwb6 r82 (by omega)
                have hop3 : mop A A82 a := hop2.tr (r82.op (by omega))
                have loopC : ∀ (m3 c : Nat) (h3 : rl_H) (tp3 : Nat → Int32), c + m3 = wd → mf ids h h3 m T f82 k82 (A82.1, A82.2.1, A82.2.2.1, A82.2.2.2.1, A82.2.2.2.2.1, A82.2.2.2.2.2.1, A82.2.2.2.2.2.2.1, A82.2.2.2.2.2.2.2.1, tp3, A82.2.2.2.2.2.2.2.2.2.1, A82.2.2.2.2.2.2.2.2.2.2) → (∀ i : Nat, i < wb → tp3 i = (ark tb t).1.getD i 0) → (∀ i : Nat, i < c → tp3 (wb + i) = (ark td u).1.getD i 0) → rl_G X (rl_e D ids H0) 101 [some (.ref m), some (.int (nI a)), some (.int (nI b)), some (.int (nI d)), some (.int (nI t)), some (.int (nI u)), some (.int (nI c))] [] h3 n_95 0 0 := by
                  intro m3
                  induction m3 with
                  | zero =>
                    intro c h3 tp3 hm3 hq5 htp1 htp2
                    have hs5 := hq5.1.sa hs
                    have ekey : rcl tp3 w = ((ark tb t).1 ++ (ark td u).1) := by
                      rw [hwsum, ← l1, ← l2]
                      exact rcl_app (fun i hi => htp1 i (by omega)) (fun i hi => by rw [l1]; exact htp2 i (by omega))
                    rcases w82 with ⟨L9, z1, rfl, z3⟩ | ⟨z1, rfl, -⟩
                    · obtain ⟨hm0, g12, g13, g14, g15, g16, g17, g18, g19, g20, g21, g22⟩ := id hq5
                      have g0 := hm0.1
                      have gk := hm0.2.1
                      obtain ⟨a1, a2, a3, a4, a5, a6, a7, a8, a9, a10, a11⟩ := id hs5
                      refine o_iload hC dX8_makeJoin_101 (by rfl) ?_
                      refine o_aload_n hC dX8_makeJoin_103 (by rfl) ?_
                      refine o_getf hC (fX8_40 hC rfl) dX8_makeJoin_104 (by repeat (first | with_reducible assumption | (rw [rl_u_s]; done) | (rw [rl_u_s]; rfl) | rw [rl_u_n (by first | with_reducible assumption | omega)])) (by first | rfl | with_reducible assumption) ?_
                      refine o_iload_n hC dX8_makeJoin_107 (by rfl) ?_
                      refine o_ialdN (t0 := 0) (k := d) hC rfl dX8_makeJoin_108 (by repeat (first | with_reducible assumption | (rw [rl_u_s]; done) | (rw [rl_u_s]; rfl) | rw [rl_u_n (by first | with_reducible assumption | omega)])) (by omega) (by decide) ?_
                      rw [hwd]
                      refine o_icmp_ge (tgt := 141) hC dX8_makeJoin_109 (by decide) (fun c_109 => ?_) (fun c_109 => ?_)
                      · refine o_aload_n hC dX8_makeJoin_141 (by rfl) ?_
                        refine o_iload_n hC dX8_makeJoin_142 (by rfl) ?_
                        refine o_sipush (v := nI 1360) hC dX8_makeJoin_143 (by decide +kernel) ?_
                        refine o_callV2 hC rl_BW_good rl_Ns_nw (by exact hB.2.2.2.2.2) YX8_comes IX8_comes VX8_comes (mX8_178 hC) (by rw [hB.1]; exact cf_X8_comes l D ids H0 _ _ m T _ _ _ S a 1360 w _ _ hq5.rf hs5 (by omega) (by omega) (by omega) hw hw6 rfl ht3 hk1 z3 (wst_ok z1)) (by exact hq5.1.1) rfl rfl (Nat.le_of_ble_eq_true rfl) (by rw [hB.2.1]; first | exact Nat.le_of_ble_eq_true rfl | (dsimp only; omega)) (by rw [hB.2.1]; first | exact Nat.le_of_ble_eq_true rfl | (dsimp only; omega)) (by rw [hB.2.1]; first | exact Nat.le_of_ble_eq_true rfl | (dsimp only; omega)) (by rw [hB.2.1]; first | exact Nat.le_of_ble_eq_true rfl | (dsimp only; omega)) dX8_makeJoin_146 (fun v h_146 n_146 p_146 => ?_)
                        obtain ⟨f146, k146, A4, rfl, rfl, q146, r146, u146⟩ := p_146
                        try dsimp only [Option.toList, List.cons_append, List.nil_append]
                        refine o_iinc hC dX8_makeJoin_149 (by rfl) (rl_inc _) (Nat.le_of_ble_eq_true rfl) ?_
                        refine o_goto (tgt := 17) hC dX8_makeJoin_152 (by decide) ?_
                        have u9 : (∃ tab' : List arow, aput tab1 (rcl tp3 w) L9 = some tab' ∧ f146 = nI 0 ∧ mtb A4 a w tab') ∨ (aput tab1 (rcl tp3 w) L9 = none ∧ f146 = nI 1) := u146
                        rw [ekey] at u9
                        refine ih2 (u + 1) _ f146 k146 A4 (aput tab1 ((ark tb t).1 ++ (ark td u).1) L9) _ (by omega) (hq5.tr q146) (hop3.tr (mop.tr ⟨fun _ _ => rfl, fun _ _ => rfl, rfl, fun _ _ _ => rfl, fun _ _ _ => ⟨rfl, rfl⟩, rfl⟩ r146.op)) ?_ ?_
                        · rcases u9 with ⟨tab', h1, h2, h3⟩ | ⟨h1, h2⟩
                          · exact Or.inl ⟨tab', h1, h2, h3, aput_ok hk1 (by rw [← ekey]; exact rsg_len _ 0 w) (wst_ok z1) h1⟩
                          · exact Or.inr ⟨h1, h2⟩
                        · rw [he2]
                          show ((wst _).bind (aput tab1 _)).bind _ = _
                          rw [z1]
                          rfl
                      · exact absurd (nI_le (by omega) (by omega)) c_109
                    · obtain ⟨hm0, g12, g13, g14, g15, g16, g17, g18, g19, g20, g21, g22⟩ := id hq5
                      have g0 := hm0.1
                      have gk := hm0.2.1
                      obtain ⟨a1, a2, a3, a4, a5, a6, a7, a8, a9, a10, a11⟩ := id hs5
                      refine o_iload hC dX8_makeJoin_101 (by rfl) ?_
                      refine o_aload_n hC dX8_makeJoin_103 (by rfl) ?_
                      refine o_getf hC (fX8_40 hC rfl) dX8_makeJoin_104 (by repeat (first | with_reducible assumption | (rw [rl_u_s]; done) | (rw [rl_u_s]; rfl) | rw [rl_u_n (by first | with_reducible assumption | omega)])) (by first | rfl | with_reducible assumption) ?_
                      refine o_iload_n hC dX8_makeJoin_107 (by rfl) ?_
                      refine o_ialdN (t0 := 0) (k := d) hC rfl dX8_makeJoin_108 (by repeat (first | with_reducible assumption | (rw [rl_u_s]; done) | (rw [rl_u_s]; rfl) | rw [rl_u_n (by first | with_reducible assumption | omega)])) (by omega) (by decide) ?_
                      rw [hwd]
                      refine o_icmp_ge (tgt := 141) hC dX8_makeJoin_109 (by decide) (fun c_109 => ?_) (fun c_109 => ?_)
                      · refine o_aload_n hC dX8_makeJoin_141 (by rfl) ?_
                        refine o_iload_n hC dX8_makeJoin_142 (by rfl) ?_
                        refine o_sipush (v := nI 1360) hC dX8_makeJoin_143 (by decide +kernel) ?_
                        refine o_callV2 hC rl_BW_good rl_Ns_nw (by exact hB.2.2.2.2.2) YX8_comes IX8_comes VX8_comes (mX8_178 hC) (by rw [hB.1]; exact cf_X8_comes1 l D ids H0 _ _ m T _ _ _ a 1360 hq5.rf rfl) (by exact hq5.1.1) rfl rfl (Nat.le_of_ble_eq_true rfl) (by rw [hB.2.1]; first | exact Nat.le_of_ble_eq_true rfl | (dsimp only; omega)) (by rw [hB.2.1]; first | exact Nat.le_of_ble_eq_true rfl | (dsimp only; omega)) (by rw [hB.2.1]; first | exact Nat.le_of_ble_eq_true rfl | (dsimp only; omega)) (by rw [hB.2.1]; first | exact Nat.le_of_ble_eq_true rfl | (dsimp only; omega)) dX8_makeJoin_146 (fun v h_146 n_146 p_146 => ?_)
                        obtain ⟨rfl, rfl, rfl⟩ := p_146
                        try dsimp only [Option.toList, List.cons_append, List.nil_append]
                        refine o_iinc hC dX8_makeJoin_149 (by rfl) (rl_inc _) (Nat.le_of_ble_eq_true rfl) ?_
                        refine o_goto (tgt := 17) hC dX8_makeJoin_152 (by decide) ?_
                        refine ih2 (u + 1) _ _ _ _ none _ (by omega) hq5 (hop3.tr ⟨fun _ _ => rfl, fun _ _ => rfl, rfl, fun _ _ _ => rfl, fun _ _ _ => ⟨rfl, rfl⟩, rfl⟩) (Or.inr ⟨rfl, rfl⟩) ?_
                        rw [he2]
                        show ((wst _).bind (aput tab1 _)).bind _ = _
                        rw [z1]
                        rfl
                      · exact absurd (nI_le (by omega) (by omega)) c_109
                  | succ m3 ih3 =>
                    intro c h3 tp3 hm3 hq5 htp1 htp2
                    have hs5 := hq5.1.sa hs
                    obtain ⟨hm0, g12, g13, g14, g15, g16, g17, g18, g19, g20, g21, g22⟩ := id hq5
                    have g0 := hm0.1
                    have gk := hm0.2.1
                    obtain ⟨a1, a2, a3, a4, a5, a6, a7, a8, a9, a10, a11⟩ := id hs5
                    refine o_iload hC dX8_makeJoin_101 (by rfl) ?_
                    refine o_aload_n hC dX8_makeJoin_103 (by rfl) ?_
                    refine o_getf hC (fX8_40 hC rfl) dX8_makeJoin_104 (by repeat (first | with_reducible assumption | (rw [rl_u_s]; done) | (rw [rl_u_s]; rfl) | rw [rl_u_n (by first | with_reducible assumption | omega)])) (by first | rfl | with_reducible assumption) ?_
                    refine o_iload_n hC dX8_makeJoin_107 (by rfl) ?_
                    refine o_ialdN (t0 := 0) (k := d) hC rfl dX8_makeJoin_108 (by repeat (first | with_reducible assumption | (rw [rl_u_s]; done) | (rw [rl_u_s]; rfl) | rw [rl_u_n (by first | with_reducible assumption | omega)])) (by omega) (by decide) ?_
                    rw [hwd]
                    refine o_icmp_ge (tgt := 141) hC dX8_makeJoin_109 (by decide) (fun c_109 => ?_) (fun c_109 => ?_)
                    · exact absurd c_109 (nI_ge (by omega) (by omega))
                    · refine o_aload_n hC dX8_makeJoin_112 (by rfl) ?_
                      refine o_getf hC (fX8_69 hC rfl) dX8_makeJoin_113 (by repeat (first | with_reducible assumption | (rw [rl_u_s]; done) | (rw [rl_u_s]; rfl) | rw [rl_u_n (by first | with_reducible assumption | omega)])) (by first | rfl | with_reducible assumption) ?_
                      refine o_aload_n hC dX8_makeJoin_116 (by rfl) ?_
                      refine o_getf hC (fX8_40 hC rfl) dX8_makeJoin_117 (by repeat (first | with_reducible assumption | (rw [rl_u_s]; done) | (rw [rl_u_s]; rfl) | rw [rl_u_n (by first | with_reducible assumption | omega)])) (by first | rfl | with_reducible assumption) ?_
                      refine o_iload_n hC dX8_makeJoin_120 (by rfl) ?_
                      refine o_ialdN (t0 := 0) (k := b) hC rfl dX8_makeJoin_121 (by repeat (first | with_reducible assumption | (rw [rl_u_s]; done) | (rw [rl_u_s]; rfl) | rw [rl_u_n (by first | with_reducible assumption | omega)])) (by omega) (by decide) ?_
                      rw [hwb]
                      refine o_iload hC dX8_makeJoin_122 (by rfl) ?_
                      refine o_iadd hC dX8_makeJoin_124 ?_
                      try rw [nI_add]
                      refine o_aload_n hC dX8_makeJoin_125 (by rfl) ?_
                      refine o_iload_n hC dX8_makeJoin_126 (by rfl) ?_
                      refine o_iload hC dX8_makeJoin_127 (by rfl) ?_
                      refine o_iload hC dX8_makeJoin_129 (by rfl) ?_
                      refine o_callV3 hC rl_BW_good rl_Ns_nw (by exact hB.2.2.2.2.2) YX8_cellAt IX8_cellAt VX8_cellAt (mX8_138 hC) (by rw [hB.1]; exact cf_X8_cellAt l D ids H0 _ _ m T _ _ _ d u c hq5.rf (by omega)) (by exact hq5.rf.1.1) rfl rfl (Nat.le_of_ble_eq_true rfl) (by rw [hB.2.1]; first | exact Nat.le_of_ble_eq_true rfl | (dsimp only; omega)) (by rw [hB.2.1]; first | exact Nat.le_of_ble_eq_true rfl | (dsimp only; omega)) (by rw [hB.2.1]; first | exact Nat.le_of_ble_eq_true rfl | (dsimp only; omega)) (by rw [hB.2.1]; first | exact Nat.le_of_ble_eq_true rfl | (dsimp only; omega)) dX8_makeJoin_131 (fun v h_131 n_131 p_131 => ?_)
                      obtain ⟨rfl, rfl, rfl⟩ := p_131
                      try dsimp only [Option.toList, List.cons_append, List.nil_append]
                      refine o_iastN (t0 := 0) hC rfl dX8_makeJoin_134 (by repeat (first | with_reducible assumption | (rw [rl_u_s]; done) | (rw [rl_u_s]; rfl) | rw [rl_u_n (by first | with_reducible assumption | omega)])) (by omega) (by decide) ?_
                      refine o_iinc hC dX8_makeJoin_135 (by rfl) (rl_inc _) (Nat.le_of_ble_eq_true rfl) ?_
                      refine o_goto (tgt := 101) hC dX8_makeJoin_138 (by decide) ?_
                      refine ih3 (c + 1) _ _ (by omega) (hq5.s20 _) (fun i hi => (if_neg (by omega)).trans (htp1 i hi)) (fun i hi => ?_)
                      by_cases e2 : i = c
                      · subst e2
                        refine (if_pos rfl).trans ?_
                        exact hsw3.cg (by omega)
                      · exact (if_neg (by omega)).trans (htp2 i (by omega))
                exact loopC wd 0 _ tp2 (by omega) hq4 (fun i hi => (e95 i).trans ((if_pos hi).trans (hrw3.cg hi))) (fun i hi => absurd hi (by omega))
      have hTb := hop.tb hwb6 hbk.2.2 (by omega) hbt hba
      rw [ark_dropp (show t < tb.length by omega)] at he
      have hs1 := hq1.1.sa hs
      obtain ⟨hm0, g12, g13, g14, g15, g16, g17, g18, g19, g20, g21, g22⟩ := id hq1
      have g0 := hm0.1
      have gk := hm0.2.1
      obtain ⟨a1, a2, a3, a4, a5, a6, a7, a8, a9, a10, a11⟩ := id hs1
      refine o_iload hC dX8_makeJoin_3 (by rfl) ?_
      refine o_aload_n hC dX8_makeJoin_5 (by rfl) ?_
      refine o_getf hC (fX8_46 hC rfl) dX8_makeJoin_6 (by repeat (first | with_reducible assumption | (rw [rl_u_s]; done) | (rw [rl_u_s]; rfl) | rw [rl_u_n (by first | with_reducible assumption | omega)])) (by first | rfl | with_reducible assumption) ?_
      refine o_iload_n hC dX8_makeJoin_9 (by rfl) ?_
      refine o_ialdN (t0 := 0) (k := b) hC rfl dX8_makeJoin_10 (by repeat (first | with_reducible assumption | (rw [rl_u_s]; done) | (rw [rl_u_s]; rfl) | rw [rl_u_n (by first | with_reducible assumption | omega)])) (by omega) (by decide) ?_
      rw [hTb.1]
      refine o_icmp_ge (tgt := 161) hC dX8_makeJoin_11 (by decide) (fun c_11 => ?_) (fun c_11 => ?_)
      · refine o_vret hC hB dX8_makeJoin_161 (Nat.le_of_ble_eq_true rfl) (Nat.le_of_ble_eq_true rfl) ?_
        exact absurd c_11 (nI_ge (by omega) (by omega))
      · refine o_iconst (v := nI 0) hC dX8_makeJoin_14 (by decide +kernel) ?_
        refine o_istore hC dX8_makeJoin_15 (Nat.le_of_ble_eq_true rfl) ?_
        exact loopU td.length 0 _ _ _ A1 r1 _ (by omega) hq1 hop hst he
  show rl_G X (rl_e D ids H0) 0 [some (.ref m), some (.int (nI a)), some (.int (nI b)), some (.int (nI d)), none, none, none] [] h n 0 0
  refine o_iconst (v := nI 0) hC dX8_makeJoin_0 (by decide +kernel) ?_
  refine o_istore hC dX8_makeJoin_1 (Nat.le_of_ble_eq_true rfl) ?_
  exact loop tb.length 0 _ _ _ A r0 _ _ (by omega) hq mop.rf hr0 rfl

set_option maxHeartbeats 4000000 in
set_option maxRecDepth 100000 in
theorem cf_X8_makeMinus (l : Launch) (D : va_G) (ids : Nat → ClassId) (H0 : Heap) (h : rl_H) (n : Nat) (m : Nat) (T : md_T) (fu : Int32) (k : Nat) (A : md_D) (S : md_A) (a b d w wb wd : Nat) (tb td : List arow) (r0 : Option (List arow)) (hq : mf ids h h m T fu k A) (hs : md_sa ids h m S) (ha : a < 16) (hb : b < 16) (hba : b ≠ a) (hw : S.2.2.2.2.2.2.2.2.2.2 a = nI w) (hw6 : w ≤ 6) (hwb : S.2.2.2.2.2.2.2.2.2.2 b = nI wb) (hwb6 : wb ≤ 6) (hbt : mtb A b wb tb) (hbk : aok wb tb) (hr0 : mst A a w fu r0) (hd : d < 16) (hda : d ≠ a) (hwd : S.2.2.2.2.2.2.2.2.2.2 d = nI wd) (hwd6 : wd ≤ 6) (hdt : mtb A d wd td) (hdk : aok wd td) (hww : w = wb) (hwwd : w = wd) : rl_Met l (rl_e D ids H0) rl_BW rl_Ns yX8_makeMinus cX8_makeMinus 7 none ({ frames := 4, cells := 0, slots := 0, locals := 98 }) [.ref m, .int (nI a), .int (nI b), .int (nI d)] h n (fun v h' n' => ∃ (fu' : Int32) (k' : Nat) (A' : md_D), v = none ∧ n' = n ∧ mf ids h h' m T fu' k' A' ∧ mop A A' a ∧ mst A' a w fu' (r0.bind (fun x => aall x (tb.map (fun r => (r.1, mno r.2 (afd td r.1))))))) := by
  have tl80 := hbk.2.2
  have tl81 := hdk.2.2
  refine rl_Met.of (by decide +kernel) (Nat.le_of_ble_eq_true rfl) ?_
  intro X hC hB
  have loop : ∀ (mm t : Nat) (h1 : rl_H) (f1 : Int32) (k1 : Nat) (A1 : md_D) (r1 : Option (List arow)) (o5 o6 : Option Value), t + mm = tb.length → mf ids h h1 m T f1 k1 A1 → mop A A1 a → mst A1 a w f1 r1 → r0.bind (fun x => aall x (tb.map (fun r => (r.1, mno r.2 (afd td r.1))))) = r1.bind (fun x => aall x ((tb.map (fun r => (r.1, mno r.2 (afd td r.1)))).drop t)) → rl_G X (rl_e D ids H0) 3 [some (.ref m), some (.int (nI a)), some (.int (nI b)), some (.int (nI d)), some (.int (nI t)), o5, o6] [] h1 n 0 0 := by
    intro mm
    induction mm with
    | zero =>
      intro t h1 f1 k1 A1 r1 o5 o6 hm hq1 hop hst he
      have hTb := hop.tb hwb6 hbk.2.2 (by omega) hbt hba
      have hs1 := hq1.1.sa hs
      obtain ⟨hm0, g12, g13, g14, g15, g16, g17, g18, g19, g20, g21, g22⟩ := id hq1
      have g0 := hm0.1
      have gk := hm0.2.1
      obtain ⟨a1, a2, a3, a4, a5, a6, a7, a8, a9, a10, a11⟩ := id hs1
      refine o_iload hC dX8_makeMinus_3 (by rfl) ?_
      refine o_aload_n hC dX8_makeMinus_5 (by rfl) ?_
      refine o_getf hC (fX8_46 hC rfl) dX8_makeMinus_6 (by repeat (first | with_reducible assumption | (rw [rl_u_s]; done) | (rw [rl_u_s]; rfl) | rw [rl_u_n (by first | with_reducible assumption | omega)])) (by first | rfl | with_reducible assumption) ?_
      refine o_iload_n hC dX8_makeMinus_9 (by rfl) ?_
      refine o_ialdN (t0 := 0) (k := b) hC rfl dX8_makeMinus_10 (by repeat (first | with_reducible assumption | (rw [rl_u_s]; done) | (rw [rl_u_s]; rfl) | rw [rl_u_n (by first | with_reducible assumption | omega)])) (by omega) (by decide) ?_
      rw [hTb.1]
      refine o_icmp_ge (tgt := 149) hC dX8_makeMinus_11 (by decide) (fun c_11 => ?_) (fun c_11 => ?_)
      · refine o_vret hC hB dX8_makeMinus_149 (Nat.le_of_ble_eq_true rfl) (Nat.le_of_ble_eq_true rfl) ?_
        refine ⟨f1, k1, A1, rfl, rfl, hq1, hop, ?_⟩
        rw [he, show r1.bind (fun x => aall x ((tb.map (fun r => (r.1, mno r.2 (afd td r.1)))).drop t)) = r1 by rw [List.drop_eq_nil_of_le (by rw [List.length_map]; omega)]; cases r1 <;> rfl]
        exact hst
      · exact absurd (nI_le (by omega) (by omega)) c_11
    | succ mm ih =>
      intro t h1 f1 k1 A1 r1 o5 o6 hm hq1 hop hst he
      have hTb := hop.tb hwb6 hbk.2.2 (by omega) hbt hba
      have hTd := hop.tb hwd6 hdk.2.2 (by omega) hdt hda
      have hrt := hbk.2.1 _ (List.getElem_mem (show t < tb.length by omega))
      rw [← ark_at] at hrt
      have hrw := hTb.2 t (by omega)
      rw [ark_drop (show t < tb.length by omega)] at he
      have hs1 := hq1.1.sa hs
      obtain ⟨hm0, g12, g13, g14, g15, g16, g17, g18, g19, g20, g21, g22⟩ := id hq1
      have g0 := hm0.1
      have gk := hm0.2.1
      obtain ⟨a1, a2, a3, a4, a5, a6, a7, a8, a9, a10, a11⟩ := id hs1
      refine o_iload hC dX8_makeMinus_3 (by rfl) ?_
      refine o_aload_n hC dX8_makeMinus_5 (by rfl) ?_
      refine o_getf hC (fX8_46 hC rfl) dX8_makeMinus_6 (by repeat (first | with_reducible assumption | (rw [rl_u_s]; done) | (rw [rl_u_s]; rfl) | rw [rl_u_n (by first | with_reducible assumption | omega)])) (by first | rfl | with_reducible assumption) ?_
      refine o_iload_n hC dX8_makeMinus_9 (by rfl) ?_
      refine o_ialdN (t0 := 0) (k := b) hC rfl dX8_makeMinus_10 (by repeat (first | with_reducible assumption | (rw [rl_u_s]; done) | (rw [rl_u_s]; rfl) | rw [rl_u_n (by first | with_reducible assumption | omega)])) (by omega) (by decide) ?_
      rw [hTb.1]
      refine o_icmp_ge (tgt := 149) hC dX8_makeMinus_11 (by decide) (fun c_11 => ?_) (fun c_11 => ?_)
      · refine o_vret hC hB dX8_makeMinus_149 (Nat.le_of_ble_eq_true rfl) (Nat.le_of_ble_eq_true rfl) ?_
        exact absurd c_11 (nI_ge (by omega) (by omega))
      · refine o_aload_n hC dX8_makeMinus_14 (by rfl) ?_
        refine o_getf hC (fX8_91 hC rfl) dX8_makeMinus_15 (by repeat (first | with_reducible assumption | (rw [rl_u_s]; done) | (rw [rl_u_s]; rfl) | rw [rl_u_n (by first | with_reducible assumption | omega)])) (by first | rfl | with_reducible assumption) ?_
        refine o_if_ne (tgt := 149) hC dX8_makeMinus_18 (by decide) (fun c_18 => ?_) (fun c_18 => ?_)
        · refine o_vret hC hB dX8_makeMinus_149 (Nat.le_of_ble_eq_true rfl) (Nat.le_of_ble_eq_true rfl) ?_
          rcases hst with ⟨tab1, rfl, rfl, ht1, hk1⟩ | ⟨rfl, rfl⟩
          · exact absurd rfl c_18
          · exact ⟨_, k1, A1, rfl, rfl, hq1, hop, Or.inr ⟨he, rfl⟩⟩
        · rcases hst with ⟨tab1, rfl, rfl, ht1, hk1⟩ | ⟨rfl, rfl⟩
          rotate_left
          · exact absurd c_18 (by decide +kernel)
          refine o_aload_n hC dX8_makeMinus_21 (by rfl) ?_
          refine o_iload_n hC dX8_makeMinus_22 (by rfl) ?_
          refine o_iload hC dX8_makeMinus_23 (by rfl) ?_
          refine o_aload_n hC dX8_makeMinus_25 (by rfl) ?_
          refine o_getf hC (fX8_40 hC rfl) dX8_makeMinus_26 (by repeat (first | with_reducible assumption | (rw [rl_u_s]; done) | (rw [rl_u_s]; rfl) | rw [rl_u_n (by first | with_reducible assumption | omega)])) (by first | rfl | with_reducible assumption) ?_
          refine o_iload_n hC dX8_makeMinus_29 (by rfl) ?_
          refine o_ialdN (t0 := 0) (k := b) hC rfl dX8_makeMinus_30 (by repeat (first | with_reducible assumption | (rw [rl_u_s]; done) | (rw [rl_u_s]; rfl) | rw [rl_u_n (by first | with_reducible assumption | omega)])) (by omega) (by decide) ?_
          rw [hwb]
          refine o_callV3 hC rl_BW_good rl_Ns_nw (by exact hB.2.2.2.2.2) YX8_take IX8_take VX8_take (mX8_181 hC) (by rw [hB.1]; exact cf_X8_take l D ids H0 _ _ m T _ _ _ b t wb hq1.rf (by omega) (by omega) hwb6) (by exact hq1.1.1) rfl rfl (Nat.le_of_ble_eq_true rfl) (by rw [hB.2.1]; first | exact Nat.le_of_ble_eq_true rfl | (dsimp only; omega)) (by rw [hB.2.1]; first | exact Nat.le_of_ble_eq_true rfl | (dsimp only; omega)) (by rw [hB.2.1]; first | exact Nat.le_of_ble_eq_true rfl | (dsimp only; omega)) (by rw [hB.2.1]; first | exact Nat.le_of_ble_eq_true rfl | (dsimp only; omega)) dX8_makeMinus_31 (fun v h_31 n_31 p_31 => ?_)
          obtain ⟨tp2, rfl, rfl, q31, e31⟩ := p_31
          try dsimp only [Option.toList, List.cons_append, List.nil_append]
          refine o_iconst (v := (-1 : Int32)) hC dX8_makeMinus_34 (by decide +kernel) ?_
          refine o_istore hC dX8_makeMinus_35 (Nat.le_of_ble_eq_true rfl) ?_
          refine o_iconst (v := nI 0) hC dX8_makeMinus_37 (by decide +kernel) ?_
          refine o_istore hC dX8_makeMinus_38 (Nat.le_of_ble_eq_true rfl) ?_
          have hq3 := hq1.tr q31
          have hs3 := hq3.1.sa hs
          have hop3 : mop A (A1.1, A1.2.1, A1.2.2.1, A1.2.2.2.1, A1.2.2.2.2.1, A1.2.2.2.2.2.1, A1.2.2.2.2.2.2.1, A1.2.2.2.2.2.2.2.1, tp2, A1.2.2.2.2.2.2.2.2.2.1, A1.2.2.2.2.2.2.2.2.2.2) a := hop.tr ⟨fun _ _ => rfl, fun _ _ => rfl, rfl, fun _ _ _ => rfl, fun _ _ _ => ⟨rfl, rfl⟩, rfl⟩
          have ekey : rcl tp2 w = (ark tb t).1 := by
            rw [← hrw.1, hww]
            exact rsg_eq (fun i _ hi => (e31 i).trans (if_pos (by omega)))
          have kl : (ark tb t).1.length = wd := by rw [← ekey, rsg_len, ← hwwd]
          have emag : ∀ j : Nat, j < td.length → (mag (A1.1, A1.2.1, A1.2.2.1, A1.2.2.2.1, A1.2.2.2.2.1, A1.2.2.2.2.2.1, A1.2.2.2.2.2.2.1, A1.2.2.2.2.2.2.2.1, tp2, A1.2.2.2.2.2.2.2.2.2.1, A1.2.2.2.2.2.2.2.2.2.2) d wd j = 0 ↔ (ark td j).1 = (ark tb t).1) := fun j hj => by
            rw [mag_l]
            show lcm2 (rcl tp2 wd) (rcl (mcl A1 d j) wd) = 0 ↔ _
            rw [(hTd.2 j hj).1, ← hwwd, ekey]
            refine ⟨fun e => (lcm2_0 ?_ e).symm, fun e => by rw [e]; exact lcm2_rf _⟩
            rw [kl, ← (hTd.2 j hj).1, rsg_len]
          have fin : ∀ (u : Int32) (o6 : Option Value), ((u = -1 ∧ afd td (ark tb t).1 = none) ∨ ∃ j : Nat, j < td.length ∧ u = nI j ∧ afd td (ark tb t).1 = some (ark td j).2) → rl_G X (rl_e D ids H0) 76 [some (.ref m), some (.int (nI a)), some (.int (nI b)), some (.int (nI d)), some (.int (nI t)), some (.int u), o6] [] h_31 n_31 0 0 := by
            intro u o6 hu
            obtain ⟨hm0, g12, g13, g14, g15, g16, g17, g18, g19, g20, g21, g22⟩ := id hq3
            have g0 := hm0.1
            have gk := hm0.2.1
            obtain ⟨a1, a2, a3, a4, a5, a6, a7, a8, a9, a10, a11⟩ := id hs3
            refine o_iload hC dX8_makeMinus_76 (by rfl) ?_
            refine o_iconst (v := (-1 : Int32)) hC dX8_makeMinus_78 (by decide +kernel) ?_
            refine o_icmp_ne (tgt := 97) hC dX8_makeMinus_79 (by decide) (fun c_79 => ?_) (fun c_79 => ?_)
            · obtain ⟨j, hj, rfl, efd⟩ := hu.resolve_left (fun q => c_79 q.1)
              have hjw := hTd.2 j hj
              refine o_aload_n hC dX8_makeMinus_97 (by rfl) ?_
              refine o_sipush (v := nI 1361) hC dX8_makeMinus_98 (by decide +kernel) ?_
              refine o_bipush (v := nI 80) hC dX8_makeMinus_101 (by decide +kernel) ?_
              refine o_iload_n hC dX8_makeMinus_103 (by rfl) ?_
              refine o_imul hC dX8_makeMinus_104 ?_
              try rw [nI_mul]
              refine o_iload hC dX8_makeMinus_105 (by rfl) ?_
              refine o_iadd hC dX8_makeMinus_107 ?_
              try rw [nI_add]
              refine o_callV2 hC rl_BW_good rl_Ns_nw (by exact hB.2.2.2.2.2) YX8_not IX8_not VX8_not (mX8_187 hC) (by rw [hB.1]; exact cf_X8_not l D ids H0 _ _ m T _ _ _ 1361 (80 * d + j) (ark td j).2 hq3.rf (by omega) (by omega) (by omega) hjw.2 rfl) (by exact hq3.1.1) rfl rfl (Nat.le_of_ble_eq_true rfl) (by rw [hB.2.1]; first | exact Nat.le_of_ble_eq_true rfl | (dsimp only; omega)) (by rw [hB.2.1]; first | exact Nat.le_of_ble_eq_true rfl | (dsimp only; omega)) (by rw [hB.2.1]; first | exact Nat.le_of_ble_eq_true rfl | (dsimp only; omega)) (by rw [hB.2.1]; first | exact Nat.le_of_ble_eq_true rfl | (dsimp only; omega)) dX8_makeMinus_108 (fun v h_108 n_108 p_108 => ?_)
              obtain ⟨f108, k108, A108, rfl, rfl, q108, r108, w108⟩ := p_108
              have hq4 := hq3.tr q108
              have hs4 := hq4.1.sa hs
              have g04 := hq4.1.1
              have hop4 : mop A A108 a := hop3.tr (r108.op (by omega))
              have ht4 : mtb A108 a w tab1 := mtb.rw (A := (A1.1, A1.2.1, A1.2.2.1, A1.2.2.2.1, A1.2.2.2.2.1, A1.2.2.2.2.2.1, A1.2.2.2.2.2.2.1, A1.2.2.2.2.2.2.2.1, tp2, A1.2.2.2.2.2.2.2.2.2.1, A1.2.2.2.2.2.2.2.2.2.2)) ht1 hw6 hk1.2.2 (by omega) r108 (by omega)
              have hrw4 := mrw.ro (A := (A1.1, A1.2.1, A1.2.2.1, A1.2.2.2.1, A1.2.2.2.2.1, A1.2.2.2.2.2.1, A1.2.2.2.2.2.2.1, A1.2.2.2.2.2.2.2.1, tp2, A1.2.2.2.2.2.2.2.2.2.1, A1.2.2.2.2.2.2.2.2.2.2)) hwb6 hrw r108 (by omega)
              try dsimp only [Option.toList, List.cons_append, List.nil_append]
              refine o_aload_n hC dX8_makeMinus_111 (by rfl) ?_
              refine o_getf hC (fX8_91 hC rfl) dX8_makeMinus_112 (by repeat (first | with_reducible assumption | (rw [rl_u_s]; done) | (rw [rl_u_s]; rfl) | rw [rl_u_n (by first | with_reducible assumption | omega)])) (by first | rfl | with_reducible assumption) ?_
              refine o_if_ne (tgt := 135) hC dX8_makeMinus_115 (by decide) (fun c_115 => ?_) (fun c_115 => ?_)
              · rcases w108 with ⟨W, w108a, rfl, w108b, w108c⟩ | ⟨w108a, rfl⟩
                · exact absurd rfl c_115
                · refine o_aload_n hC dX8_makeMinus_135 (by rfl) ?_
                  refine o_iload_n hC dX8_makeMinus_136 (by rfl) ?_
                  refine o_sipush (v := nI 1360) hC dX8_makeMinus_137 (by decide +kernel) ?_
                  refine o_callV2 hC rl_BW_good rl_Ns_nw (by exact hB.2.2.2.2.2) YX8_comes IX8_comes VX8_comes (mX8_178 hC) (by rw [hB.1]; exact cf_X8_comes1 l D ids H0 _ _ m T _ _ _ a 1360 hq4.rf rfl) (by exact hq4.1.1) rfl rfl (Nat.le_of_ble_eq_true rfl) (by rw [hB.2.1]; first | exact Nat.le_of_ble_eq_true rfl | (dsimp only; omega)) (by rw [hB.2.1]; first | exact Nat.le_of_ble_eq_true rfl | (dsimp only; omega)) (by rw [hB.2.1]; first | exact Nat.le_of_ble_eq_true rfl | (dsimp only; omega)) (by rw [hB.2.1]; first | exact Nat.le_of_ble_eq_true rfl | (dsimp only; omega)) dX8_makeMinus_140 (fun v h_140 n_140 p_140 => ?_)
                  obtain ⟨rfl, rfl, rfl⟩ := p_140
                  try dsimp only [Option.toList, List.cons_append, List.nil_append]
                  refine o_iinc hC dX8_makeMinus_143 (by rfl) (rl_inc _) (Nat.le_of_ble_eq_true rfl) ?_
                  refine o_goto (tgt := 3) hC dX8_makeMinus_146 (by decide) ?_
                  refine ih (t + 1) _ _ _ A108 none _ _ (by omega) hq4 hop4 (Or.inr ⟨rfl, rfl⟩) ?_
                  rw [he]
                  show ((mno _ (afd td (ark tb t).1)).bind (aput tab1 _)).bind _ = _
                  rw [efd]
                  show (((wno _ _).bind _).bind (aput tab1 _)).bind _ = _
                  rw [w108a]
                  rfl
              · rcases w108 with ⟨W, w108a, rfl, w108b, w108c⟩ | ⟨w108a, rfl⟩
                rotate_left
                · exact absurd c_115 (by decide +kernel)
                refine o_aload_n hC dX8_makeMinus_118 (by rfl) ?_
                refine o_sipush (v := nI 1360) hC dX8_makeMinus_119 (by decide +kernel) ?_
                refine o_bipush (v := nI 80) hC dX8_makeMinus_122 (by decide +kernel) ?_
                refine o_iload_n hC dX8_makeMinus_124 (by rfl) ?_
                refine o_imul hC dX8_makeMinus_125 ?_
                try rw [nI_mul]
                refine o_iload hC dX8_makeMinus_126 (by rfl) ?_
                refine o_iadd hC dX8_makeMinus_128 ?_
                try rw [nI_add]
                refine o_sipush (v := nI 1361) hC dX8_makeMinus_129 (by decide +kernel) ?_
                refine o_callV3 hC rl_BW_good rl_Ns_nw (by exact hB.2.2.2.2.2) YX8_both IX8_both VX8_both (mX8_184 hC) (by rw [hB.1]; exact cf_X8_both l D ids H0 _ _ m T _ _ _ 1360 (80 * b + t) 1361 (ark tb t).2 W hq4.rf (by omega) (by omega) (by omega) hrw4.2 w108b) (by exact hq4.1.1) rfl rfl (Nat.le_of_ble_eq_true rfl) (by rw [hB.2.1]; first | exact Nat.le_of_ble_eq_true rfl | (dsimp only; omega)) (by rw [hB.2.1]; first | exact Nat.le_of_ble_eq_true rfl | (dsimp only; omega)) (by rw [hB.2.1]; first | exact Nat.le_of_ble_eq_true rfl | (dsimp only; omega)) (by rw [hB.2.1]; first | exact Nat.le_of_ble_eq_true rfl | (dsimp only; omega)) dX8_makeMinus_132 (fun v h_132 n_132 p_132 => ?_)
                obtain ⟨f132, k132, A132, rfl, rfl, q132, r132, w132⟩ := p_132
                have hq5 := hq4.tr q132
                have hs5 := hq5.1.sa hs
                have g05 := hq5.1.1
                have hop5 : mop A A132 a := hop4.tr (r132.op (by omega))
                have ht5 := ht4.rw hw6 hk1.2.2 (by omega) r132 (by omega)
                have e20 : A132.2.2.2.2.2.2.2.2.1 = tp2 := by
                  rw [r132.2.2.2.2.2, r108.2.2.2.2.2]
                try dsimp only [Option.toList, List.cons_append, List.nil_append]
                rcases w132 with ⟨L9, z1, rfl, z3⟩ | ⟨z1, rfl, -⟩
                · refine o_aload_n hC dX8_makeMinus_135 (by rfl) ?_
                  refine o_iload_n hC dX8_makeMinus_136 (by rfl) ?_
                  refine o_sipush (v := nI 1360) hC dX8_makeMinus_137 (by decide +kernel) ?_
                  refine o_callV2 hC rl_BW_good rl_Ns_nw (by exact hB.2.2.2.2.2) YX8_comes IX8_comes VX8_comes (mX8_178 hC) (by rw [hB.1]; exact cf_X8_comes l D ids H0 _ _ m T _ _ _ S a 1360 w _ _ hq5.rf hs5 (by omega) (by omega) (by omega) hw hw6 rfl ht5 hk1 z3 (wst_ok z1)) (by exact hq5.1.1) rfl rfl (Nat.le_of_ble_eq_true rfl) (by rw [hB.2.1]; first | exact Nat.le_of_ble_eq_true rfl | (dsimp only; omega)) (by rw [hB.2.1]; first | exact Nat.le_of_ble_eq_true rfl | (dsimp only; omega)) (by rw [hB.2.1]; first | exact Nat.le_of_ble_eq_true rfl | (dsimp only; omega)) (by rw [hB.2.1]; first | exact Nat.le_of_ble_eq_true rfl | (dsimp only; omega)) dX8_makeMinus_140 (fun v h_140 n_140 p_140 => ?_)
                  obtain ⟨f140, k140, A4, rfl, rfl, q140, r140, u140⟩ := p_140
                  rw [e20] at u140
                  try dsimp only [Option.toList, List.cons_append, List.nil_append]
                  refine o_iinc hC dX8_makeMinus_143 (by rfl) (rl_inc _) (Nat.le_of_ble_eq_true rfl) ?_
                  refine o_goto (tgt := 3) hC dX8_makeMinus_146 (by decide) ?_
                  have u9 : (∃ tab' : List arow, aput tab1 (rcl tp2 w) L9 = some tab' ∧ f140 = nI 0 ∧ mtb A4 a w tab') ∨ (aput tab1 (rcl tp2 w) L9 = none ∧ f140 = nI 1) := u140
                  rw [ekey] at u9
                  refine ih (t + 1) _ f140 k140 A4 (aput tab1 (ark tb t).1 L9) _ _ (by omega) (hq5.tr q140) (hop5.tr r140.op) ?_ ?_
                  · rcases u9 with ⟨tab', h1, h2, h3⟩ | ⟨h1, h2⟩
                    · exact Or.inl ⟨tab', h1, h2, h3, aput_ok hk1 (by rw [← ekey]; exact rsg_len _ 0 w) (wst_ok z1) h1⟩
                    · exact Or.inr ⟨h1, h2⟩
                  · rw [he]
                    show ((mno _ (afd td (ark tb t).1)).bind (aput tab1 _)).bind _ = _
                    rw [efd]
                    show (((wno _ _).bind _).bind (aput tab1 _)).bind _ = _
                    rw [w108a]
                    show ((wst _).bind (aput tab1 _)).bind _ = _
                    rw [z1]
                    rfl
                · refine o_aload_n hC dX8_makeMinus_135 (by rfl) ?_
                  refine o_iload_n hC dX8_makeMinus_136 (by rfl) ?_
                  refine o_sipush (v := nI 1360) hC dX8_makeMinus_137 (by decide +kernel) ?_
                  refine o_callV2 hC rl_BW_good rl_Ns_nw (by exact hB.2.2.2.2.2) YX8_comes IX8_comes VX8_comes (mX8_178 hC) (by rw [hB.1]; exact cf_X8_comes1 l D ids H0 _ _ m T _ _ _ a 1360 hq5.rf rfl) (by exact hq5.1.1) rfl rfl (Nat.le_of_ble_eq_true rfl) (by rw [hB.2.1]; first | exact Nat.le_of_ble_eq_true rfl | (dsimp only; omega)) (by rw [hB.2.1]; first | exact Nat.le_of_ble_eq_true rfl | (dsimp only; omega)) (by rw [hB.2.1]; first | exact Nat.le_of_ble_eq_true rfl | (dsimp only; omega)) (by rw [hB.2.1]; first | exact Nat.le_of_ble_eq_true rfl | (dsimp only; omega)) dX8_makeMinus_140 (fun v h_140 n_140 p_140 => ?_)
                  obtain ⟨rfl, rfl, rfl⟩ := p_140
                  try dsimp only [Option.toList, List.cons_append, List.nil_append]
                  refine o_iinc hC dX8_makeMinus_143 (by rfl) (rl_inc _) (Nat.le_of_ble_eq_true rfl) ?_
                  refine o_goto (tgt := 3) hC dX8_makeMinus_146 (by decide) ?_
                  refine ih (t + 1) _ _ _ A132 none _ _ (by omega) hq5 hop5 (Or.inr ⟨rfl, rfl⟩) ?_
                  rw [he]
                  show ((mno _ (afd td (ark tb t).1)).bind (aput tab1 _)).bind _ = _
                  rw [efd]
                  show (((wno _ _).bind _).bind (aput tab1 _)).bind _ = _
                  rw [w108a]
                  show ((wst _).bind (aput tab1 _)).bind _ = _
                  rw [z1]
                  rfl
            · have efd : afd td (ark tb t).1 = none := by
                rcases hu with ⟨-, e⟩ | ⟨j, hj, e, -⟩
                · exact e
                · exact absurd (e.symm.trans (by first | exact c_79 | exact Classical.not_not.mp c_79)) (nI_m1 (by omega))
              refine o_aload_n hC dX8_makeMinus_82 (by rfl) ?_
              refine o_iload_n hC dX8_makeMinus_83 (by rfl) ?_
              refine o_bipush (v := nI 80) hC dX8_makeMinus_84 (by decide +kernel) ?_
              refine o_iload_n hC dX8_makeMinus_86 (by rfl) ?_
              refine o_imul hC dX8_makeMinus_87 ?_
              try rw [nI_mul]
              refine o_iload hC dX8_makeMinus_88 (by rfl) ?_
              refine o_iadd hC dX8_makeMinus_90 ?_
              try rw [nI_add]
              refine o_callV2 hC rl_BW_good rl_Ns_nw (by exact hB.2.2.2.2.2) YX8_comes IX8_comes VX8_comes (mX8_178 hC) (by rw [hB.1]; exact cf_X8_comes l D ids H0 _ _ m T _ _ _ S a (80 * b + t) w _ _ hq3.rf hs3 (by omega) (by omega) (by omega) hw hw6 rfl ht1 hk1 hrw.2 hrt.2.1) (by exact hq3.1.1) rfl rfl (Nat.le_of_ble_eq_true rfl) (by rw [hB.2.1]; first | exact Nat.le_of_ble_eq_true rfl | (dsimp only; omega)) (by rw [hB.2.1]; first | exact Nat.le_of_ble_eq_true rfl | (dsimp only; omega)) (by rw [hB.2.1]; first | exact Nat.le_of_ble_eq_true rfl | (dsimp only; omega)) (by rw [hB.2.1]; first | exact Nat.le_of_ble_eq_true rfl | (dsimp only; omega)) dX8_makeMinus_91 (fun v h_91 n_91 p_91 => ?_)
              obtain ⟨f91, k91, A4, rfl, rfl, q91, r91, u91⟩ := p_91
              try dsimp only [Option.toList, List.cons_append, List.nil_append]
              refine o_goto (tgt := 143) hC dX8_makeMinus_94 (by decide) ?_
              refine o_iinc hC dX8_makeMinus_143 (by rfl) (rl_inc _) (Nat.le_of_ble_eq_true rfl) ?_
              refine o_goto (tgt := 3) hC dX8_makeMinus_146 (by decide) ?_
              have u9 : (∃ tab' : List arow, aput tab1 (rcl tp2 w) (ark tb t).2 = some tab' ∧ f91 = nI 0 ∧ mtb A4 a w tab') ∨ (aput tab1 (rcl tp2 w) (ark tb t).2 = none ∧ f91 = nI 1) := u91
              rw [ekey] at u9
              refine ih (t + 1) _ f91 k91 A4 (aput tab1 (ark tb t).1 (ark tb t).2) _ _ (by omega) (hq3.tr q91) (hop3.tr r91.op) ?_ ?_
              · rcases u9 with ⟨tab', h1, h2, h3⟩ | ⟨h1, h2⟩
                · exact Or.inl ⟨tab', h1, h2, h3, aput_ok hk1 (by rw [← ekey]; exact rsg_len _ 0 w) hrt.2.1 h1⟩
                · exact Or.inr ⟨h1, h2⟩
              · rw [he]
                show ((mno _ (afd td (ark tb t).1)).bind (aput tab1 _)).bind _ = _
                rw [efd]
                rfl
          have loopK : ∀ (m2 i : Nat) (u : Int32), i + m2 = td.length → ((u = -1 ∧ ∀ j : Nat, j < i → (ark td j).1 ≠ (ark tb t).1) ∨ ∃ j : Nat, j < i ∧ u = nI j ∧ (ark td j).1 = (ark tb t).1) → rl_G X (rl_e D ids H0) 40 [some (.ref m), some (.int (nI a)), some (.int (nI b)), some (.int (nI d)), some (.int (nI t)), some (.int u), some (.int (nI i))] [] h_31 n_31 0 0 := by
            intro m2
            induction m2 with
            | zero =>
              intro i u hm2 hu
              obtain ⟨hm0, g12, g13, g14, g15, g16, g17, g18, g19, g20, g21, g22⟩ := id hq3
              have g0 := hm0.1
              have gk := hm0.2.1
              obtain ⟨a1, a2, a3, a4, a5, a6, a7, a8, a9, a10, a11⟩ := id hs3
              refine o_iload hC dX8_makeMinus_40 (by rfl) ?_
              refine o_aload_n hC dX8_makeMinus_42 (by rfl) ?_
              refine o_getf hC (fX8_46 hC rfl) dX8_makeMinus_43 (by repeat (first | with_reducible assumption | (rw [rl_u_s]; done) | (rw [rl_u_s]; rfl) | rw [rl_u_n (by first | with_reducible assumption | omega)])) (by first | rfl | with_reducible assumption) ?_
              refine o_iload_n hC dX8_makeMinus_46 (by rfl) ?_
              refine o_ialdN (t0 := 0) (k := d) hC rfl dX8_makeMinus_47 (by repeat (first | with_reducible assumption | (rw [rl_u_s]; done) | (rw [rl_u_s]; rfl) | rw [rl_u_n (by first | with_reducible assumption | omega)])) (by omega) (by decide) ?_
              rw [hTd.1]
              refine o_icmp_ge (tgt := 76) hC dX8_makeMinus_48 (by decide) (fun c_48 => ?_) (fun c_48 => ?_)
              · refine fin _ _ ?_
                rcases hu with ⟨e1, e2⟩ | ⟨j, e1, e2, e3⟩
                · exact Or.inl ⟨e1, afd_none hdk kl (fun j hj => e2 j (by omega))⟩
                · exact Or.inr ⟨j, by omega, e2, afd_hit hdk (by omega) e3⟩
              · exact absurd (nI_le (by omega) (by omega)) c_48
            | succ m2 ih2 =>
              intro i u hm2 hu
              obtain ⟨hm0, g12, g13, g14, g15, g16, g17, g18, g19, g20, g21, g22⟩ := id hq3
              have g0 := hm0.1
              have gk := hm0.2.1
              obtain ⟨a1, a2, a3, a4, a5, a6, a7, a8, a9, a10, a11⟩ := id hs3
              refine o_iload hC dX8_makeMinus_40 (by rfl) ?_
              refine o_aload_n hC dX8_makeMinus_42 (by rfl) ?_
              refine o_getf hC (fX8_46 hC rfl) dX8_makeMinus_43 (by repeat (first | with_reducible assumption | (rw [rl_u_s]; done) | (rw [rl_u_s]; rfl) | rw [rl_u_n (by first | with_reducible assumption | omega)])) (by first | rfl | with_reducible assumption) ?_
              refine o_iload_n hC dX8_makeMinus_46 (by rfl) ?_
              refine o_ialdN (t0 := 0) (k := d) hC rfl dX8_makeMinus_47 (by repeat (first | with_reducible assumption | (rw [rl_u_s]; done) | (rw [rl_u_s]; rfl) | rw [rl_u_n (by first | with_reducible assumption | omega)])) (by omega) (by decide) ?_
              rw [hTd.1]
              refine o_icmp_ge (tgt := 76) hC dX8_makeMinus_48 (by decide) (fun c_48 => ?_) (fun c_48 => ?_)
              · exact absurd c_48 (nI_ge (by omega) (by omega))
              · refine o_aload_n hC dX8_makeMinus_51 (by rfl) ?_
                refine o_iload_n hC dX8_makeMinus_52 (by rfl) ?_
                refine o_iload hC dX8_makeMinus_53 (by rfl) ?_
                refine o_callV2 hC rl_BW_good rl_Ns_nw (by exact hB.2.2.2.2.2) YX8_against IX8_against VX8_against (mX8_141 hC) (by rw [hB.1]; exact cf_X8_against l D ids H0 _ _ m T _ _ _ S d i wd hq3.rf hs3 (by omega) (by omega) hwd hwd6) (by exact hq3.rf.1.1) rfl rfl (Nat.le_of_ble_eq_true rfl) (by rw [hB.2.1]; first | exact Nat.le_of_ble_eq_true rfl | (dsimp only; omega)) (by rw [hB.2.1]; first | exact Nat.le_of_ble_eq_true rfl | (dsimp only; omega)) (by rw [hB.2.1]; first | exact Nat.le_of_ble_eq_true rfl | (dsimp only; omega)) (by rw [hB.2.1]; first | exact Nat.le_of_ble_eq_true rfl | (dsimp only; omega)) dX8_makeMinus_55 (fun v h_55 n_55 p_55 => ?_)
                obtain ⟨rfl, rfl, rfl⟩ := p_55
                try dsimp only [Option.toList, List.cons_append, List.nil_append]
                refine o_if_ne (tgt := 66) hC dX8_makeMinus_58 (by decide) (fun c_58 => ?_) (fun c_58 => ?_)
                · refine o_iload hC dX8_makeMinus_66 (by rfl) ?_
                  refine o_istore hC dX8_makeMinus_68 (Nat.le_of_ble_eq_true rfl) ?_
                  refine o_iinc hC dX8_makeMinus_70 (by rfl) (rl_inc _) (Nat.le_of_ble_eq_true rfl) ?_
                  refine o_goto (tgt := 40) hC dX8_makeMinus_73 (by decide) ?_
                  refine ih2 (i + 1) _ (by omega) ?_
                  rcases hu with ⟨e1, e2⟩ | ⟨j, e1, e2, e3⟩
                  · refine Or.inl ⟨e1, fun j hj => ?_⟩
                    by_cases ej : j = i
                    · subst ej
                      exact fun e => c_58 ((emag j (by omega)).mpr e)
                    · exact e2 j (by omega)
                  · exact Or.inr ⟨j, by omega, e2, e3⟩
                · refine o_iload hC dX8_makeMinus_61 (by rfl) ?_
                  refine o_goto (tgt := 68) hC dX8_makeMinus_63 (by decide) ?_
                  refine o_istore hC dX8_makeMinus_68 (Nat.le_of_ble_eq_true rfl) ?_
                  refine o_iinc hC dX8_makeMinus_70 (by rfl) (rl_inc _) (Nat.le_of_ble_eq_true rfl) ?_
                  refine o_goto (tgt := 40) hC dX8_makeMinus_73 (by decide) ?_
                  refine ih2 (i + 1) _ (by omega) (Or.inr ⟨i, by omega, rfl, (emag i (by omega)).mp ?_⟩)
                  first | exact c_58 | exact Classical.not_not.mp c_58
          exact loopK td.length 0 _ (by omega) (Or.inl ⟨rfl, fun j hj => absurd hj (by omega)⟩)
  show rl_G X (rl_e D ids H0) 0 [some (.ref m), some (.int (nI a)), some (.int (nI b)), some (.int (nI d)), none, none, none] [] h n 0 0
  refine o_iconst (v := nI 0) hC dX8_makeMinus_0 (by decide +kernel) ?_
  refine o_istore hC dX8_makeMinus_1 (Nat.le_of_ble_eq_true rfl) ?_
  exact loop tb.length 0 _ _ _ A r0 _ _ (by omega) hq mop.rf hr0 rfl
