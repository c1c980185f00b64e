section
/-! THE MODEL, functionally: makeJoin, makeMinus -/
theorem nI_m1 {k : Nat} (h : k < 2147483648) : ¬ nI k = -1 := fun e => nI_pos h (by rw [e]; decide +kernel)
theorem mro.op {A B : md_D} {a c : Nat} (h : mro A B c) (hc : 1360 ≤ c) : mop A B a := by
  obtain ⟨h1, h2, h3, h4, h5, h6⟩ := h
  exact ⟨fun q _ => congrFun h1 q, fun i _ => congrFun h2 i, h3, fun i _ hi => h4 i (by omega), fun q _ hq => h5 q (by omega), by rw [h6]⟩
theorem mtb.rw {A B : md_D} {a w c : Nat} {tab : List arow} (h : mtb A a w tab) (hw : w ≤ 6) (hl : tab.length ≤ 80) (ha : a < 17) (hr : mro A B c) (hc : 1360 ≤ c) : mtb B a w tab := ⟨(congrFun hr.2.1 a).trans h.1, fun j hj => (h.2 j hj).ro hw hr (by omega)⟩
theorem afd_hit {w : Nat} {td : List arow} {key : List Int32} {t : Nat} (h : aok w td) (ht : t < td.length) (e : (ark td t).1 = key) : afd td key = some (ark td t).2 := by
  unfold afd
  rw [afb_hit h ht e, Nat.add_sub_cancel, if_pos ⟨by omega, by rw [e]; exact lcm2_rf key⟩]
theorem afd_none {w : Nat} {td : List arow} {key : List Int32} (h : aok w td) (hk : key.length = w) (hn : ∀ j : Nat, j < td.length → (ark td j).1 ≠ key) : afd td key = none := by
  have hle : afb td key ≤ td.length := tb_fb_le _ _
  unfold afd
  rw [if_neg]
  intro q
  have hj : afb td key - 1 < td.length := by omega
  refine hn _ hj (lcm2_0 ?_ q.2)
  rw [ark_at hj, (h.2.1 _ (List.getElem_mem hj)).1, hk]

set_option maxHeartbeats 4000000 in
set_option maxRecDepth 100000 in
theorem cf_X8_makeJoin (l : Launch) (D : va_G) (ids : Nat → ClassId) (H0 : Heap) (h : rl_H) (n : Nat) (m : Nat) (T : md_T) (fu : Int32) (k : Nat) (A : md_D) (S : md_A) (a b d w wb wd ca cb : Nat) (tb td : List arow) (r0 : Option (List arow)) (hq : mf ids h h m T fu k A) (hs : md_sa ids h m S) (ha : a < 16) (hb : b < 16) (hba : b ≠ a) (hw : S.2.2.2.2.2.2.2.2.2.2 a = nI w) (hw6 : w ≤ 6) (hwb : S.2.2.2.2.2.2.2.2.2.2 b = nI wb) (hwb6 : wb ≤ 6) (hbt : mtb A b wb tb) (hbk : aok wb tb) (hr0 : mst A a w fu r0) (hd : d < 16) (hda : d ≠ a) (hwd : S.2.2.2.2.2.2.2.2.2.2 d = nI wd) (hwd6 : wd ≤ 6) (hdt : mtb A d wd td) (hdk : aok wd td) (hnA : S.2.2.2.2.2.2.1 a = nI ca) (hca : ca < wb) (hnB : S.2.2.2.2.2.2.2.1 a = nI cb) (hcb : cb < wd) (hwsum : w = wb + wd) : rl_Met l (rl_e D ids H0) rl_BW rl_Ns yX8_makeJoin cX8_makeJoin 7 none ({ frames := 4, cells := 0, slots := 0, locals := 98 }) [.ref m, .int (nI a), .int (nI b), .int (nI d)] h n (fun v h' n' => ∃ (fu' : Int32) (k' : Nat) (A' : md_D), v = none ∧ n' = n ∧ mf ids h h' m T fu' k' A' ∧ mop A A' a ∧ mst A' a w fu' (r0.bind (fun x => aall x (jll ca cb tb td)))) := by
  have tl80 := hbk.2.2
  have tl81 := hdk.2.2
  refine rl_Met.of (by decide +kernel) (Nat.le_of_ble_eq_true rfl) ?_
  intro X hC hB
  have loop : ∀ (mm t : Nat) (h1 : rl_H) (f1 : Int32) (k1 : Nat) (A1 : md_D) (r1 : Option (List arow)) (o5 o6 : Option Value), t + mm = tb.length → mf ids h h1 m T f1 k1 A1 → mop A A1 a → mst A1 a w f1 r1 → r0.bind (fun x => aall x (jll ca cb tb td)) = r1.bind (fun x => aall x (jll ca cb (tb.drop t) td)) → rl_G X (rl_e D ids H0) 3 [some (.ref m), some (.int (nI a)), some (.int (nI b)), some (.int (nI d)), some (.int (nI t)), o5, o6] [] h1 n 0 0 := by
    intro mm
    induction mm with
    | zero =>
      intro t h1 f1 k1 A1 r1 o5 o6 hm hq1 hop hst he
      have hTb := hop.tb hwb6 hbk.2.2 (by omega) hbt hba
      have hs1 := hq1.1.sa hs
      obtain ⟨hm0, g12, g13, g14, g15, g16, g17, g18, g19, g20, g21, g22⟩ := id hq1
      have g0 := hm0.1
      have gk := hm0.2.1
      obtain ⟨a1, a2, a3, a4, a5, a6, a7, a8, a9, a10, a11⟩ := id hs1
      refine o_iload hC dX8_makeJoin_3 (by rfl) ?_
      refine o_aload_n hC dX8_makeJoin_5 (by rfl) ?_
      refine o_getf hC (fX8_46 hC rfl) dX8_makeJoin_6 (by repeat (first | with_reducible assumption | (rw [rl_u_s]; done) | (rw [rl_u_s]; rfl) | rw [rl_u_n (by first | with_reducible assumption | omega)])) (by first | rfl | with_reducible assumption) ?_
      refine o_iload_n hC dX8_makeJoin_9 (by rfl) ?_
      refine o_ialdN (t0 := 0) (k := b) hC rfl dX8_makeJoin_10 (by repeat (first | with_reducible assumption | (rw [rl_u_s]; done) | (rw [rl_u_s]; rfl) | rw [rl_u_n (by first | with_reducible assumption | omega)])) (by omega) (by decide) ?_
      rw [hTb.1]
      refine o_icmp_ge (tgt := 161) hC dX8_makeJoin_11 (by decide) (fun c_11 => ?_) (fun c_11 => ?_)
      · refine o_vret hC hB dX8_makeJoin_161 (Nat.le_of_ble_eq_true rfl) (Nat.le_of_ble_eq_true rfl) ?_
        refine ⟨f1, k1, A1, rfl, rfl, hq1, hop, ?_⟩
        rw [he, show r1.bind (fun x => aall x (jll ca cb (tb.drop t) td)) = r1 by rw [List.drop_eq_nil_of_le (by omega)]; cases r1 <;> rfl]
        exact hst
      · exact absurd (nI_le (by omega) (by omega)) c_11
    | succ mm ih =>
      intro t h1 f1 k1 A1 r1 o5 o6 hm hq1 hop hst he
      have loopU : ∀ (m2 u : Nat) (h2 : rl_H) (f2 : Int32) (k2 : Nat) (A2 : md_D) (r2 : Option (List arow)) (o6 : Option Value), u + m2 = td.length → mf ids h h2 m T f2 k2 A2 → mop A A2 a → mst A2 a w f2 r2 → r0.bind (fun x => aall x (jll ca cb tb td)) = r2.bind (fun x => aall x (jlr ca cb (ark tb t) (td.drop u) ++ jll ca cb (tb.drop (t + 1)) td)) → rl_G X (rl_e D ids H0) 17 [some (.ref m), some (.int (nI a)), some (.int (nI b)), some (.int (nI d)), some (.int (nI t)), some (.int (nI u)), o6] [] h2 n 0 0 := by
        intro m2
        induction m2 with
        | zero =>
          intro u h2 f2 k2 A2 r2 o6 hm2 hq2 hop2 hst2 he2
          have hTd := hop2.tb hwd6 hdk.2.2 (by omega) hdt hda
          have hs1 := hq2.1.sa hs
          obtain ⟨hm0, g12, g13, g14, g15, g16, g17, g18, g19, g20, g21, g22⟩ := id hq2
          have g0 := hm0.1
          have gk := hm0.2.1
          obtain ⟨a1, a2, a3, a4, a5, a6, a7, a8, a9, a10, a11⟩ := id hs1
          refine o_iload hC dX8_makeJoin_17 (by rfl) ?_
          refine o_aload_n hC dX8_makeJoin_19 (by rfl) ?_
          refine o_getf hC (fX8_46 hC rfl) dX8_makeJoin_20 (by repeat (first | with_reducible assumption | (rw [rl_u_s]; done) | (rw [rl_u_s]; rfl) | rw [rl_u_n (by first | with_reducible assumption | omega)])) (by first | rfl | with_reducible assumption) ?_
          refine o_iload_n hC dX8_makeJoin_23 (by rfl) ?_
          refine o_ialdN (t0 := 0) (k := d) hC rfl dX8_makeJoin_24 (by repeat (first | with_reducible assumption | (rw [rl_u_s]; done) | (rw [rl_u_s]; rfl) | rw [rl_u_n (by first | with_reducible assumption | omega)])) (by omega) (by decide) ?_
          rw [hTd.1]
          refine o_icmp_ge (tgt := 155) hC dX8_makeJoin_25 (by decide) (fun c_25 => ?_) (fun c_25 => ?_)
          · refine o_iinc hC dX8_makeJoin_155 (by rfl) (rl_inc _) (Nat.le_of_ble_eq_true rfl) ?_
            refine o_goto (tgt := 3) hC dX8_makeJoin_158 (by decide) ?_
            exact ih (t + 1) _ _ _ A2 r2 _ _ (by omega) hq2 hop2 hst2 (by rw [he2, List.drop_eq_nil_of_le (show td.length ≤ u by omega)]; rfl)
          · exact absurd (nI_le (by omega) (by omega)) c_25
        | succ m2 ih2 =>
          intro u h2 f2 k2 A2 r2 o6 hm2 hq2 hop2 hst2 he2
          have hTb := hop2.tb hwb6 hbk.2.2 (by omega) hbt hba
          have hTd := hop2.tb hwd6 hdk.2.2 (by omega) hdt hda
          have hrt := hbk.2.1 _ (List.getElem_mem (show t < tb.length by omega))
          rw [← ark_at] at hrt
          have hru := hdk.2.1 _ (List.getElem_mem (show u < td.length by omega))
          rw [← ark_at] at hru
          have hrw := hTb.2 t (by omega)
          have hsw := hTd.2 u (by omega)
          rw [ark_dropp (show u < td.length by omega)] at he2
          have hs1 := hq2.1.sa hs
          obtain ⟨hm0, g12, g13, g14, g15, g16, g17, g18, g19, g20, g21, g22⟩ := id hq2
          have g0 := hm0.1
          have gk := hm0.2.1
          obtain ⟨a1, a2, a3, a4, a5, a6, a7, a8, a9, a10, a11⟩ := id hs1
          refine o_iload hC dX8_makeJoin_17 (by rfl) ?_
          refine o_aload_n hC dX8_makeJoin_19 (by rfl) ?_
          refine o_getf hC (fX8_46 hC rfl) dX8_makeJoin_20 (by repeat (first | with_reducible assumption | (rw [rl_u_s]; done) | (rw [rl_u_s]; rfl) | rw [rl_u_n (by first | with_reducible assumption | omega)])) (by first | rfl | with_reducible assumption) ?_
          refine o_iload_n hC dX8_makeJoin_23 (by rfl) ?_
          refine o_ialdN (t0 := 0) (k := d) hC rfl dX8_makeJoin_24 (by repeat (first | with_reducible assumption | (rw [rl_u_s]; done) | (rw [rl_u_s]; rfl) | rw [rl_u_n (by first | with_reducible assumption | omega)])) (by omega) (by decide) ?_
          rw [hTd.1]
          refine o_icmp_ge (tgt := 155) hC dX8_makeJoin_25 (by decide) (fun c_25 => ?_) (fun c_25 => ?_)
          · refine o_iinc hC dX8_makeJoin_155 (by rfl) (rl_inc _) (Nat.le_of_ble_eq_true rfl) ?_
            refine o_goto (tgt := 3) hC dX8_makeJoin_158 (by decide) ?_
            exact absurd c_25 (nI_ge (by omega) (by omega))
          · refine o_aload_n hC dX8_makeJoin_28 (by rfl) ?_
            refine o_getf hC (fX8_91 hC rfl) dX8_makeJoin_29 (by repeat (first | with_reducible assumption | (rw [rl_u_s]; done) | (rw [rl_u_s]; rfl) | rw [rl_u_n (by first | with_reducible assumption | omega)])) (by first | rfl | with_reducible assumption) ?_
            refine o_if_ne (tgt := 155) hC dX8_makeJoin_32 (by decide) (fun c_32 => ?_) (fun c_32 => ?_)
            · refine o_iinc hC dX8_makeJoin_155 (by rfl) (rl_inc _) (Nat.le_of_ble_eq_true rfl) ?_
              refine o_goto (tgt := 3) hC dX8_makeJoin_158 (by decide) ?_
              rcases hst2 with ⟨tab1, rfl, rfl, ht1, hk1⟩ | ⟨rfl, rfl⟩
              · exact absurd rfl c_32
              · exact ih (t + 1) _ _ _ A2 none _ _ (by omega) hq2 hop2 (Or.inr ⟨rfl, rfl⟩) he2
            · rcases hst2 with ⟨tab1, rfl, rfl, ht1, hk1⟩ | ⟨rfl, rfl⟩
              rotate_left
              · exact absurd c_32 (by decide +kernel)
              refine o_aload_n hC dX8_makeJoin_35 (by rfl) ?_
              refine o_iload_n hC dX8_makeJoin_36 (by rfl) ?_
              refine o_iload hC dX8_makeJoin_37 (by rfl) ?_
              refine o_aload_n hC dX8_makeJoin_39 (by rfl) ?_
              refine o_getf hC (fX8_28 hC rfl) dX8_makeJoin_40 (by repeat (first | with_reducible assumption | (rw [rl_u_s]; done) | (rw [rl_u_s]; rfl) | rw [rl_u_n (by first | with_reducible assumption | omega)])) (by first | rfl | with_reducible assumption) ?_
              refine o_iload_n hC dX8_makeJoin_43 (by rfl) ?_
              refine o_ialdN (t0 := 0) (k := a) hC rfl dX8_makeJoin_44 (by repeat (first | with_reducible assumption | (rw [rl_u_s]; done) | (rw [rl_u_s]; rfl) | rw [rl_u_n (by first | with_reducible assumption | omega)])) (by omega) (by decide) ?_
              rw [hnA]
              refine o_callV3 hC rl_BW_good rl_Ns_nw (by exact hB.2.2.2.2.2) YX8_cellAt IX8_cellAt VX8_cellAt (mX8_138 hC) (by rw [hB.1]; exact cf_X8_cellAt l D ids H0 _ _ m T _ _ _ b t ca hq2.rf (by omega)) (by exact hq2.rf.1.1) rfl rfl (Nat.le_of_ble_eq_true rfl) (by rw [hB.2.1]; first | exact Nat.le_of_ble_eq_true rfl | (dsimp only; omega)) (by rw [hB.2.1]; first | exact Nat.le_of_ble_eq_true rfl | (dsimp only; omega)) (by rw [hB.2.1]; first | exact Nat.le_of_ble_eq_true rfl | (dsimp only; omega)) (by rw [hB.2.1]; first | exact Nat.le_of_ble_eq_true rfl | (dsimp only; omega)) dX8_makeJoin_45 (fun v h_45 n_45 p_45 => ?_)
              obtain ⟨rfl, rfl, rfl⟩ := p_45
              try dsimp only [Option.toList, List.cons_append, List.nil_append]
              refine o_aload_n hC dX8_makeJoin_48 (by rfl) ?_
              refine o_iload_n hC dX8_makeJoin_49 (by rfl) ?_
              refine o_iload hC dX8_makeJoin_50 (by rfl) ?_
              refine o_aload_n hC dX8_makeJoin_52 (by rfl) ?_
              refine o_getf hC (fX8_31 hC rfl) dX8_makeJoin_53 (by repeat (first | with_reducible assumption | (rw [rl_u_s]; done) | (rw [rl_u_s]; rfl) | rw [rl_u_n (by first | with_reducible assumption | omega)])) (by first | rfl | with_reducible assumption) ?_
              refine o_iload_n hC dX8_makeJoin_56 (by rfl) ?_
              refine o_ialdN (t0 := 0) (k := a) hC rfl dX8_makeJoin_57 (by repeat (first | with_reducible assumption | (rw [rl_u_s]; done) | (rw [rl_u_s]; rfl) | rw [rl_u_n (by first | with_reducible assumption | omega)])) (by omega) (by decide) ?_
              rw [hnB]
              refine o_callV3 hC rl_BW_good rl_Ns_nw (by exact hB.2.2.2.2.2) YX8_cellAt IX8_cellAt VX8_cellAt (mX8_138 hC) (by rw [hB.1]; exact cf_X8_cellAt l D ids H0 _ _ m T _ _ _ d u cb hq2.rf (by omega)) (by exact hq2.rf.1.1) rfl rfl (Nat.le_of_ble_eq_true rfl) (by rw [hB.2.1]; first | exact Nat.le_of_ble_eq_true rfl | (dsimp only; omega)) (by rw [hB.2.1]; first | exact Nat.le_of_ble_eq_true rfl | (dsimp only; omega)) (by rw [hB.2.1]; first | exact Nat.le_of_ble_eq_true rfl | (dsimp only; omega)) (by rw [hB.2.1]; first | exact Nat.le_of_ble_eq_true rfl | (dsimp only; omega)) dX8_makeJoin_58 (fun v h_58 n_58 p_58 => ?_)
              obtain ⟨rfl, rfl, rfl⟩ := p_58
              try dsimp only [Option.toList, List.cons_append, List.nil_append]
              refine o_icmp_ne (tgt := 149) hC dX8_makeJoin_61 (by decide) (fun c_61 => ?_) (fun c_61 => ?_)
              · refine o_iinc hC dX8_makeJoin_149 (by rfl) (rl_inc _) (Nat.le_of_ble_eq_true rfl) ?_
                refine o_goto (tgt := 17) hC dX8_makeJoin_152 (by decide) ?_
                unfold jlr at he2
                rw [List.filter_cons_of_neg (p := fun s => decide (acg (ark tb t) ca = acg s cb)) (fun e => c_61 (by rw [hrw.cg hca, hsw.cg hcb]; exact of_decide_eq_true e))] at he2
                exact ih2 (u + 1) _ _ _ A2 _ _ (by omega) hq2 hop2 (Or.inl ⟨tab1, rfl, rfl, ht1, hk1⟩) he2
              · refine o_aload_n hC dX8_makeJoin_64 (by rfl) ?_
                refine o_sipush (v := nI 1360) hC dX8_makeJoin_65 (by decide +kernel) ?_
                refine o_bipush (v := nI 80) hC dX8_makeJoin_68 (by decide +kernel) ?_
                refine o_iload_n hC dX8_makeJoin_70 (by rfl) ?_
                refine o_imul hC dX8_makeJoin_71 ?_
                try rw [nI_mul]
                refine o_iload hC dX8_makeJoin_72 (by rfl) ?_
                refine o_iadd hC dX8_makeJoin_74 ?_
                try rw [nI_add]
                refine o_bipush (v := nI 80) hC dX8_makeJoin_75 (by decide +kernel) ?_
                refine o_iload_n hC dX8_makeJoin_77 (by rfl) ?_
                refine o_imul hC dX8_makeJoin_78 ?_
                try rw [nI_mul]
                refine o_iload hC dX8_makeJoin_79 (by rfl) ?_
                refine o_iadd hC dX8_makeJoin_81 ?_
                try rw [nI_add]
                refine o_callV3 hC rl_BW_good rl_Ns_nw (by exact hB.2.2.2.2.2) YX8_both IX8_both VX8_both (mX8_184 hC) (by rw [hB.1]; exact cf_X8_both l D ids H0 _ _ m T _ _ _ 1360 (80 * b + t) (80 * d + u) (ark tb t).2 (ark td u).2 hq2.rf (by omega) (by omega) (by omega) hrw.2 hsw.2) (by exact hq2.1.1) rfl rfl (Nat.le_of_ble_eq_true rfl) (by rw [hB.2.1]; first | exact Nat.le_of_ble_eq_true rfl | (dsimp only; omega)) (by rw [hB.2.1]; first | exact Nat.le_of_ble_eq_true rfl | (dsimp only; omega)) (by rw [hB.2.1]; first | exact Nat.le_of_ble_eq_true rfl | (dsimp only; omega)) (by rw [hB.2.1]; first | exact Nat.le_of_ble_eq_true rfl | (dsimp only; omega)) dX8_makeJoin_82 (fun v h_82 n_82 p_82 => ?_)
                obtain ⟨f82, k82, A82, rfl, rfl, q82, r82, w82⟩ := p_82
                have hq3 := hq2.tr q82
                have hs3 := hq3.1.sa hs
                have g03 := hq3.1.1
                obtain ⟨-, -, -, -, -, -, -, -, -, -, a11⟩ := id hs3
                try dsimp only [Option.toList, List.cons_append, List.nil_append]
                refine o_aload_n hC dX8_makeJoin_85 (by rfl) ?_
                refine o_iload_n hC dX8_makeJoin_86 (by rfl) ?_
                refine o_iload hC dX8_makeJoin_87 (by rfl) ?_
                refine o_aload_n hC dX8_makeJoin_89 (by rfl) ?_
                refine o_getf hC (fX8_40 hC rfl) dX8_makeJoin_90 (by repeat (first | with_reducible assumption | (rw [rl_u_s]; done) | (rw [rl_u_s]; rfl) | rw [rl_u_n (by first | with_reducible assumption | omega)])) (by first | rfl | with_reducible assumption) ?_
                refine o_iload_n hC dX8_makeJoin_93 (by rfl) ?_
                refine o_ialdN (t0 := 0) (k := b) hC rfl dX8_makeJoin_94 (by repeat (first | with_reducible assumption | (rw [rl_u_s]; done) | (rw [rl_u_s]; rfl) | rw [rl_u_n (by first | with_reducible assumption | omega)])) (by omega) (by decide) ?_
                rw [hwb]
                refine o_callV3 hC rl_BW_good rl_Ns_nw (by exact hB.2.2.2.2.2) YX8_take IX8_take VX8_take (mX8_181 hC) (by rw [hB.1]; exact cf_X8_take l D ids H0 _ _ m T _ _ _ b t wb hq3.rf (by omega) (by omega) hwb6) (by exact hq3.1.1) rfl rfl (Nat.le_of_ble_eq_true rfl) (by rw [hB.2.1]; first | exact Nat.le_of_ble_eq_true rfl | (dsimp only; omega)) (by rw [hB.2.1]; first | exact Nat.le_of_ble_eq_true rfl | (dsimp only; omega)) (by rw [hB.2.1]; first | exact Nat.le_of_ble_eq_true rfl | (dsimp only; omega)) (by rw [hB.2.1]; first | exact Nat.le_of_ble_eq_true rfl | (dsimp only; omega)) dX8_makeJoin_95 (fun v h_95 n_95 p_95 => ?_)
                obtain ⟨tp2, rfl, rfl, q95, e95⟩ := p_95
                try dsimp only [Option.toList, List.cons_append, List.nil_append]
                refine o_iconst (v := nI 0) hC dX8_makeJoin_98 (by decide +kernel) ?_
                refine o_istore hC dX8_makeJoin_99 (Nat.le_of_ble_eq_true rfl) ?_
                have hmeet : acg (ark tb t) ca = acg (ark td u) cb := by
                  rw [← hrw.cg hca, ← hsw.cg hcb]
                  first | exact c_61 | exact Classical.not_not.mp c_61
                unfold jlr at he2
                rw [List.filter_cons_of_pos (p := fun s => decide (acg (ark tb t) ca = acg s cb)) (decide_eq_true hmeet), List.map_cons, List.cons_append] at he2
                have hq4 := hq3.tr q95
                have l1 : (ark tb t).1.length = wb := hrt.1
                have l2 : (ark td u).1.length = wd := hru.1
                have ht3 := ht1.rw hw6 hk1.2.2 (by omega) r82 (by omega)
                have hsw3 := hsw.ro hwd6 r82 (by omega)
                have hrw3 := hrw.ro hwb6 r82 (by omega)
                have hop3 : mop A A82 a := hop2.tr (r82.op (by omega))
                have loopC : ∀ (m3 c : Nat) (h3 : rl_H) (tp3 : Nat → Int32), c + m3 = wd → mf ids h h3 m T f82 k82 (A82.1, A82.2.1, A82.2.2.1, A82.2.2.2.1, A82.2.2.2.2.1, A82.2.2.2.2.2.1, A82.2.2.2.2.2.2.1, A82.2.2.2.2.2.2.2.1, tp3, A82.2.2.2.2.2.2.2.2.2.1, A82.2.2.2.2.2.2.2.2.2.2) → (∀ i : Nat, i < wb → tp3 i = (ark tb t).1.getD i 0) → (∀ i : Nat, i < c → tp3 (wb + i) = (ark td u).1.getD i 0) → rl_G X (rl_e D ids H0) 101 [some (.ref m), some (.int (nI a)), some (.int (nI b)), some (.int (nI d)), some (.int (nI t)), some (.int (nI u)), some (.int (nI c))] [] h3 n_95 0 0 := by
                  intro m3
                  induction m3 with
                  | zero =>
                    intro c h3 tp3 hm3 hq5 htp1 htp2
                    have hs5 := hq5.1.sa hs
                    have ekey : rcl tp3 w = ((ark tb t).1 ++ (ark td u).1) := by
                      rw [hwsum, ← l1, ← l2]
                      exact rcl_app (fun i hi => htp1 i (by omega)) (fun i hi => by rw [l1]; exact htp2 i (by omega))
                    rcases w82 with ⟨L9, z1, rfl, z3⟩ | ⟨z1, rfl, -⟩
                    · obtain ⟨hm0, g12, g13, g14, g15, g16, g17, g18, g19, g20, g21, g22⟩ := id hq5
                      have g0 := hm0.1
                      have gk := hm0.2.1
                      obtain ⟨a1, a2, a3, a4, a5, a6, a7, a8, a9, a10, a11⟩ := id hs5
                      refine o_iload hC dX8_makeJoin_101 (by rfl) ?_
                      refine o_aload_n hC dX8_makeJoin_103 (by rfl) ?_
                      refine o_getf hC (fX8_40 hC rfl) dX8_makeJoin_104 (by repeat (first | with_reducible assumption | (rw [rl_u_s]; done) | (rw [rl_u_s]; rfl) | rw [rl_u_n (by first | with_reducible assumption | omega)])) (by first | rfl | with_reducible assumption) ?_
                      refine o_iload_n hC dX8_makeJoin_107 (by rfl) ?_
                      refine o_ialdN (t0 := 0) (k := d) hC rfl dX8_makeJoin_108 (by repeat (first | with_reducible assumption | (rw [rl_u_s]; done) | (rw [rl_u_s]; rfl) | rw [rl_u_n (by first | with_reducible assumption | omega)])) (by omega) (by decide) ?_
                      rw [hwd]
                      refine o_icmp_ge (tgt := 141) hC dX8_makeJoin_109 (by decide) (fun c_109 => ?_) (fun c_109 => ?_)
                      · refine o_aload_n hC dX8_makeJoin_141 (by rfl) ?_
                        refine o_iload_n hC dX8_makeJoin_142 (by rfl) ?_
                        refine o_sipush (v := nI 1360) hC dX8_makeJoin_143 (by decide +kernel) ?_
                        refine o_callV2 hC rl_BW_good rl_Ns_nw (by exact hB.2.2.2.2.2) YX8_comes IX8_comes VX8_comes (mX8_178 hC) (by rw [hB.1]; exact cf_X8_comes l D ids H0 _ _ m T _ _ _ S a 1360 w _ _ hq5.rf hs5 (by omega) (by omega) (by omega) hw hw6 rfl ht3 hk1 z3 (wst_ok z1)) (by exact hq5.1.1) rfl rfl (Nat.le_of_ble_eq_true rfl) (by rw [hB.2.1]; first | exact Nat.le_of_ble_eq_true rfl | (dsimp only; omega)) (by rw [hB.2.1]; first | exact Nat.le_of_ble_eq_true rfl | (dsimp only; omega)) (by rw [hB.2.1]; first | exact Nat.le_of_ble_eq_true rfl | (dsimp only; omega)) (by rw [hB.2.1]; first | exact Nat.le_of_ble_eq_true rfl | (dsimp only; omega)) dX8_makeJoin_146 (fun v h_146 n_146 p_146 => ?_)
                        obtain ⟨f146, k146, A4, rfl, rfl, q146, r146, u146⟩ := p_146
                        try dsimp only [Option.toList, List.cons_append, List.nil_append]
                        refine o_iinc hC dX8_makeJoin_149 (by rfl) (rl_inc _) (Nat.le_of_ble_eq_true rfl) ?_
                        refine o_goto (tgt := 17) hC dX8_makeJoin_152 (by decide) ?_
                        have u9 : (∃ tab' : List arow, aput tab1 (rcl tp3 w) L9 = some tab' ∧ f146 = nI 0 ∧ mtb A4 a w tab') ∨ (aput tab1 (rcl tp3 w) L9 = none ∧ f146 = nI 1) := u146
                        rw [ekey] at u9
                        refine ih2 (u + 1) _ f146 k146 A4 (aput tab1 ((ark tb t).1 ++ (ark td u).1) L9) _ (by omega) (hq5.tr q146) (hop3.tr (mop.tr ⟨fun _ _ => rfl, fun _ _ => rfl, rfl, fun _ _ _ => rfl, fun _ _ _ => ⟨rfl, rfl⟩, rfl⟩ r146.op)) ?_ ?_
                        · rcases u9 with ⟨tab', h1, h2, h3⟩ | ⟨h1, h2⟩
                          · exact Or.inl ⟨tab', h1, h2, h3, aput_ok hk1 (by rw [← ekey]; exact rsg_len _ 0 w) (wst_ok z1) h1⟩
                          · exact Or.inr ⟨h1, h2⟩
                        · rw [he2]
                          show ((wst _).bind (aput tab1 _)).bind _ = _
                          rw [z1]
                          rfl
                      · exact absurd (nI_le (by omega) (by omega)) c_109
                    · obtain ⟨hm0, g12, g13, g14, g15, g16, g17, g18, g19, g20, g21, g22⟩ := id hq5
                      have g0 := hm0.1
                      have gk := hm0.2.1
                      obtain ⟨a1, a2, a3, a4, a5, a6, a7, a8, a9, a10, a11⟩ := id hs5
                      refine o_iload hC dX8_makeJoin_101 (by rfl) ?_
                      refine o_aload_n hC dX8_makeJoin_103 (by rfl) ?_
                      refine o_getf hC (fX8_40 hC rfl) dX8_makeJoin_104 (by repeat (first | with_reducible assumption | (rw [rl_u_s]; done) | (rw [rl_u_s]; rfl) | rw [rl_u_n (by first | with_reducible assumption | omega)])) (by first | rfl | with_reducible assumption) ?_
                      refine o_iload_n hC dX8_makeJoin_107 (by rfl) ?_
                      refine o_ialdN (t0 := 0) (k := d) hC rfl dX8_makeJoin_108 (by repeat (first | with_reducible assumption | (rw [rl_u_s]; done) | (rw [rl_u_s]; rfl) | rw [rl_u_n (by first | with_reducible assumption | omega)])) (by omega) (by decide) ?_
                      rw [hwd]
                      refine o_icmp_ge (tgt := 141) hC dX8_makeJoin_109 (by decide) (fun c_109 => ?_) (fun c_109 => ?_)
                      · refine o_aload_n hC dX8_makeJoin_141 (by rfl) ?_
                        refine o_iload_n hC dX8_makeJoin_142 (by rfl) ?_
                        refine o_sipush (v := nI 1360) hC dX8_makeJoin_143 (by decide +kernel) ?_
                        refine o_callV2 hC rl_BW_good rl_Ns_nw (by exact hB.2.2.2.2.2) YX8_comes IX8_comes VX8_comes (mX8_178 hC) (by rw [hB.1]; exact cf_X8_comes1 l D ids H0 _ _ m T _ _ _ a 1360 hq5.rf rfl) (by exact hq5.1.1) rfl rfl (Nat.le_of_ble_eq_true rfl) (by rw [hB.2.1]; first | exact Nat.le_of_ble_eq_true rfl | (dsimp only; omega)) (by rw [hB.2.1]; first | exact Nat.le_of_ble_eq_true rfl | (dsimp only; omega)) (by rw [hB.2.1]; first | exact Nat.le_of_ble_eq_true rfl | (dsimp only; omega)) (by rw [hB.2.1]; first | exact Nat.le_of_ble_eq_true rfl | (dsimp only; omega)) dX8_makeJoin_146 (fun v h_146 n_146 p_146 => ?_)
                        obtain ⟨rfl, rfl, rfl⟩ := p_146
                        try dsimp only [Option.toList, List.cons_append, List.nil_append]
                        refine o_iinc hC dX8_makeJoin_149 (by rfl) (rl_inc _) (Nat.le_of_ble_eq_true rfl) ?_
                        refine o_goto (tgt := 17) hC dX8_makeJoin_152 (by decide) ?_
                        refine ih2 (u + 1) _ _ _ _ none _ (by omega) hq5 (hop3.tr ⟨fun _ _ => rfl, fun _ _ => rfl, rfl, fun _ _ _ => rfl, fun _ _ _ => ⟨rfl, rfl⟩, rfl⟩) (Or.inr ⟨rfl, rfl⟩) ?_
                        rw [he2]
                        show ((wst _).bind (aput tab1 _)).bind _ = _
                        rw [z1]
                        rfl
                      · exact absurd (nI_le (by omega) (by omega)) c_109
                  | succ m3 ih3 =>
                    intro c h3 tp3 hm3 hq5 htp1 htp2
                    have hs5 := hq5.1.sa hs
                    obtain ⟨hm0, g12, g13, g14, g15, g16, g17, g18, g19, g20, g21, g22⟩ := id hq5
                    have g0 := hm0.1
                    have gk := hm0.2.1
                    obtain ⟨a1, a2, a3, a4, a5, a6, a7, a8, a9, a10, a11⟩ := id hs5
                    refine o_iload hC dX8_makeJoin_101 (by rfl) ?_
                    refine o_aload_n hC dX8_makeJoin_103 (by rfl) ?_
                    refine o_getf hC (fX8_40 hC rfl) dX8_makeJoin_104 (by repeat (first | with_reducible assumption | (rw [rl_u_s]; done) | (rw [rl_u_s]; rfl) | rw [rl_u_n (by first | with_reducible assumption | omega)])) (by first | rfl | with_reducible assumption) ?_
                    refine o_iload_n hC dX8_makeJoin_107 (by rfl) ?_
                    refine o_ialdN (t0 := 0) (k := d) hC rfl dX8_makeJoin_108 (by repeat (first | with_reducible assumption | (rw [rl_u_s]; done) | (rw [rl_u_s]; rfl) | rw [rl_u_n (by first | with_reducible assumption | omega)])) (by omega) (by decide) ?_
                    rw [hwd]
                    refine o_icmp_ge (tgt := 141) hC dX8_makeJoin_109 (by decide) (fun c_109 => ?_) (fun c_109 => ?_)
                    · exact absurd c_109 (nI_ge (by omega) (by omega))
                    · refine o_aload_n hC dX8_makeJoin_112 (by rfl) ?_
                      refine o_getf hC (fX8_69 hC rfl) dX8_makeJoin_113 (by repeat (first | with_reducible assumption | (rw [rl_u_s]; done) | (rw [rl_u_s]; rfl) | rw [rl_u_n (by first | with_reducible assumption | omega)])) (by first | rfl | with_reducible assumption) ?_
                      refine o_aload_n hC dX8_makeJoin_116 (by rfl) ?_
                      refine o_getf hC (fX8_40 hC rfl) dX8_makeJoin_117 (by repeat (first | with_reducible assumption | (rw [rl_u_s]; done) | (rw [rl_u_s]; rfl) | rw [rl_u_n (by first | with_reducible assumption | omega)])) (by first | rfl | with_reducible assumption) ?_
                      refine o_iload_n hC dX8_makeJoin_120 (by rfl) ?_
                      refine o_ialdN (t0 := 0) (k := b) hC rfl dX8_makeJoin_121 (by repeat (first | with_reducible assumption | (rw [rl_u_s]; done) | (rw [rl_u_s]; rfl) | rw [rl_u_n (by first | with_reducible assumption | omega)])) (by omega) (by decide) ?_
                      rw [hwb]
                      refine o_iload hC dX8_makeJoin_122 (by rfl) ?_
                      refine o_iadd hC dX8_makeJoin_124 ?_
                      try rw [nI_add]
                      refine o_aload_n hC dX8_makeJoin_125 (by rfl) ?_
                      refine o_iload_n hC dX8_makeJoin_126 (by rfl) ?_
                      refine o_iload hC dX8_makeJoin_127 (by rfl) ?_
                      refine o_iload hC dX8_makeJoin_129 (by rfl) ?_
                      refine o_callV3 hC rl_BW_good rl_Ns_nw (by exact hB.2.2.2.2.2) YX8_cellAt IX8_cellAt VX8_cellAt (mX8_138 hC) (by rw [hB.1]; exact cf_X8_cellAt l D ids H0 _ _ m T _ _ _ d u c hq5.rf (by omega)) (by exact hq5.rf.1.1) rfl rfl (Nat.le_of_ble_eq_true rfl) (by rw [hB.2.1]; first | exact Nat.le_of_ble_eq_true rfl | (dsimp only; omega)) (by rw [hB.2.1]; first | exact Nat.le_of_ble_eq_true rfl | (dsimp only; omega)) (by rw [hB.2.1]; first | exact Nat.le_of_ble_eq_true rfl | (dsimp only; omega)) (by rw [hB.2.1]; first | exact Nat.le_of_ble_eq_true rfl | (dsimp only; omega)) dX8_makeJoin_131 (fun v h_131 n_131 p_131 => ?_)
                      obtain ⟨rfl, rfl, rfl⟩ := p_131
                      try dsimp only [Option.toList, List.cons_append, List.nil_append]
                      refine o_iastN (t0 := 0) hC rfl dX8_makeJoin_134 (by repeat (first | with_reducible assumption | (rw [rl_u_s]; done) | (rw [rl_u_s]; rfl) | rw [rl_u_n (by first | with_reducible assumption | omega)])) (by omega) (by decide) ?_
                      refine o_iinc hC dX8_makeJoin_135 (by rfl) (rl_inc _) (Nat.le_of_ble_eq_true rfl) ?_
                      refine o_goto (tgt := 101) hC dX8_makeJoin_138 (by decide) ?_
                      refine ih3 (c + 1) _ _ (by omega) (hq5.s20 _) (fun i hi => (if_neg (by omega)).trans (htp1 i hi)) (fun i hi => ?_)
                      by_cases e2 : i = c
                      · subst e2
                        refine (if_pos rfl).trans ?_
                        exact hsw3.cg (by omega)
                      · exact (if_neg (by omega)).trans (htp2 i (by omega))
                exact loopC wd 0 _ tp2 (by omega) hq4 (fun i hi => (e95 i).trans ((if_pos hi).trans (hrw3.cg hi))) (fun i hi => absurd hi (by omega))
      have hTb := hop.tb hwb6 hbk.2.2 (by omega) hbt hba
      rw [ark_dropp (show t < tb.length by omega)] at he
      have hs1 := hq1.1.sa hs
      obtain ⟨hm0, g12, g13, g14, g15, g16, g17, g18, g19, g20, g21, g22⟩ := id hq1
      have g0 := hm0.1
      have gk := hm0.2.1
      obtain ⟨a1, a2, a3, a4, a5, a6, a7, a8, a9, a10, a11⟩ := id hs1
      refine o_iload hC dX8_makeJoin_3 (by rfl) ?_
      refine o_aload_n hC dX8_makeJoin_5 (by rfl) ?_
      refine o_getf hC (fX8_46 hC rfl) dX8_makeJoin_6 (by repeat (first | with_reducible assumption | (rw [rl_u_s]; done) | (rw [rl_u_s]; rfl) | rw [rl_u_n (by first | with_reducible assumption | omega)])) (by first | rfl | with_reducible assumption) ?_
      refine o_iload_n hC dX8_makeJoin_9 (by rfl) ?_
      refine o_ialdN (t0 := 0) (k := b) hC rfl dX8_makeJoin_10 (by repeat (first | with_reducible assumption | (rw [rl_u_s]; done) | (rw [rl_u_s]; rfl) | rw [rl_u_n (by first | with_reducible assumption | omega)])) (by omega) (by decide) ?_
      rw [hTb.1]
      refine o_icmp_ge (tgt := 161) hC dX8_makeJoin_11 (by decide) (fun c_11 => ?_) (fun c_11 => ?_)
      · refine o_vret hC hB dX8_makeJoin_161 (Nat.le_of_ble_eq_true rfl) (Nat.le_of_ble_eq_true rfl) ?_
        exact absurd c_11 (nI_ge (by omega) (by omega))
      · refine o_iconst (v := nI 0) hC dX8_makeJoin_14 (by decide +kernel) ?_
        refine o_istore hC dX8_makeJoin_15 (Nat.le_of_ble_eq_true rfl) ?_
        exact loopU td.length 0 _ _ _ A1 r1 _ (by omega) hq1 hop hst he
  show rl_G X (rl_e D ids H0) 0 [some (.ref m), some (.int (nI a)), some (.int (nI b)), some (.int (nI d)), none, none, none] [] h n 0 0
  refine o_iconst (v := nI 0) hC dX8_makeJoin_0 (by decide +kernel) ?_
  refine o_istore hC dX8_makeJoin_1 (Nat.le_of_ble_eq_true rfl) ?_
  exact loop tb.length 0 _ _ _ A r0 _ _ (by omega) hq mop.rf hr0 rfl

set_option maxHeartbeats 4000000 in
set_option maxRecDepth 100000 in
theorem cf_X8_makeMinus (l : Launch) (D : va_G) (ids : Nat → ClassId) (H0 : Heap) (h : rl_H) (n : Nat) (m : Nat) (T : md_T) (fu : Int32) (k : Nat) (A : md_D) (S : md_A) (a b d w wb wd : Nat) (tb td : List arow) (r0 : Option (List arow)) (hq : mf ids h h m T fu k A) (hs : md_sa ids h m S) (ha : a < 16) (hb : b < 16) (hba : b ≠ a) (hw : S.2.2.2.2.2.2.2.2.2.2 a = nI w) (hw6 : w ≤ 6) (hwb : S.2.2.2.2.2.2.2.2.2.2 b = nI wb) (hwb6 : wb ≤ 6) (hbt : mtb A b wb tb) (hbk : aok wb tb) (hr0 : mst A a w fu r0) (hd : d < 16) (hda : d ≠ a) (hwd : S.2.2.2.2.2.2.2.2.2.2 d = nI wd) (hwd6 : wd ≤ 6) (hdt : mtb A d wd td) (hdk : aok wd td) (hww : w = wb) (hwwd : w = wd) : rl_Met l (rl_e D ids H0) rl_BW rl_Ns yX8_makeMinus cX8_makeMinus 7 none ({ frames := 4, cells := 0, slots := 0, locals := 98 }) [.ref m, .int (nI a), .int (nI b), .int (nI d)] h n (fun v h' n' => ∃ (fu' : Int32) (k' : Nat) (A' : md_D), v = none ∧ n' = n ∧ mf ids h h' m T fu' k' A' ∧ mop A A' a ∧ mst A' a w fu' (r0.bind (fun x => aall x (tb.map (fun r => (r.1, mno r.2 (afd td r.1))))))) := by
  have tl80 := hbk.2.2
  have tl81 := hdk.2.2
  refine rl_Met.of (by decide +kernel) (Nat.le_of_ble_eq_true rfl) ?_
  intro X hC hB
  have loop : ∀ (mm t : Nat) (h1 : rl_H) (f1 : Int32) (k1 : Nat) (A1 : md_D) (r1 : Option (List arow)) (o5 o6 : Option Value), t + mm = tb.length → mf ids h h1 m T f1 k1 A1 → mop A A1 a → mst A1 a w f1 r1 → r0.bind (fun x => aall x (tb.map (fun r => (r.1, mno r.2 (afd td r.1))))) = r1.bind (fun x => aall x ((tb.map (fun r => (r.1, mno r.2 (afd td r.1)))).drop t)) → rl_G X (rl_e D ids H0) 3 [some (.ref m), some (.int (nI a)), some (.int (nI b)), some (.int (nI d)), some (.int (nI t)), o5, o6] [] h1 n 0 0 := by
    intro mm
    induction mm with
    | zero =>
      intro t h1 f1 k1 A1 r1 o5 o6 hm hq1 hop hst he
      have hTb := hop.tb hwb6 hbk.2.2 (by omega) hbt hba
      have hs1 := hq1.1.sa hs
      obtain ⟨hm0, g12, g13, g14, g15, g16, g17, g18, g19, g20, g21, g22⟩ := id hq1
      have g0 := hm0.1
      have gk := hm0.2.1
      obtain ⟨a1, a2, a3, a4, a5, a6, a7, a8, a9, a10, a11⟩ := id hs1
      refine o_iload hC dX8_makeMinus_3 (by rfl) ?_
      refine o_aload_n hC dX8_makeMinus_5 (by rfl) ?_
      refine o_getf hC (fX8_46 hC rfl) dX8_makeMinus_6 (by repeat (first | with_reducible assumption | (rw [rl_u_s]; done) | (rw [rl_u_s]; rfl) | rw [rl_u_n (by first | with_reducible assumption | omega)])) (by first | rfl | with_reducible assumption) ?_
      refine o_iload_n hC dX8_makeMinus_9 (by rfl) ?_
      refine o_ialdN (t0 := 0) (k := b) hC rfl dX8_makeMinus_10 (by repeat (first | with_reducible assumption | (rw [rl_u_s]; done) | (rw [rl_u_s]; rfl) | rw [rl_u_n (by first | with_reducible assumption | omega)])) (by omega) (by decide) ?_
      rw [hTb.1]
      refine o_icmp_ge (tgt := 149) hC dX8_makeMinus_11 (by decide) (fun c_11 => ?_) (fun c_11 => ?_)
      · refine o_vret hC hB dX8_makeMinus_149 (Nat.le_of_ble_eq_true rfl) (Nat.le_of_ble_eq_true rfl) ?_
        refine ⟨f1, k1, A1, rfl, rfl, hq1, hop, ?_⟩
        rw [he, show r1.bind (fun x => aall x ((tb.map (fun r => (r.1, mno r.2 (afd td r.1)))).drop t)) = r1 by rw [List.drop_eq_nil_of_le (by rw [List.length_map]; omega)]; cases r1 <;> rfl]
        exact hst
      · exact absurd (nI_le (by omega) (by omega)) c_11
    | succ mm ih =>
      intro t h1 f1 k1 A1 r1 o5 o6 hm hq1 hop hst he
      have hTb := hop.tb hwb6 hbk.2.2 (by omega) hbt hba
      have hTd := hop.tb hwd6 hdk.2.2 (by omega) hdt hda
      have hrt := hbk.2.1 _ (List.getElem_mem (show t < tb.length by omega))
      rw [← ark_at] at hrt
      have hrw := hTb.2 t (by omega)
      rw [ark_drop (show t < tb.length by omega)] at he
      have hs1 := hq1.1.sa hs
      obtain ⟨hm0, g12, g13, g14, g15, g16, g17, g18, g19, g20, g21, g22⟩ := id hq1
      have g0 := hm0.1
      have gk := hm0.2.1
      obtain ⟨a1, a2, a3, a4, a5, a6, a7, a8, a9, a10, a11⟩ := id hs1
      refine o_iload hC dX8_makeMinus_3 (by rfl) ?_
      refine o_aload_n hC dX8_makeMinus_5 (by rfl) ?_
      refine o_getf hC (fX8_46 hC rfl) dX8_makeMinus_6 (by repeat (first | with_reducible assumption | (rw [rl_u_s]; done) | (rw [rl_u_s]; rfl) | rw [rl_u_n (by first | with_reducible assumption | omega)])) (by first | rfl | with_reducible assumption) ?_
      refine o_iload_n hC dX8_makeMinus_9 (by rfl) ?_
      refine o_ialdN (t0 := 0) (k := b) hC rfl dX8_makeMinus_10 (by repeat (first | with_reducible assumption | (rw [rl_u_s]; done) | (rw [rl_u_s]; rfl) | rw [rl_u_n (by first | with_reducible assumption | omega)])) (by omega) (by decide) ?_
      rw [hTb.1]
      refine o_icmp_ge (tgt := 149) hC dX8_makeMinus_11 (by decide) (fun c_11 => ?_) (fun c_11 => ?_)
      · refine o_vret hC hB dX8_makeMinus_149 (Nat.le_of_ble_eq_true rfl) (Nat.le_of_ble_eq_true rfl) ?_
        exact absurd c_11 (nI_ge (by omega) (by omega))
      · refine o_aload_n hC dX8_makeMinus_14 (by rfl) ?_
        refine o_getf hC (fX8_91 hC rfl) dX8_makeMinus_15 (by repeat (first | with_reducible assumption | (rw [rl_u_s]; done) | (rw [rl_u_s]; rfl) | rw [rl_u_n (by first | with_reducible assumption | omega)])) (by first | rfl | with_reducible assumption) ?_
        refine o_if_ne (tgt := 149) hC dX8_makeMinus_18 (by decide) (fun c_18 => ?_) (fun c_18 => ?_)
        · refine o_vret hC hB dX8_makeMinus_149 (Nat.le_of_ble_eq_true rfl) (Nat.le_of_ble_eq_true rfl) ?_
          rcases hst with ⟨tab1, rfl, rfl, ht1, hk1⟩ | ⟨rfl, rfl⟩
          · exact absurd rfl c_18
          · exact ⟨_, k1, A1, rfl, rfl, hq1, hop, Or.inr ⟨he, rfl⟩⟩
        · rcases hst with ⟨tab1, rfl, rfl, ht1, hk1⟩ | ⟨rfl, rfl⟩
          rotate_left
          · exact absurd c_18 (by decide +kernel)
          refine o_aload_n hC dX8_makeMinus_21 (by rfl) ?_
          refine o_iload_n hC dX8_makeMinus_22 (by rfl) ?_
          refine o_iload hC dX8_makeMinus_23 (by rfl) ?_
          refine o_aload_n hC dX8_makeMinus_25 (by rfl) ?_
          refine o_getf hC (fX8_40 hC rfl) dX8_makeMinus_26 (by repeat (first | with_reducible assumption | (rw [rl_u_s]; done) | (rw [rl_u_s]; rfl) | rw [rl_u_n (by first | with_reducible assumption | omega)])) (by first | rfl | with_reducible assumption) ?_
          refine o_iload_n hC dX8_makeMinus_29 (by rfl) ?_
          refine o_ialdN (t0 := 0) (k := b) hC rfl dX8_makeMinus_30 (by repeat (first | with_reducible assumption | (rw [rl_u_s]; done) | (rw [rl_u_s]; rfl) | rw [rl_u_n (by first | with_reducible assumption | omega)])) (by omega) (by decide) ?_
          rw [hwb]
          refine o_callV3 hC rl_BW_good rl_Ns_nw (by exact hB.2.2.2.2.2) YX8_take IX8_take VX8_take (mX8_181 hC) (by rw [hB.1]; exact cf_X8_take l D ids H0 _ _ m T _ _ _ b t wb hq1.rf (by omega) (by omega) hwb6) (by exact hq1.1.1) rfl rfl (Nat.le_of_ble_eq_true rfl) (by rw [hB.2.1]; first | exact Nat.le_of_ble_eq_true rfl | (dsimp only; omega)) (by rw [hB.2.1]; first | exact Nat.le_of_ble_eq_true rfl | (dsimp only; omega)) (by rw [hB.2.1]; first | exact Nat.le_of_ble_eq_true rfl | (dsimp only; omega)) (by rw [hB.2.1]; first | exact Nat.le_of_ble_eq_true rfl | (dsimp only; omega)) dX8_makeMinus_31 (fun v h_31 n_31 p_31 => ?_)
          obtain ⟨tp2, rfl, rfl, q31, e31⟩ := p_31
          try dsimp only [Option.toList, List.cons_append, List.nil_append]
          refine o_iconst (v := (-1 : Int32)) hC dX8_makeMinus_34 (by decide +kernel) ?_
          refine o_istore hC dX8_makeMinus_35 (Nat.le_of_ble_eq_true rfl) ?_
          refine o_iconst (v := nI 0) hC dX8_makeMinus_37 (by decide +kernel) ?_
          refine o_istore hC dX8_makeMinus_38 (Nat.le_of_ble_eq_true rfl) ?_
          have hq3 := hq1.tr q31
          have hs3 := hq3.1.sa hs
          have hop3 : mop A (A1.1, A1.2.1, A1.2.2.1, A1.2.2.2.1, A1.2.2.2.2.1, A1.2.2.2.2.2.1, A1.2.2.2.2.2.2.1, A1.2.2.2.2.2.2.2.1, tp2, A1.2.2.2.2.2.2.2.2.2.1, A1.2.2.2.2.2.2.2.2.2.2) a := hop.tr ⟨fun _ _ => rfl, fun _ _ => rfl, rfl, fun _ _ _ => rfl, fun _ _ _ => ⟨rfl, rfl⟩, rfl⟩
          have ekey : rcl tp2 w = (ark tb t).1 := by
            rw [← hrw.1, hww]
            exact rsg_eq (fun i _ hi => (e31 i).trans (if_pos (by omega)))
          have kl : (ark tb t).1.length = wd := by rw [← ekey, rsg_len, ← hwwd]
          have emag : ∀ j : Nat, j < td.length → (mag (A1.1, A1.2.1, A1.2.2.1, A1.2.2.2.1, A1.2.2.2.2.1, A1.2.2.2.2.2.1, A1.2.2.2.2.2.2.1, A1.2.2.2.2.2.2.2.1, tp2, A1.2.2.2.2.2.2.2.2.2.1, A1.2.2.2.2.2.2.2.2.2.2) d wd j = 0 ↔ (ark td j).1 = (ark tb t).1) := fun j hj => by
            rw [mag_l]
            show lcm2 (rcl tp2 wd) (rcl (mcl A1 d j) wd) = 0 ↔ _
            rw [(hTd.2 j hj).1, ← hwwd, ekey]
            refine ⟨fun e => (lcm2_0 ?_ e).symm, fun e => by rw [e]; exact lcm2_rf _⟩
            rw [kl, ← (hTd.2 j hj).1, rsg_len]
          have fin : ∀ (u : Int32) (o6 : Option Value), ((u = -1 ∧ afd td (ark tb t).1 = none) ∨ ∃ j : Nat, j < td.length ∧ u = nI j ∧ afd td (ark tb t).1 = some (ark td j).2) → rl_G X (rl_e D ids H0) 76 [some (.ref m), some (.int (nI a)), some (.int (nI b)), some (.int (nI d)), some (.int (nI t)), some (.int u), o6] [] h_31 n_31 0 0 := by
            intro u o6 hu
            obtain ⟨hm0, g12, g13, g14, g15, g16, g17, g18, g19, g20, g21, g22⟩ := id hq3
            have g0 := hm0.1
            have gk := hm0.2.1
            obtain ⟨a1, a2, a3, a4, a5, a6, a7, a8, a9, a10, a11⟩ := id hs3
            refine o_iload hC dX8_makeMinus_76 (by rfl) ?_
            refine o_iconst (v := (-1 : Int32)) hC dX8_makeMinus_78 (by decide +kernel) ?_
            refine o_icmp_ne (tgt := 97) hC dX8_makeMinus_79 (by decide) (fun c_79 => ?_) (fun c_79 => ?_)
            · obtain ⟨j, hj, rfl, efd⟩ := hu.resolve_left (fun q => c_79 q.1)
              have hjw := hTd.2 j hj
              refine o_aload_n hC dX8_makeMinus_97 (by rfl) ?_
              refine o_sipush (v := nI 1361) hC dX8_makeMinus_98 (by decide +kernel) ?_
              refine o_bipush (v := nI 80) hC dX8_makeMinus_101 (by decide +kernel) ?_
              refine o_iload_n hC dX8_makeMinus_103 (by rfl) ?_
              refine o_imul hC dX8_makeMinus_104 ?_
              try rw [nI_mul]
              refine o_iload hC dX8_makeMinus_105 (by rfl) ?_
              refine o_iadd hC dX8_makeMinus_107 ?_
              try rw [nI_add]
              refine o_callV2 hC rl_BW_good rl_Ns_nw (by exact hB.2.2.2.2.2) YX8_not IX8_not VX8_not (mX8_187 hC) (by rw [hB.1]; exact cf_X8_not l D ids H0 _ _ m T _ _ _ 1361 (80 * d + j) (ark td j).2 hq3.rf (by omega) (by omega) (by omega) hjw.2 rfl) (by exact hq3.1.1) rfl rfl (Nat.le_of_ble_eq_true rfl) (by rw [hB.2.1]; first | exact Nat.le_of_ble_eq_true rfl | (dsimp only; omega)) (by rw [hB.2.1]; first | exact Nat.le_of_ble_eq_true rfl | (dsimp only; omega)) (by rw [hB.2.1]; first | exact Nat.le_of_ble_eq_true rfl | (dsimp only; omega)) (by rw [hB.2.1]; first | exact Nat.le_of_ble_eq_true rfl | (dsimp only; omega)) dX8_makeMinus_108 (fun v h_108 n_108 p_108 => ?_)
              obtain ⟨f108, k108, A108, rfl, rfl, q108, r108, w108⟩ := p_108
              have hq4 := hq3.tr q108
              have hs4 := hq4.1.sa hs
              have g04 := hq4.1.1
              have hop4 : mop A A108 a := hop3.tr (r108.op (by omega))
              have ht4 : mtb A108 a w tab1 := mtb.rw (A := (A1.1, A1.2.1, A1.2.2.1, A1.2.2.2.1, A1.2.2.2.2.1, A1.2.2.2.2.2.1, A1.2.2.2.2.2.2.1, A1.2.2.2.2.2.2.2.1, tp2, A1.2.2.2.2.2.2.2.2.2.1, A1.2.2.2.2.2.2.2.2.2.2)) ht1 hw6 hk1.2.2 (by omega) r108 (by omega)
              have hrw4 := mrw.ro (A := (A1.1, A1.2.1, A1.2.2.1, A1.2.2.2.1, A1.2.2.2.2.1, A1.2.2.2.2.2.1, A1.2.2.2.2.2.2.1, A1.2.2.2.2.2.2.2.1, tp2, A1.2.2.2.2.2.2.2.2.2.1, A1.2.2.2.2.2.2.2.2.2.2)) hwb6 hrw r108 (by omega)
              try dsimp only [Option.toList, List.cons_append, List.nil_append]
              refine o_aload_n hC dX8_makeMinus_111 (by rfl) ?_
              refine o_getf hC (fX8_91 hC rfl) dX8_makeMinus_112 (by repeat (first | with_reducible assumption | (rw [rl_u_s]; done) | (rw [rl_u_s]; rfl) | rw [rl_u_n (by first | with_reducible assumption | omega)])) (by first | rfl | with_reducible assumption) ?_
              refine o_if_ne (tgt := 135) hC dX8_makeMinus_115 (by decide) (fun c_115 => ?_) (fun c_115 => ?_)
              · rcases w108 with ⟨W, w108a, rfl, w108b, w108c⟩ | ⟨w108a, rfl⟩
                · exact absurd rfl c_115
                · refine o_aload_n hC dX8_makeMinus_135 (by rfl) ?_
                  refine o_iload_n hC dX8_makeMinus_136 (by rfl) ?_
                  refine o_sipush (v := nI 1360) hC dX8_makeMinus_137 (by decide +kernel) ?_
                  refine o_callV2 hC rl_BW_good rl_Ns_nw (by exact hB.2.2.2.2.2) YX8_comes IX8_comes VX8_comes (mX8_178 hC) (by rw [hB.1]; exact cf_X8_comes1 l D ids H0 _ _ m T _ _ _ a 1360 hq4.rf rfl) (by exact hq4.1.1) rfl rfl (Nat.le_of_ble_eq_true rfl) (by rw [hB.2.1]; first | exact Nat.le_of_ble_eq_true rfl | (dsimp only; omega)) (by rw [hB.2.1]; first | exact Nat.le_of_ble_eq_true rfl | (dsimp only; omega)) (by rw [hB.2.1]; first | exact Nat.le_of_ble_eq_true rfl | (dsimp only; omega)) (by rw [hB.2.1]; first | exact Nat.le_of_ble_eq_true rfl | (dsimp only; omega)) dX8_makeMinus_140 (fun v h_140 n_140 p_140 => ?_)
                  obtain ⟨rfl, rfl, rfl⟩ := p_140
                  try dsimp only [Option.toList, List.cons_append, List.nil_append]
                  refine o_iinc hC dX8_makeMinus_143 (by rfl) (rl_inc _) (Nat.le_of_ble_eq_true rfl) ?_
                  refine o_goto (tgt := 3) hC dX8_makeMinus_146 (by decide) ?_
                  refine ih (t + 1) _ _ _ A108 none _ _ (by omega) hq4 hop4 (Or.inr ⟨rfl, rfl⟩) ?_
                  rw [he]
                  show ((mno _ (afd td (ark tb t).1)).bind (aput tab1 _)).bind _ = _
                  rw [efd]
                  show (((wno _ _).bind _).bind (aput tab1 _)).bind _ = _
                  rw [w108a]
                  rfl
              · rcases w108 with ⟨W, w108a, rfl, w108b, w108c⟩ | ⟨w108a, rfl⟩
                rotate_left
                · exact absurd c_115 (by decide +kernel)
                refine o_aload_n hC dX8_makeMinus_118 (by rfl) ?_
                refine o_sipush (v := nI 1360) hC dX8_makeMinus_119 (by decide +kernel) ?_
                refine o_bipush (v := nI 80) hC dX8_makeMinus_122 (by decide +kernel) ?_
                refine o_iload_n hC dX8_makeMinus_124 (by rfl) ?_
                refine o_imul hC dX8_makeMinus_125 ?_
                try rw [nI_mul]
                refine o_iload hC dX8_makeMinus_126 (by rfl) ?_
                refine o_iadd hC dX8_makeMinus_128 ?_
                try rw [nI_add]
                refine o_sipush (v := nI 1361) hC dX8_makeMinus_129 (by decide +kernel) ?_
                refine o_callV3 hC rl_BW_good rl_Ns_nw (by exact hB.2.2.2.2.2) YX8_both IX8_both VX8_both (mX8_184 hC) (by rw [hB.1]; exact cf_X8_both l D ids H0 _ _ m T _ _ _ 1360 (80 * b + t) 1361 (ark tb t).2 W hq4.rf (by omega) (by omega) (by omega) hrw4.2 w108b) (by exact hq4.1.1) rfl rfl (Nat.le_of_ble_eq_true rfl) (by rw [hB.2.1]; first | exact Nat.le_of_ble_eq_true rfl | (dsimp only; omega)) (by rw [hB.2.1]; first | exact Nat.le_of_ble_eq_true rfl | (dsimp only; omega)) (by rw [hB.2.1]; first | exact Nat.le_of_ble_eq_true rfl | (dsimp only; omega)) (by rw [hB.2.1]; first | exact Nat.le_of_ble_eq_true rfl | (dsimp only; omega)) dX8_makeMinus_132 (fun v h_132 n_132 p_132 => ?_)
                obtain ⟨f132, k132, A132, rfl, rfl, q132, r132, w132⟩ := p_132
                have hq5 := hq4.tr q132
                have hs5 := hq5.1.sa hs
                have g05 := hq5.1.1
                have hop5 : mop A A132 a := hop4.tr (r132.op (by omega))
                have ht5 := ht4.rw hw6 hk1.2.2 (by omega) r132 (by omega)
                have e20 : A132.2.2.2.2.2.2.2.2.1 = tp2 := by
                  rw [r132.2.2.2.2.2, r108.2.2.2.2.2]
                try dsimp only [Option.toList, List.cons_append, List.nil_append]
                rcases w132 with ⟨L9, z1, rfl, z3⟩ | ⟨z1, rfl, -⟩
                · refine o_aload_n hC dX8_makeMinus_135 (by rfl) ?_
                  refine o_iload_n hC dX8_makeMinus_136 (by rfl) ?_
                  refine o_sipush (v := nI 1360) hC dX8_makeMinus_137 (by decide +kernel) ?_
                  refine o_callV2 hC rl_BW_good rl_Ns_nw (by exact hB.2.2.2.2.2) YX8_comes IX8_comes VX8_comes (mX8_178 hC) (by rw [hB.1]; exact cf_X8_comes l D ids H0 _ _ m T _ _ _ S a 1360 w _ _ hq5.rf hs5 (by omega) (by omega) (by omega) hw hw6 rfl ht5 hk1 z3 (wst_ok z1)) (by exact hq5.1.1) rfl rfl (Nat.le_of_ble_eq_true rfl) (by rw [hB.2.1]; first | exact Nat.le_of_ble_eq_true rfl | (dsimp only; omega)) (by rw [hB.2.1]; first | exact Nat.le_of_ble_eq_true rfl | (dsimp only; omega)) (by rw [hB.2.1]; first | exact Nat.le_of_ble_eq_true rfl | (dsimp only; omega)) (by rw [hB.2.1]; first | exact Nat.le_of_ble_eq_true rfl | (dsimp only; omega)) dX8_makeMinus_140 (fun v h_140 n_140 p_140 => ?_)
                  obtain ⟨f140, k140, A4, rfl, rfl, q140, r140, u140⟩ := p_140
                  rw [e20] at u140
                  try dsimp only [Option.toList, List.cons_append, List.nil_append]
                  refine o_iinc hC dX8_makeMinus_143 (by rfl) (rl_inc _) (Nat.le_of_ble_eq_true rfl) ?_
                  refine o_goto (tgt := 3) hC dX8_makeMinus_146 (by decide) ?_
                  have u9 : (∃ tab' : List arow, aput tab1 (rcl tp2 w) L9 = some tab' ∧ f140 = nI 0 ∧ mtb A4 a w tab') ∨ (aput tab1 (rcl tp2 w) L9 = none ∧ f140 = nI 1) := u140
                  rw [ekey] at u9
                  refine ih (t + 1) _ f140 k140 A4 (aput tab1 (ark tb t).1 L9) _ _ (by omega) (hq5.tr q140) (hop5.tr r140.op) ?_ ?_
                  · rcases u9 with ⟨tab', h1, h2, h3⟩ | ⟨h1, h2⟩
                    · exact Or.inl ⟨tab', h1, h2, h3, aput_ok hk1 (by rw [← ekey]; exact rsg_len _ 0 w) (wst_ok z1) h1⟩
                    · exact Or.inr ⟨h1, h2⟩
                  · rw [he]
                    show ((mno _ (afd td (ark tb t).1)).bind (aput tab1 _)).bind _ = _
                    rw [efd]
                    show (((wno _ _).bind _).bind (aput tab1 _)).bind _ = _
                    rw [w108a]
                    show ((wst _).bind (aput tab1 _)).bind _ = _
                    rw [z1]
                    rfl
                · refine o_aload_n hC dX8_makeMinus_135 (by rfl) ?_
                  refine o_iload_n hC dX8_makeMinus_136 (by rfl) ?_
                  refine o_sipush (v := nI 1360) hC dX8_makeMinus_137 (by decide +kernel) ?_
                  refine o_callV2 hC rl_BW_good rl_Ns_nw (by exact hB.2.2.2.2.2) YX8_comes IX8_comes VX8_comes (mX8_178 hC) (by rw [hB.1]; exact cf_X8_comes1 l D ids H0 _ _ m T _ _ _ a 1360 hq5.rf rfl) (by exact hq5.1.1) rfl rfl (Nat.le_of_ble_eq_true rfl) (by rw [hB.2.1]; first | exact Nat.le_of_ble_eq_true rfl | (dsimp only; omega)) (by rw [hB.2.1]; first | exact Nat.le_of_ble_eq_true rfl | (dsimp only; omega)) (by rw [hB.2.1]; first | exact Nat.le_of_ble_eq_true rfl | (dsimp only; omega)) (by rw [hB.2.1]; first | exact Nat.le_of_ble_eq_true rfl | (dsimp only; omega)) dX8_makeMinus_140 (fun v h_140 n_140 p_140 => ?_)
                  obtain ⟨rfl, rfl, rfl⟩ := p_140
                  try dsimp only [Option.toList, List.cons_append, List.nil_append]
                  refine o_iinc hC dX8_makeMinus_143 (by rfl) (rl_inc _) (Nat.le_of_ble_eq_true rfl) ?_
                  refine o_goto (tgt := 3) hC dX8_makeMinus_146 (by decide) ?_
                  refine ih (t + 1) _ _ _ A132 none _ _ (by omega) hq5 hop5 (Or.inr ⟨rfl, rfl⟩) ?_
                  rw [he]
                  show ((mno _ (afd td (ark tb t).1)).bind (aput tab1 _)).bind _ = _
                  rw [efd]
                  show (((wno _ _).bind _).bind (aput tab1 _)).bind _ = _
                  rw [w108a]
                  show ((wst _).bind (aput tab1 _)).bind _ = _
                  rw [z1]
                  rfl
            · have efd : afd td (ark tb t).1 = none := by
                rcases hu with ⟨-, e⟩ | ⟨j, hj, e, -⟩
                · exact e
                · exact absurd (e.symm.trans (by first | exact c_79 | exact Classical.not_not.mp c_79)) (nI_m1 (by omega))
              refine o_aload_n hC dX8_makeMinus_82 (by rfl) ?_
              refine o_iload_n hC dX8_makeMinus_83 (by rfl) ?_
              refine o_bipush (v := nI 80) hC dX8_makeMinus_84 (by decide +kernel) ?_
              refine o_iload_n hC dX8_makeMinus_86 (by rfl) ?_
              refine o_imul hC dX8_makeMinus_87 ?_
              try rw [nI_mul]
              refine o_iload hC dX8_makeMinus_88 (by rfl) ?_
              refine o_iadd hC dX8_makeMinus_90 ?_
              try rw [nI_add]
              refine o_callV2 hC rl_BW_good rl_Ns_nw (by exact hB.2.2.2.2.2) YX8_comes IX8_comes VX8_comes (mX8_178 hC) (by rw [hB.1]; exact cf_X8_comes l D ids H0 _ _ m T _ _ _ S a (80 * b + t) w _ _ hq3.rf hs3 (by omega) (by omega) (by omega) hw hw6 rfl ht1 hk1 hrw.2 hrt.2.1) (by exact hq3.1.1) rfl rfl (Nat.le_of_ble_eq_true rfl) (by rw [hB.2.1]; first | exact Nat.le_of_ble_eq_true rfl | (dsimp only; omega)) (by rw [hB.2.1]; first | exact Nat.le_of_ble_eq_true rfl | (dsimp only; omega)) (by rw [hB.2.1]; first | exact Nat.le_of_ble_eq_true rfl | (dsimp only; omega)) (by rw [hB.2.1]; first | exact Nat.le_of_ble_eq_true rfl | (dsimp only; omega)) dX8_makeMinus_91 (fun v h_91 n_91 p_91 => ?_)
              obtain ⟨f91, k91, A4, rfl, rfl, q91, r91, u91⟩ := p_91
              try dsimp only [Option.toList, List.cons_append, List.nil_append]
              refine o_goto (tgt := 143) hC dX8_makeMinus_94 (by decide) ?_
              refine o_iinc hC dX8_makeMinus_143 (by rfl) (rl_inc _) (Nat.le_of_ble_eq_true rfl) ?_
              refine o_goto (tgt := 3) hC dX8_makeMinus_146 (by decide) ?_
              have u9 : (∃ tab' : List arow, aput tab1 (rcl tp2 w) (ark tb t).2 = some tab' ∧ f91 = nI 0 ∧ mtb A4 a w tab') ∨ (aput tab1 (rcl tp2 w) (ark tb t).2 = none ∧ f91 = nI 1) := u91
              rw [ekey] at u9
              refine ih (t + 1) _ f91 k91 A4 (aput tab1 (ark tb t).1 (ark tb t).2) _ _ (by omega) (hq3.tr q91) (hop3.tr r91.op) ?_ ?_
              · rcases u9 with ⟨tab', h1, h2, h3⟩ | ⟨h1, h2⟩
                · exact Or.inl ⟨tab', h1, h2, h3, aput_ok hk1 (by rw [← ekey]; exact rsg_len _ 0 w) hrt.2.1 h1⟩
                · exact Or.inr ⟨h1, h2⟩
              · rw [he]
                show ((mno _ (afd td (ark tb t).1)).bind (aput tab1 _)).bind _ = _
                rw [efd]
                rfl
          have loopK : ∀ (m2 i : Nat) (u : Int32), i + m2 = td.length → ((u = -1 ∧ ∀ j : Nat, j < i → (ark td j).1 ≠ (ark tb t).1) ∨ ∃ j : Nat, j < i ∧ u = nI j ∧ (ark td j).1 = (ark tb t).1) → rl_G X (rl_e D ids H0) 40 [some (.ref m), some (.int (nI a)), some (.int (nI b)), some (.int (nI d)), some (.int (nI t)), some (.int u), some (.int (nI i))] [] h_31 n_31 0 0 := by
            intro m2
            induction m2 with
            | zero =>
              intro i u hm2 hu
              obtain ⟨hm0, g12, g13, g14, g15, g16, g17, g18, g19, g20, g21, g22⟩ := id hq3
              have g0 := hm0.1
              have gk := hm0.2.1
              obtain ⟨a1, a2, a3, a4, a5, a6, a7, a8, a9, a10, a11⟩ := id hs3
              refine o_iload hC dX8_makeMinus_40 (by rfl) ?_
              refine o_aload_n hC dX8_makeMinus_42 (by rfl) ?_
              refine o_getf hC (fX8_46 hC rfl) dX8_makeMinus_43 (by repeat (first | with_reducible assumption | (rw [rl_u_s]; done) | (rw [rl_u_s]; rfl) | rw [rl_u_n (by first | with_reducible assumption | omega)])) (by first | rfl | with_reducible assumption) ?_
              refine o_iload_n hC dX8_makeMinus_46 (by rfl) ?_
              refine o_ialdN (t0 := 0) (k := d) hC rfl dX8_makeMinus_47 (by repeat (first | with_reducible assumption | (rw [rl_u_s]; done) | (rw [rl_u_s]; rfl) | rw [rl_u_n (by first | with_reducible assumption | omega)])) (by omega) (by decide) ?_
              rw [hTd.1]
              refine o_icmp_ge (tgt := 76) hC dX8_makeMinus_48 (by decide) (fun c_48 => ?_) (fun c_48 => ?_)
              · refine fin _ _ ?_
                rcases hu with ⟨e1, e2⟩ | ⟨j, e1, e2, e3⟩
                · exact Or.inl ⟨e1, afd_none hdk kl (fun j hj => e2 j (by omega))⟩
                · exact Or.inr ⟨j, by omega, e2, afd_hit hdk (by omega) e3⟩
              · exact absurd (nI_le (by omega) (by omega)) c_48
            | succ m2 ih2 =>
              intro i u hm2 hu
              obtain ⟨hm0, g12, g13, g14, g15, g16, g17, g18, g19, g20, g21, g22⟩ := id hq3
              have g0 := hm0.1
              have gk := hm0.2.1
              obtain ⟨a1, a2, a3, a4, a5, a6, a7, a8, a9, a10, a11⟩ := id hs3
              refine o_iload hC dX8_makeMinus_40 (by rfl) ?_
              refine o_aload_n hC dX8_makeMinus_42 (by rfl) ?_
              refine o_getf hC (fX8_46 hC rfl) dX8_makeMinus_43 (by repeat (first | with_reducible assumption | (rw [rl_u_s]; done) | (rw [rl_u_s]; rfl) | rw [rl_u_n (by first | with_reducible assumption | omega)])) (by first | rfl | with_reducible assumption) ?_
              refine o_iload_n hC dX8_makeMinus_46 (by rfl) ?_
              refine o_ialdN (t0 := 0) (k := d) hC rfl dX8_makeMinus_47 (by repeat (first | with_reducible assumption | (rw [rl_u_s]; done) | (rw [rl_u_s]; rfl) | rw [rl_u_n (by first | with_reducible assumption | omega)])) (by omega) (by decide) ?_
              rw [hTd.1]
              refine o_icmp_ge (tgt := 76) hC dX8_makeMinus_48 (by decide) (fun c_48 => ?_) (fun c_48 => ?_)
              · exact absurd c_48 (nI_ge (by omega) (by omega))
              · refine o_aload_n hC dX8_makeMinus_51 (by rfl) ?_
                refine o_iload_n hC dX8_makeMinus_52 (by rfl) ?_
                refine o_iload hC dX8_makeMinus_53 (by rfl) ?_
                refine o_callV2 hC rl_BW_good rl_Ns_nw (by exact hB.2.2.2.2.2) YX8_against IX8_against VX8_against (mX8_141 hC) (by rw [hB.1]; exact cf_X8_against l D ids H0 _ _ m T _ _ _ S d i wd hq3.rf hs3 (by omega) (by omega) hwd hwd6) (by exact hq3.rf.1.1) rfl rfl (Nat.le_of_ble_eq_true rfl) (by rw [hB.2.1]; first | exact Nat.le_of_ble_eq_true rfl | (dsimp only; omega)) (by rw [hB.2.1]; first | exact Nat.le_of_ble_eq_true rfl | (dsimp only; omega)) (by rw [hB.2.1]; first | exact Nat.le_of_ble_eq_true rfl | (dsimp only; omega)) (by rw [hB.2.1]; first | exact Nat.le_of_ble_eq_true rfl | (dsimp only; omega)) dX8_makeMinus_55 (fun v h_55 n_55 p_55 => ?_)
                obtain ⟨rfl, rfl, rfl⟩ := p_55
                try dsimp only [Option.toList, List.cons_append, List.nil_append]
                refine o_if_ne (tgt := 66) hC dX8_makeMinus_58 (by decide) (fun c_58 => ?_) (fun c_58 => ?_)
                · refine o_iload hC dX8_makeMinus_66 (by rfl) ?_
                  refine o_istore hC dX8_makeMinus_68 (Nat.le_of_ble_eq_true rfl) ?_
                  refine o_iinc hC dX8_makeMinus_70 (by rfl) (rl_inc _) (Nat.le_of_ble_eq_true rfl) ?_
                  refine o_goto (tgt := 40) hC dX8_makeMinus_73 (by decide) ?_
                  refine ih2 (i + 1) _ (by omega) ?_
                  rcases hu with ⟨e1, e2⟩ | ⟨j, e1, e2, e3⟩
                  · refine Or.inl ⟨e1, fun j hj => ?_⟩
                    by_cases ej : j = i
                    · subst ej
                      exact fun e => c_58 ((emag j (by omega)).mpr e)
                    · exact e2 j (by omega)
                  · exact Or.inr ⟨j, by omega, e2, e3⟩
                · refine o_iload hC dX8_makeMinus_61 (by rfl) ?_
                  refine o_goto (tgt := 68) hC dX8_makeMinus_63 (by decide) ?_
                  refine o_istore hC dX8_makeMinus_68 (Nat.le_of_ble_eq_true rfl) ?_
                  refine o_iinc hC dX8_makeMinus_70 (by rfl) (rl_inc _) (Nat.le_of_ble_eq_true rfl) ?_
                  refine o_goto (tgt := 40) hC dX8_makeMinus_73 (by decide) ?_
                  refine ih2 (i + 1) _ (by omega) (Or.inr ⟨i, by omega, rfl, (emag i (by omega)).mp ?_⟩)
                  first | exact c_58 | exact Classical.not_not.mp c_58
          exact loopK td.length 0 _ (by omega) (Or.inl ⟨rfl, fun j hj => absurd hj (by omega)⟩)
  show rl_G X (rl_e D ids H0) 0 [some (.ref m), some (.int (nI a)), some (.int (nI b)), some (.int (nI d)), none, none, none] [] h n 0 0
  refine o_iconst (v := nI 0) hC dX8_makeMinus_0 (by decide +kernel) ?_
  refine o_istore hC dX8_makeMinus_1 (Nat.le_of_ble_eq_true rfl) ?_
  exact loop tb.length 0 _ _ _ A r0 _ _ (by omega) hq mop.rf hr0 rfl
end
section
/-! THE MODEL, functionally: makeGroup, makeFold -/
/-- a group of the model: where its TUPLES are -/
def mgr (A : md_D) (tb g : List arow) : Prop := ∀ j : Nat, j < g.length → j < 4 → ∃ i : Nat, i < tb.length ∧ A.2.2.2.2.2.2.2.2.2.1 j = nI i ∧ ark tb i = ark g j
theorem ffr_all (tb : List arow) (c t : Nat) : ∀ (m u : Nat), ffr tb c t m u = true ↔ ∀ q : Nat, u ≤ q → q < u + m → ¬ acg (ark tb q) c = acg (ark tb t) c
  | 0, u => ⟨fun _ q h1 h2 => by omega, fun _ => rfl⟩
  | m + 1, u => by
    unfold ffr
    by_cases e : acg (ark tb u) c = acg (ark tb t) c
    · rw [if_pos e]
      exact ⟨fun h => (by cases h), fun h => absurd e (h u (Nat.le_refl _) (by omega))⟩
    · rw [if_neg e, ffr_all tb c t m (u + 1)]
      refine ⟨fun h q h1 h2 => ?_, fun h q h1 h2 => h q (by omega) (by omega)⟩
      by_cases e2 : q = u
      · rw [e2]
        exact e
      · exact h q (by omega) (by omega)
theorem fgp_all {tb : List arow} {c t : Nat} (ht : t ≤ tb.length) (h : ffr tb c t t 0 = true) : tb.filter (fpr tb c t) = fgp tb c t := by
  have e : tb.filter (fpr tb c t) = (tb.take t).filter (fpr tb c t) ++ (tb.drop t).filter (fpr tb c t) := by
    rw [← List.filter_append, List.take_append_drop]
  rw [e, List.filter_eq_nil_iff.mpr, List.nil_append]
  intro r hr
  obtain ⟨i, hi, rfl⟩ := List.getElem_of_mem hr
  rw [List.length_take] at hi
  rw [List.getElem_take, ← ark_at (show i < tb.length by omega)]
  exact fun q => (ffr_all tb c t t 0).mp h i (Nat.zero_le _) (by omega) (of_decide_eq_true q)
theorem take_s {tb : List arow} {u : Nat} (h : u < tb.length) : tb.take (u + 1) = tb.take u ++ [ark tb u] := by
  rw [ark_at h, List.take_add_one, List.getElem?_eq_getElem h]
  rfl

set_option maxHeartbeats 4000000 in
set_option maxRecDepth 100000 in
theorem cf_X8_makeGroup (l : Launch) (D : va_G) (ids : Nat → ClassId) (H0 : Heap) (h : rl_H) (n : Nat) (m : Nat) (T : md_T) (fu : Int32) (k : Nat) (A : md_D) (S : md_A) (a b w wb ca cb kd : Nat) (tb tab g : List arow) (hq : mf ids h h m T fu k A) (hs : md_sa ids h m S) (ha : a < 16) (hb : b < 16) (hba : b ≠ a) (hw : S.2.2.2.2.2.2.2.2.2.2 a = nI w) (hw2 : w = 2) (hwb : S.2.2.2.2.2.2.2.2.2.2 b = nI wb) (hwb6 : wb ≤ 6) (hbt : mtb A b wb tb) (hbk : aok wb tb) (hat : mtb A a w tab) (hok : aok w tab) (hf0 : fu = nI 0) (hnA : S.2.2.2.2.2.2.1 a = nI ca) (hca : ca < wb) (hnB : S.2.2.2.2.2.2.2.1 a = nI cb) (hcb : cb < wb) (hnC : S.2.2.2.2.2.2.2.2.1 a = nI kd) (hkd3 : kd ≤ 3) (hk4 : g.length ≤ 4) (hgr : mgr A tb g) : rl_Met l (rl_e D ids H0) rl_BW rl_Ns yX8_makeGroup cX8_makeGroup 12 none ({ frames := 4, cells := 0, slots := 0, locals := 98 }) [.ref m, .int (nI a), .int (nI b), .int (nI g.length)] h n (fun v h' n' => ∃ (fu' : Int32) (k' : Nat) (A' : md_D), v = none ∧ n' = n ∧ mf ids h h' m T fu' k' A' ∧ mop A A' a ∧ mst A' a w fu' ((fnn g).bind (fun ns => aall tab (fcs ca cb kd g ns 1 (2 ^ g.length - 1))))) := by
  have tl80 := hbk.2.2
  have hw6 : w ≤ 6 := by omega
  refine rl_Met.of (by decide +kernel) (Nat.le_of_ble_eq_true rfl) ?_
  intro X hC hB
  have loop2 : ∀ (ns : List (List tT)), fnn g = some ns → ∀ (mm s : Nat) (h1 : rl_H) (f1 : Int32) (k1 : Nat) (A1 : md_D) (r1 : Option (List arow)) (o5 o6 o7 o8 o9 o10 o11 : Option Value), s + mm = 2 ^ g.length → 1 ≤ s → mf ids h h1 m T f1 k1 A1 → mop A A1 a → mst A1 a w f1 r1 → (1 < g.length → ∀ i : Nat, i < g.length → mws A1 (1362 + i) (ns.getD i [])) → mgr A1 tb g → aall tab (fcs ca cb kd g ns 1 (2 ^ g.length - 1)) = r1.bind (fun x => aall x (fcs ca cb kd g ns s mm)) → rl_G X (rl_e D ids H0) 52 [some (.ref m), some (.int (nI a)), some (.int (nI b)), some (.int (nI g.length)), some (.int (nI s)), o5, o6, o7, o8, o9, o10, o11] [] h1 n 0 0 := by
    intro ns hns mm
    induction mm with
    | zero =>
      intro s h1 f1 k1 A1 r1 o5 o6 o7 o8 o9 o10 o11 hm hs1 hq1 hop hst hTW hG he
      obtain ⟨pw1, pw2, pw3⟩ := pw_16 hk4
      refine o_iload hC dX8_makeGroup_52 (by rfl) ?_
      refine o_iconst (v := nI 1) hC dX8_makeGroup_54 (by decide +kernel) ?_
      refine o_iload_n hC dX8_makeGroup_55 (by rfl) ?_
      refine o_ishl hC dX8_makeGroup_56 ?_
      rw [sh_1k hk4]
      refine o_icmp_ge (tgt := 328) hC dX8_makeGroup_57 (by decide) (fun c_57 => ?_) (fun c_57 => ?_)
      · refine o_vret hC hB dX8_makeGroup_328 (Nat.le_of_ble_eq_true rfl) (Nat.le_of_ble_eq_true rfl) ?_
        refine ⟨f1, k1, A1, rfl, rfl, hq1, hop, ?_⟩
        rw [hns]
        show mst A1 a w f1 (aall tab _)
        rw [he]
        rw [show r1.bind (fun x => aall x (fcs ca cb kd g ns s 0)) = r1 by cases r1 <;> rfl]
        exact hst
      · exact absurd (nI_le (by omega) (by omega)) c_57
    | succ mm ih =>
      intro s h1 f1 k1 A1 r1 o5 o6 o7 o8 o9 o10 o11 hm hs1 hq1 hop hst hTW hG he
      rw [fcs_s] at he
      obtain ⟨pw1, pw2, pw3⟩ := pw_16 hk4
      have hg1 : 1 ≤ g.length := pw3 (by omega)
      have hTb0 := hop.tb hwb6 hbk.2.2 (by omega) hbt hba
      obtain ⟨hm0, g12, g13, g14, g15, g16, g17, g18, g19, g20, g21, g22⟩ := id hq1
      have g0 := hm0.1
      have gk := hm0.2.1
      refine o_iload hC dX8_makeGroup_52 (by rfl) ?_
      refine o_iconst (v := nI 1) hC dX8_makeGroup_54 (by decide +kernel) ?_
      refine o_iload_n hC dX8_makeGroup_55 (by rfl) ?_
      refine o_ishl hC dX8_makeGroup_56 ?_
      rw [sh_1k hk4]
      refine o_icmp_ge (tgt := 328) hC dX8_makeGroup_57 (by decide) (fun c_57 => ?_) (fun c_57 => ?_)
      · refine o_vret hC hB dX8_makeGroup_328 (Nat.le_of_ble_eq_true rfl) (Nat.le_of_ble_eq_true rfl) ?_
        exact absurd c_57 (nI_ge (by omega) (by omega))
      · refine o_aload_n hC dX8_makeGroup_60 (by rfl) ?_
        refine o_getf hC (fX8_91 hC rfl) dX8_makeGroup_61 (by repeat (first | with_reducible assumption | (rw [rl_u_s]; done) | (rw [rl_u_s]; rfl) | rw [rl_u_n (by first | with_reducible assumption | omega)])) (by first | rfl | with_reducible assumption) ?_
        refine o_if_ne (tgt := 328) hC dX8_makeGroup_64 (by decide) (fun c_64 => ?_) (fun c_64 => ?_)
        · refine o_vret hC hB dX8_makeGroup_328 (Nat.le_of_ble_eq_true rfl) (Nat.le_of_ble_eq_true rfl) ?_
          rcases hst with ⟨tab1, rfl, rfl, ht1, hk1⟩ | ⟨rfl, rfl⟩
          · exact absurd rfl c_64
          · refine ⟨_, k1, A1, rfl, rfl, hq1, hop, ?_⟩
            rw [hns]
            show mst A1 a w _ (aall tab _)
            rw [he]
            exact Or.inr ⟨rfl, rfl⟩
        · refine o_aload_n hC dX8_makeGroup_67 (by rfl) ?_
          refine o_sipush (v := nI 1360) hC dX8_makeGroup_68 (by decide +kernel) ?_
          refine o_callV1 hC rl_BW_good rl_Ns_nw (by exact hB.2.2.2.2.2) YX8_truth IX8_truth VX8_truth (mX8_103 hC) (by rw [hB.1]; exact cf_X8_truth l D ids H0 _ _ m T _ _ _ 1360 hq1.rf (by decide)) (by exact hq1.1.1) rfl rfl (Nat.le_of_ble_eq_true rfl) (by rw [hB.2.1]; first | exact Nat.le_of_ble_eq_true rfl | (dsimp only; omega)) (by rw [hB.2.1]; first | exact Nat.le_of_ble_eq_true rfl | (dsimp only; omega)) (by rw [hB.2.1]; first | exact Nat.le_of_ble_eq_true rfl | (dsimp only; omega)) (by rw [hB.2.1]; first | exact Nat.le_of_ble_eq_true rfl | (dsimp only; omega)) dX8_makeGroup_71 (fun v h_71 n_71 p_71 => ?_)
          obtain ⟨rfl, rfl, q71⟩ := p_71
          try dsimp only [Option.toList, List.cons_append, List.nil_append]
          refine o_iconst (v := nI 0) hC dX8_makeGroup_74 (by decide +kernel) ?_
          refine o_istore hC dX8_makeGroup_75 (Nat.le_of_ble_eq_true rfl) ?_
          refine o_iconst (v := nI 0) hC dX8_makeGroup_77 (by decide +kernel) ?_
          refine o_istore hC dX8_makeGroup_78 (Nat.le_of_ble_eq_true rfl) ?_
          refine o_iconst (v := nI 0) hC dX8_makeGroup_80 (by decide +kernel) ?_
          refine o_istore hC dX8_makeGroup_81 (Nat.le_of_ble_eq_true rfl) ?_
          refine o_iconst (v := nI 0) hC dX8_makeGroup_83 (by decide +kernel) ?_
          refine o_istore hC dX8_makeGroup_84 (Nat.le_of_ble_eq_true rfl) ?_
          refine o_iconst (v := nI 0) hC dX8_makeGroup_86 (by decide +kernel) ?_
          refine o_istore hC dX8_makeGroup_87 (Nat.le_of_ble_eq_true rfl) ?_
          rcases hst with ⟨tab1, rfl, rfl, ht1, hk1⟩ | ⟨rfl, rfl⟩
          rotate_left
          · exact absurd c_64 (by decide +kernel)
          have fin : ∀ (h2 : rl_H) (f2 : Int32) (k2 : Nat) (A2 : md_D) (st : fSt) (o9 o10 o11 : Option Value), mf ids h h2 m T f2 k2 A2 → mro A1 A2 1360 → ((f2 = nI 0 ∧ ∃ W : List tT, mws A2 1360 W ∧ wok W ∧ fwf s g ns g.length 0 [(0, 0)] = some W ∧ ffn s cb g g.length 0 (0, 0, 0, 0) = st) ∨ (f2 = nI 1 ∧ fwf s g ns g.length 0 [(0, 0)] = none)) → rl_G X (rl_e D ids H0) 239 [some (.ref m), some (.int (nI a)), some (.int (nI b)), some (.int (nI g.length)), some (.int (nI s)), some (.int (nI st.1)), some (.int st.2.1), some (.int st.2.2.1), some (.int st.2.2.2), o9, o10, o11] [] h2 n_71 0 0 := by
            intro h2 f2 k2 A2 st o9 o10 o11 hq2 hro hst2
            have hop2 : mop A A2 a := hop.tr (hro.op (by omega))
            have ht2 := ht1.rw hw6 hk1.2.2 (by omega) hro (by omega)
            have hTb := hop2.tb hwb6 hbk.2.2 (by omega) hbt hba
            have hG2 : mgr A2 tb g := fun j h1 h2 => by
              obtain ⟨i, e1, e2, e3⟩ := hG j h1 h2
              exact ⟨i, e1, (congrFun (congrArg (fun z => z.2.1) hro.2.2.2.2.2) j).trans e2, e3⟩
            have hTW2 : (1 < g.length → ∀ i : Nat, i < g.length → mws A2 (1362 + i) (ns.getD i [])) := fun q i hi => hro.ws (by omega) (hTW q i hi)
            rcases hst2 with ⟨rfl, W, z1, z2, z3, z4⟩ | ⟨rfl, z3⟩
            · have hs1 := hq2.1.sa hs
              obtain ⟨hm0, g12, g13, g14, g15, g16, g17, g18, g19, g20, g21, g22⟩ := id hq2
              have g0 := hm0.1
              have gk := hm0.2.1
              obtain ⟨a1, a2, a3, a4, a5, a6, a7, a8, a9, a10, a11⟩ := id hs1
              refine o_aload_n hC dX8_makeGroup_239 (by rfl) ?_
              refine o_getf hC (fX8_69 hC rfl) dX8_makeGroup_240 (by repeat (first | with_reducible assumption | (rw [rl_u_s]; done) | (rw [rl_u_s]; rfl) | rw [rl_u_n (by first | with_reducible assumption | omega)])) (by first | rfl | with_reducible assumption) ?_
              refine o_iconst (v := nI 0) hC dX8_makeGroup_243 (by decide +kernel) ?_
              refine o_aload_n hC dX8_makeGroup_244 (by rfl) ?_
              refine o_iload_n hC dX8_makeGroup_245 (by rfl) ?_
              refine o_aload_n hC dX8_makeGroup_246 (by rfl) ?_
              refine o_getf hC (fX8_72 hC rfl) dX8_makeGroup_247 (by repeat (first | with_reducible assumption | (rw [rl_u_s]; done) | (rw [rl_u_s]; rfl) | rw [rl_u_n (by first | with_reducible assumption | omega)])) (by first | rfl | with_reducible assumption) ?_
              refine o_iconst (v := nI 0) hC dX8_makeGroup_250 (by decide +kernel) ?_
              obtain ⟨t251, ht251, et251, ea251⟩ := hG2 0 (by omega) (by omega)
              refine o_ialdN (t0 := 0) (k := 0) hC rfl dX8_makeGroup_251 (by repeat (first | with_reducible assumption | (rw [rl_u_s]; done) | (rw [rl_u_s]; rfl) | rw [rl_u_n (by first | with_reducible assumption | omega)])) (by omega) (by decide) ?_
              rw [et251]
              refine o_aload_n hC dX8_makeGroup_252 (by rfl) ?_
              refine o_getf hC (fX8_28 hC rfl) dX8_makeGroup_253 (by repeat (first | with_reducible assumption | (rw [rl_u_s]; done) | (rw [rl_u_s]; rfl) | rw [rl_u_n (by first | with_reducible assumption | omega)])) (by first | rfl | with_reducible assumption) ?_
              refine o_iload_n hC dX8_makeGroup_256 (by rfl) ?_
              refine o_ialdN (t0 := 0) (k := a) hC rfl dX8_makeGroup_257 (by repeat (first | with_reducible assumption | (rw [rl_u_s]; done) | (rw [rl_u_s]; rfl) | rw [rl_u_n (by first | with_reducible assumption | omega)])) (by omega) (by decide) ?_
              rw [hnA]
              refine o_callV3 hC rl_BW_good rl_Ns_nw (by exact hB.2.2.2.2.2) YX8_cellAt IX8_cellAt VX8_cellAt (mX8_138 hC) (by rw [hB.1]; exact cf_X8_cellAt l D ids H0 _ _ m T _ _ _ b t251 ca hq2.rf (by omega)) (by exact hq2.rf.1.1) rfl rfl (Nat.le_of_ble_eq_true rfl) (by rw [hB.2.1]; first | exact Nat.le_of_ble_eq_true rfl | (dsimp only; omega)) (by rw [hB.2.1]; first | exact Nat.le_of_ble_eq_true rfl | (dsimp only; omega)) (by rw [hB.2.1]; first | exact Nat.le_of_ble_eq_true rfl | (dsimp only; omega)) (by rw [hB.2.1]; first | exact Nat.le_of_ble_eq_true rfl | (dsimp only; omega)) dX8_makeGroup_258 (fun v h_258 n_258 p_258 => ?_)
              obtain ⟨rfl, rfl, rfl⟩ := p_258
              try dsimp only [Option.toList, List.cons_append, List.nil_append]
              refine o_iastN (t0 := 0) hC rfl dX8_makeGroup_261 (by repeat (first | with_reducible assumption | (rw [rl_u_s]; done) | (rw [rl_u_s]; rfl) | rw [rl_u_n (by first | with_reducible assumption | omega)])) (by omega) (by decide) ?_
              refine o_aload_n hC dX8_makeGroup_262 (by rfl) ?_
              refine o_getf hC (fX8_69 hC rfl) dX8_makeGroup_263 (by repeat (first | with_reducible assumption | (rw [rl_u_s]; done) | (rw [rl_u_s]; rfl) | rw [rl_u_n (by first | with_reducible assumption | omega)])) (by first | rfl | with_reducible assumption) ?_
              refine o_iconst (v := nI 1) hC dX8_makeGroup_266 (by decide +kernel) ?_
              refine o_aload_n hC dX8_makeGroup_267 (by rfl) ?_
              refine o_getf hC (fX8_34 hC rfl) dX8_makeGroup_268 (by repeat (first | with_reducible assumption | (rw [rl_u_s]; done) | (rw [rl_u_s]; rfl) | rw [rl_u_n (by first | with_reducible assumption | omega)])) (by first | rfl | with_reducible assumption) ?_
              refine o_iload_n hC dX8_makeGroup_271 (by rfl) ?_
              refine o_ialdN (t0 := 0) hC rfl dX8_makeGroup_272 (by repeat (first | with_reducible assumption | (rw [rl_u_s]; done) | (rw [rl_u_s]; rfl) | rw [rl_u_n (by first | with_reducible assumption | omega)])) (by omega) (by decide) ?_
              refine o_if_ne (tgt := 281) hC dX8_makeGroup_273 (by decide) (fun c_273 => ?_) (fun c_273 => ?_)
              · refine o_aload_n hC dX8_makeGroup_281 (by rfl) ?_
                refine o_getf hC (fX8_34 hC rfl) dX8_makeGroup_282 (by repeat (first | with_reducible assumption | (rw [rl_u_s]; done) | (rw [rl_u_s]; rfl) | rw [rl_u_n (by first | with_reducible assumption | omega)])) (by first | rfl | with_reducible assumption) ?_
                refine o_iload_n hC dX8_makeGroup_285 (by rfl) ?_
                refine o_ialdN (t0 := 0) hC rfl dX8_makeGroup_286 (by repeat (first | with_reducible assumption | (rw [rl_u_s]; done) | (rw [rl_u_s]; rfl) | rw [rl_u_n (by first | with_reducible assumption | omega)])) (by omega) (by decide) ?_
                refine o_iconst (v := nI 1) hC dX8_makeGroup_287 (by decide +kernel) ?_
                refine o_icmp_ne (tgt := 296) hC dX8_makeGroup_288 (by decide) (fun c_288 => ?_) (fun c_288 => ?_)
                · refine o_aload_n hC dX8_makeGroup_296 (by rfl) ?_
                  refine o_getf hC (fX8_34 hC rfl) dX8_makeGroup_297 (by repeat (first | with_reducible assumption | (rw [rl_u_s]; done) | (rw [rl_u_s]; rfl) | rw [rl_u_n (by first | with_reducible assumption | omega)])) (by first | rfl | with_reducible assumption) ?_
                  refine o_iload_n hC dX8_makeGroup_300 (by rfl) ?_
                  refine o_ialdN (t0 := 0) hC rfl dX8_makeGroup_301 (by repeat (first | with_reducible assumption | (rw [rl_u_s]; done) | (rw [rl_u_s]; rfl) | rw [rl_u_n (by first | with_reducible assumption | omega)])) (by omega) (by decide) ?_
                  refine o_iconst (v := nI 2) hC dX8_makeGroup_302 (by decide +kernel) ?_
                  refine o_icmp_ne (tgt := 311) hC dX8_makeGroup_303 (by decide) (fun c_303 => ?_) (fun c_303 => ?_)
                  · refine o_iload hC dX8_makeGroup_311 (by rfl) ?_
                    refine o_iastN (t0 := 0) hC rfl dX8_makeGroup_313 (by repeat (first | with_reducible assumption | (rw [rl_u_s]; done) | (rw [rl_u_s]; rfl) | rw [rl_u_n (by first | with_reducible assumption | omega)])) (by omega) (by decide) ?_
                    have hkd : kd ≠ 0 ∧ kd ≠ 1 ∧ kd ≠ 2 := ⟨fun e => c_273 (by rw [hnC, e]; rfl), fun e => c_288 (by rw [hnC, e]), fun e => c_303 (by rw [hnC, e])⟩
                    have hq5 : mf ids h _ m T (nI 0) k2 (A2.1, A2.2.1, A2.2.2.1, A2.2.2.2.1, A2.2.2.2.2.1, A2.2.2.2.2.2.1, A2.2.2.2.2.2.2.1, A2.2.2.2.2.2.2.2.1, upd (upd A2.2.2.2.2.2.2.2.2.1 0 (mcl A2 b t251 ca)) 1 st.2.2.2, A2.2.2.2.2.2.2.2.2.2.1, A2.2.2.2.2.2.2.2.2.2.2) := (hq2.s20 (upd A2.2.2.2.2.2.2.2.2.1 0 (mcl A2 b t251 ca))).s20 (upd (upd A2.2.2.2.2.2.2.2.2.1 0 (mcl A2 b t251 ca)) 1 st.2.2.2)
                    have hs5 := hq5.1.sa hs
                    refine o_aload_n hC dX8_makeGroup_314 (by rfl) ?_
                    refine o_iload_n hC dX8_makeGroup_315 (by rfl) ?_
                    refine o_sipush (v := nI 1360) hC dX8_makeGroup_316 (by decide +kernel) ?_
                    refine o_callV2 hC rl_BW_good rl_Ns_nw (by exact hB.2.2.2.2.2) YX8_comes IX8_comes VX8_comes (mX8_178 hC) (by rw [hB.1]; exact cf_X8_comes l D ids H0 _ _ m T _ _ _ S a 1360 w _ _ hq5.rf hs5 (by omega) (by omega) (by omega) hw hw6 rfl (show mtb (A2.1, A2.2.1, A2.2.2.1, A2.2.2.2.1, A2.2.2.2.2.1, A2.2.2.2.2.2.1, A2.2.2.2.2.2.2.1, A2.2.2.2.2.2.2.2.1, upd (upd A2.2.2.2.2.2.2.2.2.1 0 (mcl A2 b t251 ca)) 1 st.2.2.2, A2.2.2.2.2.2.2.2.2.2.1, A2.2.2.2.2.2.2.2.2.2.2) a w tab1 from ht2) hk1 (show mws (A2.1, A2.2.1, A2.2.2.1, A2.2.2.2.1, A2.2.2.2.2.1, A2.2.2.2.2.2.1, A2.2.2.2.2.2.2.1, A2.2.2.2.2.2.2.2.1, upd (upd A2.2.2.2.2.2.2.2.2.1 0 (mcl A2 b t251 ca)) 1 st.2.2.2, A2.2.2.2.2.2.2.2.2.2.1, A2.2.2.2.2.2.2.2.2.2.2) 1360 W from z1) z2) (by exact hq5.1.1) rfl rfl (Nat.le_of_ble_eq_true rfl) (by rw [hB.2.1]; first | exact Nat.le_of_ble_eq_true rfl | (dsimp only; omega)) (by rw [hB.2.1]; first | exact Nat.le_of_ble_eq_true rfl | (dsimp only; omega)) (by rw [hB.2.1]; first | exact Nat.le_of_ble_eq_true rfl | (dsimp only; omega)) (by rw [hB.2.1]; first | exact Nat.le_of_ble_eq_true rfl | (dsimp only; omega)) dX8_makeGroup_319 (fun v h_319 n_319 p_319 => ?_)
                    obtain ⟨f319, k319, A4, rfl, rfl, q319, r319, u319⟩ := p_319
                    try dsimp only [Option.toList, List.cons_append, List.nil_append]
                    refine o_iinc hC dX8_makeGroup_322 (by rfl) (rl_inc _) (Nat.le_of_ble_eq_true rfl) ?_
                    refine o_goto (tgt := 52) hC dX8_makeGroup_325 (by decide) ?_
                    have ekey : rcl (upd (upd A2.2.2.2.2.2.2.2.2.1 0 (mcl A2 b t251 ca)) 1 st.2.2.2) w = fky s ca cb kd g := by
                      rw [hw2]
                      show [upd (upd A2.2.2.2.2.2.2.2.2.1 0 (mcl A2 b t251 ca)) 1 st.2.2.2 0, upd (upd A2.2.2.2.2.2.2.2.2.1 0 (mcl A2 b t251 ca)) 1 st.2.2.2 1] = _
                      rw [upd_lt (show 0 < 1 by decide), upd_at, upd_at, (hTb.2 t251 ht251).cg hca, ea251]
                      unfold fky
                      show [_, st.2.2.2] = [_, fpick kd _]
                      rw [z4]
                      unfold fpick
                      rw [if_neg hkd.1, if_neg hkd.2.1, if_neg hkd.2.2]
                    have u9 : (∃ tab' : List arow, aput tab1 (rcl (upd (upd A2.2.2.2.2.2.2.2.2.1 0 (mcl A2 b t251 ca)) 1 st.2.2.2) w) W = some tab' ∧ f319 = nI 0 ∧ mtb A4 a w tab') ∨ (aput tab1 (rcl (upd (upd A2.2.2.2.2.2.2.2.2.1 0 (mcl A2 b t251 ca)) 1 st.2.2.2) w) W = none ∧ f319 = nI 1) := u319
                    rw [ekey] at u9
                    have hT4 : ∀ i : Nat, 1362 ≤ i → i < 1368 → ∀ Z : List tT, mws A2 i Z → mws A4 i Z := fun i h1 h2 Z H => mto.ws (A := (A2.1, A2.2.1, A2.2.2.1, A2.2.2.2.1, A2.2.2.2.2.1, A2.2.2.2.2.2.1, A2.2.2.2.2.2.2.1, A2.2.2.2.2.2.2.2.1, upd (upd A2.2.2.2.2.2.2.2.2.1 0 (mcl A2 b t251 ca)) 1 st.2.2.2, A2.2.2.2.2.2.2.2.2.2.1, A2.2.2.2.2.2.2.2.2.2.2)) r319 (by omega) H
                    refine ih (s + 1) _ f319 k319 A4 (aput tab1 (fky s ca cb kd g) W) _ _ _ _ _ _ _ (by omega) (by omega) (hq5.tr q319) (hop2.tr (mop.tr ⟨fun _ _ => rfl, fun _ _ => rfl, rfl, fun _ _ _ => rfl, fun _ _ _ => ⟨rfl, rfl⟩, rfl⟩ r319.op)) ?_ (fun q i hi => hT4 _ (by omega) (by omega) _ (hTW2 q i hi)) ?_ ?_
                    · rcases u9 with ⟨tab', h1, h2, h3⟩ | ⟨h1, h2⟩
                      · exact Or.inl ⟨tab', h1, h2, h3, aput_ok hk1 (by rw [← ekey]; exact rsg_len _ 0 w) z2 h1⟩
                      · exact Or.inr ⟨h1, h2⟩
                    · intro j h1 h2
                      obtain ⟨i, e1, e2, e3⟩ := hG2 j h1 h2
                      exact ⟨i, e1, (congrFun (congrArg (fun z => z.2.1) r319.2.2.2.2.2) j).trans e2, e3⟩
                    · rw [he]
                      show ((fwf s g ns g.length 0 [(0, 0)]).bind (aput tab1 _)).bind _ = _
                      rw [z3]
                      rfl
                  · refine o_iload hC dX8_makeGroup_306 (by rfl) ?_
                    refine o_goto (tgt := 313) hC dX8_makeGroup_308 (by decide) ?_
                    refine o_iastN (t0 := 0) hC rfl dX8_makeGroup_313 (by repeat (first | with_reducible assumption | (rw [rl_u_s]; done) | (rw [rl_u_s]; rfl) | rw [rl_u_n (by first | with_reducible assumption | omega)])) (by omega) (by decide) ?_
                    have hkd : kd = 2 := nI_inj2 (by omega) (by omega) (hnC.symm.trans (by first | exact c_303 | exact Classical.not_not.mp c_303))
                    have hq5 : mf ids h _ m T (nI 0) k2 (A2.1, A2.2.1, A2.2.2.1, A2.2.2.2.1, A2.2.2.2.2.1, A2.2.2.2.2.2.1, A2.2.2.2.2.2.2.1, A2.2.2.2.2.2.2.2.1, upd (upd A2.2.2.2.2.2.2.2.2.1 0 (mcl A2 b t251 ca)) 1 st.2.2.1, A2.2.2.2.2.2.2.2.2.2.1, A2.2.2.2.2.2.2.2.2.2.2) := (hq2.s20 (upd A2.2.2.2.2.2.2.2.2.1 0 (mcl A2 b t251 ca))).s20 (upd (upd A2.2.2.2.2.2.2.2.2.1 0 (mcl A2 b t251 ca)) 1 st.2.2.1)
                    have hs5 := hq5.1.sa hs
                    refine o_aload_n hC dX8_makeGroup_314 (by rfl) ?_
                    refine o_iload_n hC dX8_makeGroup_315 (by rfl) ?_
                    refine o_sipush (v := nI 1360) hC dX8_makeGroup_316 (by decide +kernel) ?_
                    refine o_callV2 hC rl_BW_good rl_Ns_nw (by exact hB.2.2.2.2.2) YX8_comes IX8_comes VX8_comes (mX8_178 hC) (by rw [hB.1]; exact cf_X8_comes l D ids H0 _ _ m T _ _ _ S a 1360 w _ _ hq5.rf hs5 (by omega) (by omega) (by omega) hw hw6 rfl (show mtb (A2.1, A2.2.1, A2.2.2.1, A2.2.2.2.1, A2.2.2.2.2.1, A2.2.2.2.2.2.1, A2.2.2.2.2.2.2.1, A2.2.2.2.2.2.2.2.1, upd (upd A2.2.2.2.2.2.2.2.2.1 0 (mcl A2 b t251 ca)) 1 st.2.2.1, A2.2.2.2.2.2.2.2.2.2.1, A2.2.2.2.2.2.2.2.2.2.2) a w tab1 from ht2) hk1 (show mws (A2.1, A2.2.1, A2.2.2.1, A2.2.2.2.1, A2.2.2.2.2.1, A2.2.2.2.2.2.1, A2.2.2.2.2.2.2.1, A2.2.2.2.2.2.2.2.1, upd (upd A2.2.2.2.2.2.2.2.2.1 0 (mcl A2 b t251 ca)) 1 st.2.2.1, A2.2.2.2.2.2.2.2.2.2.1, A2.2.2.2.2.2.2.2.2.2.2) 1360 W from z1) z2) (by exact hq5.1.1) rfl rfl (Nat.le_of_ble_eq_true rfl) (by rw [hB.2.1]; first | exact Nat.le_of_ble_eq_true rfl | (dsimp only; omega)) (by rw [hB.2.1]; first | exact Nat.le_of_ble_eq_true rfl | (dsimp only; omega)) (by rw [hB.2.1]; first | exact Nat.le_of_ble_eq_true rfl | (dsimp only; omega)) (by rw [hB.2.1]; first | exact Nat.le_of_ble_eq_true rfl | (dsimp only; omega)) dX8_makeGroup_319 (fun v h_319 n_319 p_319 => ?_)
                    obtain ⟨f319, k319, A4, rfl, rfl, q319, r319, u319⟩ := p_319
                    try dsimp only [Option.toList, List.cons_append, List.nil_append]
                    refine o_iinc hC dX8_makeGroup_322 (by rfl) (rl_inc _) (Nat.le_of_ble_eq_true rfl) ?_
                    refine o_goto (tgt := 52) hC dX8_makeGroup_325 (by decide) ?_
                    have ekey : rcl (upd (upd A2.2.2.2.2.2.2.2.2.1 0 (mcl A2 b t251 ca)) 1 st.2.2.1) w = fky s ca cb kd g := by
                      rw [hw2]
                      show [upd (upd A2.2.2.2.2.2.2.2.2.1 0 (mcl A2 b t251 ca)) 1 st.2.2.1 0, upd (upd A2.2.2.2.2.2.2.2.2.1 0 (mcl A2 b t251 ca)) 1 st.2.2.1 1] = _
                      rw [upd_lt (show 0 < 1 by decide), upd_at, upd_at, (hTb.2 t251 ht251).cg hca, ea251]
                      unfold fky
                      show [_, st.2.2.1] = [_, fpick kd _]
                      rw [z4]
                      unfold fpick
                      rw [if_neg (by omega), if_neg (by omega), if_pos hkd]
                    have u9 : (∃ tab' : List arow, aput tab1 (rcl (upd (upd A2.2.2.2.2.2.2.2.2.1 0 (mcl A2 b t251 ca)) 1 st.2.2.1) w) W = some tab' ∧ f319 = nI 0 ∧ mtb A4 a w tab') ∨ (aput tab1 (rcl (upd (upd A2.2.2.2.2.2.2.2.2.1 0 (mcl A2 b t251 ca)) 1 st.2.2.1) w) W = none ∧ f319 = nI 1) := u319
                    rw [ekey] at u9
                    have hT4 : ∀ i : Nat, 1362 ≤ i → i < 1368 → ∀ Z : List tT, mws A2 i Z → mws A4 i Z := fun i h1 h2 Z H => mto.ws (A := (A2.1, A2.2.1, A2.2.2.1, A2.2.2.2.1, A2.2.2.2.2.1, A2.2.2.2.2.2.1, A2.2.2.2.2.2.2.1, A2.2.2.2.2.2.2.2.1, upd (upd A2.2.2.2.2.2.2.2.2.1 0 (mcl A2 b t251 ca)) 1 st.2.2.1, A2.2.2.2.2.2.2.2.2.2.1, A2.2.2.2.2.2.2.2.2.2.2)) r319 (by omega) H
                    refine ih (s + 1) _ f319 k319 A4 (aput tab1 (fky s ca cb kd g) W) _ _ _ _ _ _ _ (by omega) (by omega) (hq5.tr q319) (hop2.tr (mop.tr ⟨fun _ _ => rfl, fun _ _ => rfl, rfl, fun _ _ _ => rfl, fun _ _ _ => ⟨rfl, rfl⟩, rfl⟩ r319.op)) ?_ (fun q i hi => hT4 _ (by omega) (by omega) _ (hTW2 q i hi)) ?_ ?_
                    · rcases u9 with ⟨tab', h1, h2, h3⟩ | ⟨h1, h2⟩
                      · exact Or.inl ⟨tab', h1, h2, h3, aput_ok hk1 (by rw [← ekey]; exact rsg_len _ 0 w) z2 h1⟩
                      · exact Or.inr ⟨h1, h2⟩
                    · intro j h1 h2
                      obtain ⟨i, e1, e2, e3⟩ := hG2 j h1 h2
                      exact ⟨i, e1, (congrFun (congrArg (fun z => z.2.1) r319.2.2.2.2.2) j).trans e2, e3⟩
                    · rw [he]
                      show ((fwf s g ns g.length 0 [(0, 0)]).bind (aput tab1 _)).bind _ = _
                      rw [z3]
                      rfl
                · refine o_iload hC dX8_makeGroup_291 (by rfl) ?_
                  refine o_goto (tgt := 313) hC dX8_makeGroup_293 (by decide) ?_
                  refine o_iastN (t0 := 0) hC rfl dX8_makeGroup_313 (by repeat (first | with_reducible assumption | (rw [rl_u_s]; done) | (rw [rl_u_s]; rfl) | rw [rl_u_n (by first | with_reducible assumption | omega)])) (by omega) (by decide) ?_
                  have hkd : kd = 1 := nI_inj2 (by omega) (by omega) (hnC.symm.trans (by first | exact c_288 | exact Classical.not_not.mp c_288))
                  have hq5 : mf ids h _ m T (nI 0) k2 (A2.1, A2.2.1, A2.2.2.1, A2.2.2.2.1, A2.2.2.2.2.1, A2.2.2.2.2.2.1, A2.2.2.2.2.2.2.1, A2.2.2.2.2.2.2.2.1, upd (upd A2.2.2.2.2.2.2.2.2.1 0 (mcl A2 b t251 ca)) 1 st.2.1, A2.2.2.2.2.2.2.2.2.2.1, A2.2.2.2.2.2.2.2.2.2.2) := (hq2.s20 (upd A2.2.2.2.2.2.2.2.2.1 0 (mcl A2 b t251 ca))).s20 (upd (upd A2.2.2.2.2.2.2.2.2.1 0 (mcl A2 b t251 ca)) 1 st.2.1)
                  have hs5 := hq5.1.sa hs
                  refine o_aload_n hC dX8_makeGroup_314 (by rfl) ?_
                  refine o_iload_n hC dX8_makeGroup_315 (by rfl) ?_
                  refine o_sipush (v := nI 1360) hC dX8_makeGroup_316 (by decide +kernel) ?_
                  refine o_callV2 hC rl_BW_good rl_Ns_nw (by exact hB.2.2.2.2.2) YX8_comes IX8_comes VX8_comes (mX8_178 hC) (by rw [hB.1]; exact cf_X8_comes l D ids H0 _ _ m T _ _ _ S a 1360 w _ _ hq5.rf hs5 (by omega) (by omega) (by omega) hw hw6 rfl (show mtb (A2.1, A2.2.1, A2.2.2.1, A2.2.2.2.1, A2.2.2.2.2.1, A2.2.2.2.2.2.1, A2.2.2.2.2.2.2.1, A2.2.2.2.2.2.2.2.1, upd (upd A2.2.2.2.2.2.2.2.2.1 0 (mcl A2 b t251 ca)) 1 st.2.1, A2.2.2.2.2.2.2.2.2.2.1, A2.2.2.2.2.2.2.2.2.2.2) a w tab1 from ht2) hk1 (show mws (A2.1, A2.2.1, A2.2.2.1, A2.2.2.2.1, A2.2.2.2.2.1, A2.2.2.2.2.2.1, A2.2.2.2.2.2.2.1, A2.2.2.2.2.2.2.2.1, upd (upd A2.2.2.2.2.2.2.2.2.1 0 (mcl A2 b t251 ca)) 1 st.2.1, A2.2.2.2.2.2.2.2.2.2.1, A2.2.2.2.2.2.2.2.2.2.2) 1360 W from z1) z2) (by exact hq5.1.1) rfl rfl (Nat.le_of_ble_eq_true rfl) (by rw [hB.2.1]; first | exact Nat.le_of_ble_eq_true rfl | (dsimp only; omega)) (by rw [hB.2.1]; first | exact Nat.le_of_ble_eq_true rfl | (dsimp only; omega)) (by rw [hB.2.1]; first | exact Nat.le_of_ble_eq_true rfl | (dsimp only; omega)) (by rw [hB.2.1]; first | exact Nat.le_of_ble_eq_true rfl | (dsimp only; omega)) dX8_makeGroup_319 (fun v h_319 n_319 p_319 => ?_)
                  obtain ⟨f319, k319, A4, rfl, rfl, q319, r319, u319⟩ := p_319
                  try dsimp only [Option.toList, List.cons_append, List.nil_append]
                  refine o_iinc hC dX8_makeGroup_322 (by rfl) (rl_inc _) (Nat.le_of_ble_eq_true rfl) ?_
                  refine o_goto (tgt := 52) hC dX8_makeGroup_325 (by decide) ?_
                  have ekey : rcl (upd (upd A2.2.2.2.2.2.2.2.2.1 0 (mcl A2 b t251 ca)) 1 st.2.1) w = fky s ca cb kd g := by
                    rw [hw2]
                    show [upd (upd A2.2.2.2.2.2.2.2.2.1 0 (mcl A2 b t251 ca)) 1 st.2.1 0, upd (upd A2.2.2.2.2.2.2.2.2.1 0 (mcl A2 b t251 ca)) 1 st.2.1 1] = _
                    rw [upd_lt (show 0 < 1 by decide), upd_at, upd_at, (hTb.2 t251 ht251).cg hca, ea251]
                    unfold fky
                    show [_, st.2.1] = [_, fpick kd _]
                    rw [z4]
                    unfold fpick
                    rw [if_neg (by omega), if_pos hkd]
                  have u9 : (∃ tab' : List arow, aput tab1 (rcl (upd (upd A2.2.2.2.2.2.2.2.2.1 0 (mcl A2 b t251 ca)) 1 st.2.1) w) W = some tab' ∧ f319 = nI 0 ∧ mtb A4 a w tab') ∨ (aput tab1 (rcl (upd (upd A2.2.2.2.2.2.2.2.2.1 0 (mcl A2 b t251 ca)) 1 st.2.1) w) W = none ∧ f319 = nI 1) := u319
                  rw [ekey] at u9
                  have hT4 : ∀ i : Nat, 1362 ≤ i → i < 1368 → ∀ Z : List tT, mws A2 i Z → mws A4 i Z := fun i h1 h2 Z H => mto.ws (A := (A2.1, A2.2.1, A2.2.2.1, A2.2.2.2.1, A2.2.2.2.2.1, A2.2.2.2.2.2.1, A2.2.2.2.2.2.2.1, A2.2.2.2.2.2.2.2.1, upd (upd A2.2.2.2.2.2.2.2.2.1 0 (mcl A2 b t251 ca)) 1 st.2.1, A2.2.2.2.2.2.2.2.2.2.1, A2.2.2.2.2.2.2.2.2.2.2)) r319 (by omega) H
                  refine ih (s + 1) _ f319 k319 A4 (aput tab1 (fky s ca cb kd g) W) _ _ _ _ _ _ _ (by omega) (by omega) (hq5.tr q319) (hop2.tr (mop.tr ⟨fun _ _ => rfl, fun _ _ => rfl, rfl, fun _ _ _ => rfl, fun _ _ _ => ⟨rfl, rfl⟩, rfl⟩ r319.op)) ?_ (fun q i hi => hT4 _ (by omega) (by omega) _ (hTW2 q i hi)) ?_ ?_
                  · rcases u9 with ⟨tab', h1, h2, h3⟩ | ⟨h1, h2⟩
                    · exact Or.inl ⟨tab', h1, h2, h3, aput_ok hk1 (by rw [← ekey]; exact rsg_len _ 0 w) z2 h1⟩
                    · exact Or.inr ⟨h1, h2⟩
                  · intro j h1 h2
                    obtain ⟨i, e1, e2, e3⟩ := hG2 j h1 h2
                    exact ⟨i, e1, (congrFun (congrArg (fun z => z.2.1) r319.2.2.2.2.2) j).trans e2, e3⟩
                  · rw [he]
                    show ((fwf s g ns g.length 0 [(0, 0)]).bind (aput tab1 _)).bind _ = _
                    rw [z3]
                    rfl
              · refine o_iload hC dX8_makeGroup_276 (by rfl) ?_
                refine o_goto (tgt := 313) hC dX8_makeGroup_278 (by decide) ?_
                refine o_iastN (t0 := 0) hC rfl dX8_makeGroup_313 (by repeat (first | with_reducible assumption | (rw [rl_u_s]; done) | (rw [rl_u_s]; rfl) | rw [rl_u_n (by first | with_reducible assumption | omega)])) (by omega) (by decide) ?_
                have hkd : kd = 0 := nI_inj2 (by omega) (by omega) (hnC.symm.trans c_273)
                have hq5 : mf ids h _ m T (nI 0) k2 (A2.1, A2.2.1, A2.2.2.1, A2.2.2.2.1, A2.2.2.2.2.1, A2.2.2.2.2.2.1, A2.2.2.2.2.2.2.1, A2.2.2.2.2.2.2.2.1, upd (upd A2.2.2.2.2.2.2.2.2.1 0 (mcl A2 b t251 ca)) 1 (nI st.1), A2.2.2.2.2.2.2.2.2.2.1, A2.2.2.2.2.2.2.2.2.2.2) := (hq2.s20 (upd A2.2.2.2.2.2.2.2.2.1 0 (mcl A2 b t251 ca))).s20 (upd (upd A2.2.2.2.2.2.2.2.2.1 0 (mcl A2 b t251 ca)) 1 (nI st.1))
                have hs5 := hq5.1.sa hs
                refine o_aload_n hC dX8_makeGroup_314 (by rfl) ?_
                refine o_iload_n hC dX8_makeGroup_315 (by rfl) ?_
                refine o_sipush (v := nI 1360) hC dX8_makeGroup_316 (by decide +kernel) ?_
                refine o_callV2 hC rl_BW_good rl_Ns_nw (by exact hB.2.2.2.2.2) YX8_comes IX8_comes VX8_comes (mX8_178 hC) (by rw [hB.1]; exact cf_X8_comes l D ids H0 _ _ m T _ _ _ S a 1360 w _ _ hq5.rf hs5 (by omega) (by omega) (by omega) hw hw6 rfl (show mtb (A2.1, A2.2.1, A2.2.2.1, A2.2.2.2.1, A2.2.2.2.2.1, A2.2.2.2.2.2.1, A2.2.2.2.2.2.2.1, A2.2.2.2.2.2.2.2.1, upd (upd A2.2.2.2.2.2.2.2.2.1 0 (mcl A2 b t251 ca)) 1 (nI st.1), A2.2.2.2.2.2.2.2.2.2.1, A2.2.2.2.2.2.2.2.2.2.2) a w tab1 from ht2) hk1 (show mws (A2.1, A2.2.1, A2.2.2.1, A2.2.2.2.1, A2.2.2.2.2.1, A2.2.2.2.2.2.1, A2.2.2.2.2.2.2.1, A2.2.2.2.2.2.2.2.1, upd (upd A2.2.2.2.2.2.2.2.2.1 0 (mcl A2 b t251 ca)) 1 (nI st.1), A2.2.2.2.2.2.2.2.2.2.1, A2.2.2.2.2.2.2.2.2.2.2) 1360 W from z1) z2) (by exact hq5.1.1) rfl rfl (Nat.le_of_ble_eq_true rfl) (by rw [hB.2.1]; first | exact Nat.le_of_ble_eq_true rfl | (dsimp only; omega)) (by rw [hB.2.1]; first | exact Nat.le_of_ble_eq_true rfl | (dsimp only; omega)) (by rw [hB.2.1]; first | exact Nat.le_of_ble_eq_true rfl | (dsimp only; omega)) (by rw [hB.2.1]; first | exact Nat.le_of_ble_eq_true rfl | (dsimp only; omega)) dX8_makeGroup_319 (fun v h_319 n_319 p_319 => ?_)
                obtain ⟨f319, k319, A4, rfl, rfl, q319, r319, u319⟩ := p_319
                try dsimp only [Option.toList, List.cons_append, List.nil_append]
                refine o_iinc hC dX8_makeGroup_322 (by rfl) (rl_inc _) (Nat.le_of_ble_eq_true rfl) ?_
                refine o_goto (tgt := 52) hC dX8_makeGroup_325 (by decide) ?_
                have ekey : rcl (upd (upd A2.2.2.2.2.2.2.2.2.1 0 (mcl A2 b t251 ca)) 1 (nI st.1)) w = fky s ca cb kd g := by
                  rw [hw2]
                  show [upd (upd A2.2.2.2.2.2.2.2.2.1 0 (mcl A2 b t251 ca)) 1 (nI st.1) 0, upd (upd A2.2.2.2.2.2.2.2.2.1 0 (mcl A2 b t251 ca)) 1 (nI st.1) 1] = _
                  rw [upd_lt (show 0 < 1 by decide), upd_at, upd_at, (hTb.2 t251 ht251).cg hca, ea251]
                  unfold fky
                  show [_, (nI st.1)] = [_, fpick kd _]
                  rw [z4]
                  unfold fpick
                  rw [if_pos hkd]
                have u9 : (∃ tab' : List arow, aput tab1 (rcl (upd (upd A2.2.2.2.2.2.2.2.2.1 0 (mcl A2 b t251 ca)) 1 (nI st.1)) w) W = some tab' ∧ f319 = nI 0 ∧ mtb A4 a w tab') ∨ (aput tab1 (rcl (upd (upd A2.2.2.2.2.2.2.2.2.1 0 (mcl A2 b t251 ca)) 1 (nI st.1)) w) W = none ∧ f319 = nI 1) := u319
                rw [ekey] at u9
                have hT4 : ∀ i : Nat, 1362 ≤ i → i < 1368 → ∀ Z : List tT, mws A2 i Z → mws A4 i Z := fun i h1 h2 Z H => mto.ws (A := (A2.1, A2.2.1, A2.2.2.1, A2.2.2.2.1, A2.2.2.2.2.1, A2.2.2.2.2.2.1, A2.2.2.2.2.2.2.1, A2.2.2.2.2.2.2.2.1, upd (upd A2.2.2.2.2.2.2.2.2.1 0 (mcl A2 b t251 ca)) 1 (nI st.1), A2.2.2.2.2.2.2.2.2.2.1, A2.2.2.2.2.2.2.2.2.2.2)) r319 (by omega) H
                refine ih (s + 1) _ f319 k319 A4 (aput tab1 (fky s ca cb kd g) W) _ _ _ _ _ _ _ (by omega) (by omega) (hq5.tr q319) (hop2.tr (mop.tr ⟨fun _ _ => rfl, fun _ _ => rfl, rfl, fun _ _ _ => rfl, fun _ _ _ => ⟨rfl, rfl⟩, rfl⟩ r319.op)) ?_ (fun q i hi => hT4 _ (by omega) (by omega) _ (hTW2 q i hi)) ?_ ?_
                · rcases u9 with ⟨tab', h1, h2, h3⟩ | ⟨h1, h2⟩
                  · exact Or.inl ⟨tab', h1, h2, h3, aput_ok hk1 (by rw [← ekey]; exact rsg_len _ 0 w) z2 h1⟩
                  · exact Or.inr ⟨h1, h2⟩
                · intro j h1 h2
                  obtain ⟨i, e1, e2, e3⟩ := hG2 j h1 h2
                  exact ⟨i, e1, (congrFun (congrArg (fun z => z.2.1) r319.2.2.2.2.2) j).trans e2, e3⟩
                · rw [he]
                  show ((fwf s g ns g.length 0 [(0, 0)]).bind (aput tab1 _)).bind _ = _
                  rw [z3]
                  rfl
            · have hs1 := hq2.1.sa hs
              obtain ⟨hm0, g12, g13, g14, g15, g16, g17, g18, g19, g20, g21, g22⟩ := id hq2
              have g0 := hm0.1
              have gk := hm0.2.1
              obtain ⟨a1, a2, a3, a4, a5, a6, a7, a8, a9, a10, a11⟩ := id hs1
              refine o_aload_n hC dX8_makeGroup_239 (by rfl) ?_
              refine o_getf hC (fX8_69 hC rfl) dX8_makeGroup_240 (by repeat (first | with_reducible assumption | (rw [rl_u_s]; done) | (rw [rl_u_s]; rfl) | rw [rl_u_n (by first | with_reducible assumption | omega)])) (by first | rfl | with_reducible assumption) ?_
              refine o_iconst (v := nI 0) hC dX8_makeGroup_243 (by decide +kernel) ?_
              refine o_aload_n hC dX8_makeGroup_244 (by rfl) ?_
              refine o_iload_n hC dX8_makeGroup_245 (by rfl) ?_
              refine o_aload_n hC dX8_makeGroup_246 (by rfl) ?_
              refine o_getf hC (fX8_72 hC rfl) dX8_makeGroup_247 (by repeat (first | with_reducible assumption | (rw [rl_u_s]; done) | (rw [rl_u_s]; rfl) | rw [rl_u_n (by first | with_reducible assumption | omega)])) (by first | rfl | with_reducible assumption) ?_
              refine o_iconst (v := nI 0) hC dX8_makeGroup_250 (by decide +kernel) ?_
              obtain ⟨t251, ht251, et251, ea251⟩ := hG2 0 (by omega) (by omega)
              refine o_ialdN (t0 := 0) (k := 0) hC rfl dX8_makeGroup_251 (by repeat (first | with_reducible assumption | (rw [rl_u_s]; done) | (rw [rl_u_s]; rfl) | rw [rl_u_n (by first | with_reducible assumption | omega)])) (by omega) (by decide) ?_
              rw [et251]
              refine o_aload_n hC dX8_makeGroup_252 (by rfl) ?_
              refine o_getf hC (fX8_28 hC rfl) dX8_makeGroup_253 (by repeat (first | with_reducible assumption | (rw [rl_u_s]; done) | (rw [rl_u_s]; rfl) | rw [rl_u_n (by first | with_reducible assumption | omega)])) (by first | rfl | with_reducible assumption) ?_
              refine o_iload_n hC dX8_makeGroup_256 (by rfl) ?_
              refine o_ialdN (t0 := 0) (k := a) hC rfl dX8_makeGroup_257 (by repeat (first | with_reducible assumption | (rw [rl_u_s]; done) | (rw [rl_u_s]; rfl) | rw [rl_u_n (by first | with_reducible assumption | omega)])) (by omega) (by decide) ?_
              rw [hnA]
              refine o_callV3 hC rl_BW_good rl_Ns_nw (by exact hB.2.2.2.2.2) YX8_cellAt IX8_cellAt VX8_cellAt (mX8_138 hC) (by rw [hB.1]; exact cf_X8_cellAt l D ids H0 _ _ m T _ _ _ b t251 ca hq2.rf (by omega)) (by exact hq2.rf.1.1) rfl rfl (Nat.le_of_ble_eq_true rfl) (by rw [hB.2.1]; first | exact Nat.le_of_ble_eq_true rfl | (dsimp only; omega)) (by rw [hB.2.1]; first | exact Nat.le_of_ble_eq_true rfl | (dsimp only; omega)) (by rw [hB.2.1]; first | exact Nat.le_of_ble_eq_true rfl | (dsimp only; omega)) (by rw [hB.2.1]; first | exact Nat.le_of_ble_eq_true rfl | (dsimp only; omega)) dX8_makeGroup_258 (fun v h_258 n_258 p_258 => ?_)
              obtain ⟨rfl, rfl, rfl⟩ := p_258
              try dsimp only [Option.toList, List.cons_append, List.nil_append]
              refine o_iastN (t0 := 0) hC rfl dX8_makeGroup_261 (by repeat (first | with_reducible assumption | (rw [rl_u_s]; done) | (rw [rl_u_s]; rfl) | rw [rl_u_n (by first | with_reducible assumption | omega)])) (by omega) (by decide) ?_
              refine o_aload_n hC dX8_makeGroup_262 (by rfl) ?_
              refine o_getf hC (fX8_69 hC rfl) dX8_makeGroup_263 (by repeat (first | with_reducible assumption | (rw [rl_u_s]; done) | (rw [rl_u_s]; rfl) | rw [rl_u_n (by first | with_reducible assumption | omega)])) (by first | rfl | with_reducible assumption) ?_
              refine o_iconst (v := nI 1) hC dX8_makeGroup_266 (by decide +kernel) ?_
              refine o_aload_n hC dX8_makeGroup_267 (by rfl) ?_
              refine o_getf hC (fX8_34 hC rfl) dX8_makeGroup_268 (by repeat (first | with_reducible assumption | (rw [rl_u_s]; done) | (rw [rl_u_s]; rfl) | rw [rl_u_n (by first | with_reducible assumption | omega)])) (by first | rfl | with_reducible assumption) ?_
              refine o_iload_n hC dX8_makeGroup_271 (by rfl) ?_
              refine o_ialdN (t0 := 0) hC rfl dX8_makeGroup_272 (by repeat (first | with_reducible assumption | (rw [rl_u_s]; done) | (rw [rl_u_s]; rfl) | rw [rl_u_n (by first | with_reducible assumption | omega)])) (by omega) (by decide) ?_
              refine o_if_ne (tgt := 281) hC dX8_makeGroup_273 (by decide) (fun c_273 => ?_) (fun c_273 => ?_)
              · refine o_aload_n hC dX8_makeGroup_281 (by rfl) ?_
                refine o_getf hC (fX8_34 hC rfl) dX8_makeGroup_282 (by repeat (first | with_reducible assumption | (rw [rl_u_s]; done) | (rw [rl_u_s]; rfl) | rw [rl_u_n (by first | with_reducible assumption | omega)])) (by first | rfl | with_reducible assumption) ?_
                refine o_iload_n hC dX8_makeGroup_285 (by rfl) ?_
                refine o_ialdN (t0 := 0) hC rfl dX8_makeGroup_286 (by repeat (first | with_reducible assumption | (rw [rl_u_s]; done) | (rw [rl_u_s]; rfl) | rw [rl_u_n (by first | with_reducible assumption | omega)])) (by omega) (by decide) ?_
                refine o_iconst (v := nI 1) hC dX8_makeGroup_287 (by decide +kernel) ?_
                refine o_icmp_ne (tgt := 296) hC dX8_makeGroup_288 (by decide) (fun c_288 => ?_) (fun c_288 => ?_)
                · refine o_aload_n hC dX8_makeGroup_296 (by rfl) ?_
                  refine o_getf hC (fX8_34 hC rfl) dX8_makeGroup_297 (by repeat (first | with_reducible assumption | (rw [rl_u_s]; done) | (rw [rl_u_s]; rfl) | rw [rl_u_n (by first | with_reducible assumption | omega)])) (by first | rfl | with_reducible assumption) ?_
                  refine o_iload_n hC dX8_makeGroup_300 (by rfl) ?_
                  refine o_ialdN (t0 := 0) hC rfl dX8_makeGroup_301 (by repeat (first | with_reducible assumption | (rw [rl_u_s]; done) | (rw [rl_u_s]; rfl) | rw [rl_u_n (by first | with_reducible assumption | omega)])) (by omega) (by decide) ?_
                  refine o_iconst (v := nI 2) hC dX8_makeGroup_302 (by decide +kernel) ?_
                  refine o_icmp_ne (tgt := 311) hC dX8_makeGroup_303 (by decide) (fun c_303 => ?_) (fun c_303 => ?_)
                  · refine o_iload hC dX8_makeGroup_311 (by rfl) ?_
                    refine o_iastN (t0 := 0) hC rfl dX8_makeGroup_313 (by repeat (first | with_reducible assumption | (rw [rl_u_s]; done) | (rw [rl_u_s]; rfl) | rw [rl_u_n (by first | with_reducible assumption | omega)])) (by omega) (by decide) ?_
                    have hq5 : mf ids h _ m T (nI 1) k2 (A2.1, A2.2.1, A2.2.2.1, A2.2.2.2.1, A2.2.2.2.2.1, A2.2.2.2.2.2.1, A2.2.2.2.2.2.2.1, A2.2.2.2.2.2.2.2.1, upd (upd A2.2.2.2.2.2.2.2.2.1 0 (mcl A2 b t251 ca)) 1 st.2.2.2, A2.2.2.2.2.2.2.2.2.2.1, A2.2.2.2.2.2.2.2.2.2.2) := (hq2.s20 (upd A2.2.2.2.2.2.2.2.2.1 0 (mcl A2 b t251 ca))).s20 (upd (upd A2.2.2.2.2.2.2.2.2.1 0 (mcl A2 b t251 ca)) 1 st.2.2.2)
                    refine o_aload_n hC dX8_makeGroup_314 (by rfl) ?_
                    refine o_iload_n hC dX8_makeGroup_315 (by rfl) ?_
                    refine o_sipush (v := nI 1360) hC dX8_makeGroup_316 (by decide +kernel) ?_
                    refine o_callV2 hC rl_BW_good rl_Ns_nw (by exact hB.2.2.2.2.2) YX8_comes IX8_comes VX8_comes (mX8_178 hC) (by rw [hB.1]; exact cf_X8_comes1 l D ids H0 _ _ m T _ _ _ a 1360 hq5.rf rfl) (by exact hq5.1.1) rfl rfl (Nat.le_of_ble_eq_true rfl) (by rw [hB.2.1]; first | exact Nat.le_of_ble_eq_true rfl | (dsimp only; omega)) (by rw [hB.2.1]; first | exact Nat.le_of_ble_eq_true rfl | (dsimp only; omega)) (by rw [hB.2.1]; first | exact Nat.le_of_ble_eq_true rfl | (dsimp only; omega)) (by rw [hB.2.1]; first | exact Nat.le_of_ble_eq_true rfl | (dsimp only; omega)) dX8_makeGroup_319 (fun v h_319 n_319 p_319 => ?_)
                    obtain ⟨rfl, rfl, rfl⟩ := p_319
                    try dsimp only [Option.toList, List.cons_append, List.nil_append]
                    refine o_iinc hC dX8_makeGroup_322 (by rfl) (rl_inc _) (Nat.le_of_ble_eq_true rfl) ?_
                    refine o_goto (tgt := 52) hC dX8_makeGroup_325 (by decide) ?_
                    refine ih (s + 1) _ _ _ _ none _ _ _ _ _ _ _ (by omega) (by omega) hq5 (hop2.tr ⟨fun _ _ => rfl, fun _ _ => rfl, rfl, fun _ _ _ => rfl, fun _ _ _ => ⟨rfl, rfl⟩, rfl⟩) (Or.inr ⟨rfl, rfl⟩) hTW2 hG2 ?_
                    rw [he]
                    show ((fwf s g ns g.length 0 [(0, 0)]).bind (aput tab1 _)).bind _ = _
                    rw [z3]
                    rfl
                  · refine o_iload hC dX8_makeGroup_306 (by rfl) ?_
                    refine o_goto (tgt := 313) hC dX8_makeGroup_308 (by decide) ?_
                    refine o_iastN (t0 := 0) hC rfl dX8_makeGroup_313 (by repeat (first | with_reducible assumption | (rw [rl_u_s]; done) | (rw [rl_u_s]; rfl) | rw [rl_u_n (by first | with_reducible assumption | omega)])) (by omega) (by decide) ?_
                    have hq5 : mf ids h _ m T (nI 1) k2 (A2.1, A2.2.1, A2.2.2.1, A2.2.2.2.1, A2.2.2.2.2.1, A2.2.2.2.2.2.1, A2.2.2.2.2.2.2.1, A2.2.2.2.2.2.2.2.1, upd (upd A2.2.2.2.2.2.2.2.2.1 0 (mcl A2 b t251 ca)) 1 st.2.2.1, A2.2.2.2.2.2.2.2.2.2.1, A2.2.2.2.2.2.2.2.2.2.2) := (hq2.s20 (upd A2.2.2.2.2.2.2.2.2.1 0 (mcl A2 b t251 ca))).s20 (upd (upd A2.2.2.2.2.2.2.2.2.1 0 (mcl A2 b t251 ca)) 1 st.2.2.1)
                    refine o_aload_n hC dX8_makeGroup_314 (by rfl) ?_
                    refine o_iload_n hC dX8_makeGroup_315 (by rfl) ?_
                    refine o_sipush (v := nI 1360) hC dX8_makeGroup_316 (by decide +kernel) ?_
                    refine o_callV2 hC rl_BW_good rl_Ns_nw (by exact hB.2.2.2.2.2) YX8_comes IX8_comes VX8_comes (mX8_178 hC) (by rw [hB.1]; exact cf_X8_comes1 l D ids H0 _ _ m T _ _ _ a 1360 hq5.rf rfl) (by exact hq5.1.1) rfl rfl (Nat.le_of_ble_eq_true rfl) (by rw [hB.2.1]; first | exact Nat.le_of_ble_eq_true rfl | (dsimp only; omega)) (by rw [hB.2.1]; first | exact Nat.le_of_ble_eq_true rfl | (dsimp only; omega)) (by rw [hB.2.1]; first | exact Nat.le_of_ble_eq_true rfl | (dsimp only; omega)) (by rw [hB.2.1]; first | exact Nat.le_of_ble_eq_true rfl | (dsimp only; omega)) dX8_makeGroup_319 (fun v h_319 n_319 p_319 => ?_)
                    obtain ⟨rfl, rfl, rfl⟩ := p_319
                    try dsimp only [Option.toList, List.cons_append, List.nil_append]
                    refine o_iinc hC dX8_makeGroup_322 (by rfl) (rl_inc _) (Nat.le_of_ble_eq_true rfl) ?_
                    refine o_goto (tgt := 52) hC dX8_makeGroup_325 (by decide) ?_
                    refine ih (s + 1) _ _ _ _ none _ _ _ _ _ _ _ (by omega) (by omega) hq5 (hop2.tr ⟨fun _ _ => rfl, fun _ _ => rfl, rfl, fun _ _ _ => rfl, fun _ _ _ => ⟨rfl, rfl⟩, rfl⟩) (Or.inr ⟨rfl, rfl⟩) hTW2 hG2 ?_
                    rw [he]
                    show ((fwf s g ns g.length 0 [(0, 0)]).bind (aput tab1 _)).bind _ = _
                    rw [z3]
                    rfl
                · refine o_iload hC dX8_makeGroup_291 (by rfl) ?_
                  refine o_goto (tgt := 313) hC dX8_makeGroup_293 (by decide) ?_
                  refine o_iastN (t0 := 0) hC rfl dX8_makeGroup_313 (by repeat (first | with_reducible assumption | (rw [rl_u_s]; done) | (rw [rl_u_s]; rfl) | rw [rl_u_n (by first | with_reducible assumption | omega)])) (by omega) (by decide) ?_
                  have hq5 : mf ids h _ m T (nI 1) k2 (A2.1, A2.2.1, A2.2.2.1, A2.2.2.2.1, A2.2.2.2.2.1, A2.2.2.2.2.2.1, A2.2.2.2.2.2.2.1, A2.2.2.2.2.2.2.2.1, upd (upd A2.2.2.2.2.2.2.2.2.1 0 (mcl A2 b t251 ca)) 1 st.2.1, A2.2.2.2.2.2.2.2.2.2.1, A2.2.2.2.2.2.2.2.2.2.2) := (hq2.s20 (upd A2.2.2.2.2.2.2.2.2.1 0 (mcl A2 b t251 ca))).s20 (upd (upd A2.2.2.2.2.2.2.2.2.1 0 (mcl A2 b t251 ca)) 1 st.2.1)
                  refine o_aload_n hC dX8_makeGroup_314 (by rfl) ?_
                  refine o_iload_n hC dX8_makeGroup_315 (by rfl) ?_
                  refine o_sipush (v := nI 1360) hC dX8_makeGroup_316 (by decide +kernel) ?_
                  refine o_callV2 hC rl_BW_good rl_Ns_nw (by exact hB.2.2.2.2.2) YX8_comes IX8_comes VX8_comes (mX8_178 hC) (by rw [hB.1]; exact cf_X8_comes1 l D ids H0 _ _ m T _ _ _ a 1360 hq5.rf rfl) (by exact hq5.1.1) rfl rfl (Nat.le_of_ble_eq_true rfl) (by rw [hB.2.1]; first | exact Nat.le_of_ble_eq_true rfl | (dsimp only; omega)) (by rw [hB.2.1]; first | exact Nat.le_of_ble_eq_true rfl | (dsimp only; omega)) (by rw [hB.2.1]; first | exact Nat.le_of_ble_eq_true rfl | (dsimp only; omega)) (by rw [hB.2.1]; first | exact Nat.le_of_ble_eq_true rfl | (dsimp only; omega)) dX8_makeGroup_319 (fun v h_319 n_319 p_319 => ?_)
                  obtain ⟨rfl, rfl, rfl⟩ := p_319
                  try dsimp only [Option.toList, List.cons_append, List.nil_append]
                  refine o_iinc hC dX8_makeGroup_322 (by rfl) (rl_inc _) (Nat.le_of_ble_eq_true rfl) ?_
                  refine o_goto (tgt := 52) hC dX8_makeGroup_325 (by decide) ?_
                  refine ih (s + 1) _ _ _ _ none _ _ _ _ _ _ _ (by omega) (by omega) hq5 (hop2.tr ⟨fun _ _ => rfl, fun _ _ => rfl, rfl, fun _ _ _ => rfl, fun _ _ _ => ⟨rfl, rfl⟩, rfl⟩) (Or.inr ⟨rfl, rfl⟩) hTW2 hG2 ?_
                  rw [he]
                  show ((fwf s g ns g.length 0 [(0, 0)]).bind (aput tab1 _)).bind _ = _
                  rw [z3]
                  rfl
              · refine o_iload hC dX8_makeGroup_276 (by rfl) ?_
                refine o_goto (tgt := 313) hC dX8_makeGroup_278 (by decide) ?_
                refine o_iastN (t0 := 0) hC rfl dX8_makeGroup_313 (by repeat (first | with_reducible assumption | (rw [rl_u_s]; done) | (rw [rl_u_s]; rfl) | rw [rl_u_n (by first | with_reducible assumption | omega)])) (by omega) (by decide) ?_
                have hq5 : mf ids h _ m T (nI 1) k2 (A2.1, A2.2.1, A2.2.2.1, A2.2.2.2.1, A2.2.2.2.2.1, A2.2.2.2.2.2.1, A2.2.2.2.2.2.2.1, A2.2.2.2.2.2.2.2.1, upd (upd A2.2.2.2.2.2.2.2.2.1 0 (mcl A2 b t251 ca)) 1 (nI st.1), A2.2.2.2.2.2.2.2.2.2.1, A2.2.2.2.2.2.2.2.2.2.2) := (hq2.s20 (upd A2.2.2.2.2.2.2.2.2.1 0 (mcl A2 b t251 ca))).s20 (upd (upd A2.2.2.2.2.2.2.2.2.1 0 (mcl A2 b t251 ca)) 1 (nI st.1))
                refine o_aload_n hC dX8_makeGroup_314 (by rfl) ?_
                refine o_iload_n hC dX8_makeGroup_315 (by rfl) ?_
                refine o_sipush (v := nI 1360) hC dX8_makeGroup_316 (by decide +kernel) ?_
                refine o_callV2 hC rl_BW_good rl_Ns_nw (by exact hB.2.2.2.2.2) YX8_comes IX8_comes VX8_comes (mX8_178 hC) (by rw [hB.1]; exact cf_X8_comes1 l D ids H0 _ _ m T _ _ _ a 1360 hq5.rf rfl) (by exact hq5.1.1) rfl rfl (Nat.le_of_ble_eq_true rfl) (by rw [hB.2.1]; first | exact Nat.le_of_ble_eq_true rfl | (dsimp only; omega)) (by rw [hB.2.1]; first | exact Nat.le_of_ble_eq_true rfl | (dsimp only; omega)) (by rw [hB.2.1]; first | exact Nat.le_of_ble_eq_true rfl | (dsimp only; omega)) (by rw [hB.2.1]; first | exact Nat.le_of_ble_eq_true rfl | (dsimp only; omega)) dX8_makeGroup_319 (fun v h_319 n_319 p_319 => ?_)
                obtain ⟨rfl, rfl, rfl⟩ := p_319
                try dsimp only [Option.toList, List.cons_append, List.nil_append]
                refine o_iinc hC dX8_makeGroup_322 (by rfl) (rl_inc _) (Nat.le_of_ble_eq_true rfl) ?_
                refine o_goto (tgt := 52) hC dX8_makeGroup_325 (by decide) ?_
                refine ih (s + 1) _ _ _ _ none _ _ _ _ _ _ _ (by omega) (by omega) hq5 (hop2.tr ⟨fun _ _ => rfl, fun _ _ => rfl, rfl, fun _ _ _ => rfl, fun _ _ _ => ⟨rfl, rfl⟩, rfl⟩) (Or.inr ⟨rfl, rfl⟩) hTW2 hG2 ?_
                rw [he]
                show ((fwf s g ns g.length 0 [(0, 0)]).bind (aput tab1 _)).bind _ = _
                rw [z3]
                rfl
          have loop3 : ∀ (m3 i : Nat) (h2 : rl_H) (f2 : Int32) (k2 : Nat) (A2 : md_D) (st : fSt) (o10 o11 : Option Value), i + m3 = g.length → st.1 ≤ i → mf ids h h2 m T f2 k2 A2 → mro A1 A2 1360 → ((f2 = nI 0 ∧ ∃ W : List tT, mws A2 1360 W ∧ wok W ∧ fwf s g ns g.length 0 [(0, 0)] = fwf s g ns (g.length - i) i W ∧ ffn s cb g g.length 0 (0, 0, 0, 0) = ffn s cb g (g.length - i) i st) ∨ (f2 = nI 1 ∧ fwf s g ns g.length 0 [(0, 0)] = none)) → rl_G X (rl_e D ids H0) 89 [some (.ref m), some (.int (nI a)), some (.int (nI b)), some (.int (nI g.length)), some (.int (nI s)), some (.int (nI st.1)), some (.int st.2.1), some (.int st.2.2.1), some (.int st.2.2.2), some (.int (nI i)), o10, o11] [] h2 n_71 0 0 := by
            intro m3
            induction m3 with
            | zero =>
              intro i h2 f2 k2 A2 st o10 o11 hm3 hsti hq2 hro hst2
              obtain ⟨hm0, g12, g13, g14, g15, g16, g17, g18, g19, g20, g21, g22⟩ := id hq2
              have g0 := hm0.1
              have gk := hm0.2.1
              refine o_iload hC dX8_makeGroup_89 (by rfl) ?_
              refine o_iload_n hC dX8_makeGroup_91 (by rfl) ?_
              refine o_icmp_ge (tgt := 239) hC dX8_makeGroup_92 (by decide) (fun c_92 => ?_) (fun c_92 => ?_)
              · refine fin _ _ _ A2 st _ _ _ hq2 hro ?_
                rcases hst2 with ⟨e1, W, z1, z2, z3, z4⟩ | ⟨e1, z3⟩
                · rw [show g.length - i = 0 by omega] at z3 z4
                  exact Or.inl ⟨e1, W, z1, z2, z3, z4⟩
                · exact Or.inr ⟨e1, z3⟩
              · exact absurd (nI_le (by omega) (by omega)) c_92
            | succ m3 ih3 =>
              intro i h2 f2 k2 A2 st o10 o11 hm3 hsti hq2 hro hst2
              have hop2 : mop A A2 a := hop.tr (hro.op (by omega))
              have hTb := hop2.tb hwb6 hbk.2.2 (by omega) hbt hba
              have hG2 : mgr A2 tb g := fun j h1 h2 => by
                obtain ⟨i, e1, e2, e3⟩ := hG j h1 h2
                exact ⟨i, e1, (congrFun (congrArg (fun z => z.2.1) hro.2.2.2.2.2) j).trans e2, e3⟩
              have hs1 := hq2.1.sa hs
              obtain ⟨hm0, g12, g13, g14, g15, g16, g17, g18, g19, g20, g21, g22⟩ := id hq2
              have g0 := hm0.1
              have gk := hm0.2.1
              obtain ⟨a1, a2, a3, a4, a5, a6, a7, a8, a9, a10, a11⟩ := id hs1
              refine o_iload hC dX8_makeGroup_89 (by rfl) ?_
              refine o_iload_n hC dX8_makeGroup_91 (by rfl) ?_
              refine o_icmp_ge (tgt := 239) hC dX8_makeGroup_92 (by decide) (fun c_92 => ?_) (fun c_92 => ?_)
              · exact absurd c_92 (nI_ge (by omega) (by omega))
              · refine o_aload_n hC dX8_makeGroup_95 (by rfl) ?_
                refine o_getf hC (fX8_91 hC rfl) dX8_makeGroup_96 (by repeat (first | with_reducible assumption | (rw [rl_u_s]; done) | (rw [rl_u_s]; rfl) | rw [rl_u_n (by first | with_reducible assumption | omega)])) (by first | rfl | with_reducible assumption) ?_
                refine o_if_ne (tgt := 239) hC dX8_makeGroup_99 (by decide) (fun c_99 => ?_) (fun c_99 => ?_)
                · refine fin _ _ _ A2 st _ _ _ hq2 hro ?_
                  rcases hst2 with ⟨rfl, W, z1, z2, z3, z4⟩ | ⟨e1, z3⟩
                  · exact absurd rfl c_99
                  · exact Or.inr ⟨e1, z3⟩
                · rcases hst2 with ⟨rfl, W, z1, z2, z3, z4⟩ | ⟨rfl, z3⟩
                  rotate_left
                  · exact absurd c_99 (by decide +kernel)
                  have e3m : g.length - i = m3 + 1 := by omega
                  rw [e3m] at z3 z4
                  have e3n : g.length - (i + 1) = m3 := by omega
                  have aft : ∀ (h3 : rl_H) (f3 : Int32) (k3 : Nat) (A3 : md_D) (z10 : Int32) (o11 : Option Value), z10 = (if inS s i then nI 1 else nI 0) → mf ids h h3 m T f3 k3 A3 → mro A2 A3 1360 → wre A3 1360 (nI 0) f3 (wst (tbo W (fnw s g ns i))) → rl_G X (rl_e D ids H0) 156 [some (.ref m), some (.int (nI a)), some (.int (nI b)), some (.int (nI g.length)), some (.int (nI s)), some (.int (nI st.1)), some (.int st.2.1), some (.int st.2.2.1), some (.int st.2.2.2), some (.int (nI i)), some (.int z10), o11] [] h3 n_71 0 0 := by
                    intro h3 f3 k3 A3 z10 o11 hz hq3 hro3 w3
                    have hop3 : mop A A3 a := hop2.tr (hro3.op (by omega))
                    have hTb3 := hop3.tb hwb6 hbk.2.2 (by omega) hbt hba
                    have hG3 : mgr A3 tb g := fun j h1 h2 => by
                      obtain ⟨i, e1, e2, e3⟩ := hG2 j h1 h2
                      exact ⟨i, e1, (congrFun (congrArg (fun z => z.2.1) hro3.2.2.2.2.2) j).trans e2, e3⟩
                    have nst : ∀ st' : fSt, fstep st (inS s i) (acg (ark g i) cb) = st' → ((f3 = nI 0 ∧ ∃ W : List tT, mws A3 1360 W ∧ wok W ∧ fwf s g ns g.length 0 [(0, 0)] = fwf s g ns (g.length - (i + 1)) (i + 1) W ∧ ffn s cb g g.length 0 (0, 0, 0, 0) = ffn s cb g (g.length - (i + 1)) (i + 1) st') ∨ (f3 = nI 1 ∧ fwf s g ns g.length 0 [(0, 0)] = none)) := fun st' hst' => by
                      rcases w3 with ⟨W3, y1, y2, y3⟩ | ⟨y1, y2, -⟩
                      · refine Or.inl ⟨y2, W3, y3, wst_ok y1, ?_, ?_⟩
                        · rw [z3, e3n, fwf, y1]
                          rfl
                        · rw [z4, e3n, ffn, hst']
                      · refine Or.inr ⟨y2, ?_⟩
                        rw [z3, fwf, y1]
                        rfl
                    have hs1 := hq3.1.sa hs
                    obtain ⟨hm0, g12, g13, g14, g15, g16, g17, g18, g19, g20, g21, g22⟩ := id hq3
                    have g0 := hm0.1
                    have gk := hm0.2.1
                    obtain ⟨a1, a2, a3, a4, a5, a6, a7, a8, a9, a10, a11⟩ := id hs1
                    refine o_aload_n hC dX8_makeGroup_156 (by rfl) ?_
                    refine o_iload_n hC dX8_makeGroup_157 (by rfl) ?_
                    refine o_aload_n hC dX8_makeGroup_158 (by rfl) ?_
                    refine o_getf hC (fX8_72 hC rfl) dX8_makeGroup_159 (by repeat (first | with_reducible assumption | (rw [rl_u_s]; done) | (rw [rl_u_s]; rfl) | rw [rl_u_n (by first | with_reducible assumption | omega)])) (by first | rfl | with_reducible assumption) ?_
                    refine o_iload hC dX8_makeGroup_162 (by rfl) ?_
                    obtain ⟨t164, ht164, et164, ea164⟩ := hG3 i (by omega) (by omega)
                    refine o_ialdN (t0 := 0) (k := i) hC rfl dX8_makeGroup_164 (by repeat (first | with_reducible assumption | (rw [rl_u_s]; done) | (rw [rl_u_s]; rfl) | rw [rl_u_n (by first | with_reducible assumption | omega)])) (by omega) (by decide) ?_
                    rw [et164]
                    refine o_aload_n hC dX8_makeGroup_165 (by rfl) ?_
                    refine o_getf hC (fX8_31 hC rfl) dX8_makeGroup_166 (by repeat (first | with_reducible assumption | (rw [rl_u_s]; done) | (rw [rl_u_s]; rfl) | rw [rl_u_n (by first | with_reducible assumption | omega)])) (by first | rfl | with_reducible assumption) ?_
                    refine o_iload_n hC dX8_makeGroup_169 (by rfl) ?_
                    refine o_ialdN (t0 := 0) (k := a) hC rfl dX8_makeGroup_170 (by repeat (first | with_reducible assumption | (rw [rl_u_s]; done) | (rw [rl_u_s]; rfl) | rw [rl_u_n (by first | with_reducible assumption | omega)])) (by omega) (by decide) ?_
                    rw [hnB]
                    refine o_callV3 hC rl_BW_good rl_Ns_nw (by exact hB.2.2.2.2.2) YX8_cellAt IX8_cellAt VX8_cellAt (mX8_138 hC) (by rw [hB.1]; exact cf_X8_cellAt l D ids H0 _ _ m T _ _ _ b t164 cb hq3.rf (by omega)) (by exact hq3.rf.1.1) rfl rfl (Nat.le_of_ble_eq_true rfl) (by rw [hB.2.1]; first | exact Nat.le_of_ble_eq_true rfl | (dsimp only; omega)) (by rw [hB.2.1]; first | exact Nat.le_of_ble_eq_true rfl | (dsimp only; omega)) (by rw [hB.2.1]; first | exact Nat.le_of_ble_eq_true rfl | (dsimp only; omega)) (by rw [hB.2.1]; first | exact Nat.le_of_ble_eq_true rfl | (dsimp only; omega)) dX8_makeGroup_171 (fun v h_171 n_171 p_171 => ?_)
                    obtain ⟨rfl, rfl, rfl⟩ := p_171
                    try dsimp only [Option.toList, List.cons_append, List.nil_append]
                    refine o_istore hC dX8_makeGroup_174 (Nat.le_of_ble_eq_true rfl) ?_
                    refine o_iload hC dX8_makeGroup_176 (by rfl) ?_
                    refine o_if_eq (tgt := 233) hC dX8_makeGroup_178 (by decide) (fun c_178 => ?_) (fun c_178 => ?_)
                    · refine o_iinc hC dX8_makeGroup_233 (by rfl) (rl_inc _) (Nat.le_of_ble_eq_true rfl) ?_
                      refine o_goto (tgt := 89) hC dX8_makeGroup_236 (by decide) ?_
                      have hin : inS s i = false := by
                        cases e : inS s i with
                        | false => rfl
                        | true => rw [e] at hz; exact absurd (hz.symm.trans c_178) (by decide +kernel)
                      exact ih3 (i + 1) _ _ _ A3 st _ _ (by omega) (by omega) hq3 (hro.tr hro3) (nst _ (by rw [hin]; rfl))
                    · refine o_iload hC dX8_makeGroup_181 (by rfl) ?_
                      refine o_if_eq (tgt := 193) hC dX8_makeGroup_183 (by decide) (fun c_183 => ?_) (fun c_183 => ?_)
                      · refine o_iload hC dX8_makeGroup_193 (by rfl) ?_
                        refine o_goto (tgt := 200) hC dX8_makeGroup_195 (by decide) ?_
                        refine o_istore hC dX8_makeGroup_200 (Nat.le_of_ble_eq_true rfl) ?_
                        refine o_iload hC dX8_makeGroup_202 (by rfl) ?_
                        refine o_if_eq (tgt := 214) hC dX8_makeGroup_204 (by decide) (fun c_204 => ?_) (fun c_204 => ?_)
                        · refine o_iload hC dX8_makeGroup_214 (by rfl) ?_
                          refine o_goto (tgt := 221) hC dX8_makeGroup_216 (by decide) ?_
                          refine o_istore hC dX8_makeGroup_221 (Nat.le_of_ble_eq_true rfl) ?_
                          refine o_iload hC dX8_makeGroup_223 (by rfl) ?_
                          refine o_iload hC dX8_makeGroup_225 (by rfl) ?_
                          refine o_iadd hC dX8_makeGroup_227 ?_
                          refine o_istore hC dX8_makeGroup_228 (Nat.le_of_ble_eq_true rfl) ?_
                          refine o_iinc (v := nI (st.1 + 1)) hC dX8_makeGroup_230 (by rfl) (rl_inc _) (Nat.le_of_ble_eq_true rfl) ?_
                          refine o_iinc hC dX8_makeGroup_233 (by rfl) (rl_inc _) (Nat.le_of_ble_eq_true rfl) ?_
                          refine o_goto (tgt := 89) hC dX8_makeGroup_236 (by decide) ?_
                          have hin : inS s i = true := by
                            cases e : inS s i with
                            | true => rfl
                            | false => rw [e] at hz; exact absurd hz c_178
                          have ex : (mcl A3 b t164 cb) = acg (ark g i) cb := by rw [(hTb3.2 t164 ht164).cg hcb, ea164]
                          first
                          | exact absurd c_183 c_204
                          | exact absurd c_204 c_183
                          | (have h0 : st.1 = 0 := (nI_inj2 (by omega) (by omega) (by first | exact c_183 | exact Classical.not_not.mp c_183)); (exact ih3 (i + 1) _ _ _ A3 (st.1 + 1, st.2.1 + (mcl A3 b t164 cb), (mcl A3 b t164 cb), (mcl A3 b t164 cb)) _ _ (by omega) (by dsimp only; omega) hq3 (hro.tr hro3) (nst _ (by rw [hin, ← ex]; unfold fstep; rw [if_pos rfl, if_pos h0, if_pos h0]))))
                          | (have h0 : st.1 ≠ 0 := fun e => c_183 (by rw [e]; rfl); (exact ih3 (i + 1) _ _ _ A3 (st.1 + 1, st.2.1 + (mcl A3 b t164 cb), (mcl A3 b t164 cb), (mcl A3 b t164 cb)) _ _ (by omega) (by dsimp only; omega) hq3 (hro.tr hro3) (nst _ (by rw [hin, ← ex]; unfold fstep; rw [if_pos rfl, if_neg h0, if_neg h0, if_pos (Int32.not_le.mp c_190), if_pos (Int32.not_le.mp c_211)]))))
                          | (have h0 : st.1 ≠ 0 := fun e => c_183 (by rw [e]; rfl); (exact ih3 (i + 1) _ _ _ A3 (st.1 + 1, st.2.1 + (mcl A3 b t164 cb), (mcl A3 b t164 cb), st.2.2.2) _ _ (by omega) (by dsimp only; omega) hq3 (hro.tr hro3) (nst _ (by rw [hin, ← ex]; unfold fstep; rw [if_pos rfl, if_neg h0, if_neg h0, if_pos (Int32.not_le.mp c_190), if_neg (Int32.not_lt.mpr c_211)]))))
                          | (have h0 : st.1 ≠ 0 := fun e => c_183 (by rw [e]; rfl); (exact ih3 (i + 1) _ _ _ A3 (st.1 + 1, st.2.1 + (mcl A3 b t164 cb), st.2.2.1, (mcl A3 b t164 cb)) _ _ (by omega) (by dsimp only; omega) hq3 (hro.tr hro3) (nst _ (by rw [hin, ← ex]; unfold fstep; rw [if_pos rfl, if_neg h0, if_neg h0, if_neg (Int32.not_lt.mpr c_190), if_pos (Int32.not_le.mp c_211)]))))
                          | (have h0 : st.1 ≠ 0 := fun e => c_183 (by rw [e]; rfl); (exact ih3 (i + 1) _ _ _ A3 (st.1 + 1, st.2.1 + (mcl A3 b t164 cb), st.2.2.1, st.2.2.2) _ _ (by omega) (by dsimp only; omega) hq3 (hro.tr hro3) (nst _ (by rw [hin, ← ex]; unfold fstep; rw [if_pos rfl, if_neg h0, if_neg h0, if_neg (Int32.not_lt.mpr c_190), if_neg (Int32.not_lt.mpr c_211)]))))
                        · refine o_iload hC dX8_makeGroup_207 (by rfl) ?_
                          refine o_iload hC dX8_makeGroup_209 (by rfl) ?_
                          refine o_icmp_le (tgt := 219) hC dX8_makeGroup_211 (by decide) (fun c_211 => ?_) (fun c_211 => ?_)
                          · refine o_iload hC dX8_makeGroup_219 (by rfl) ?_
                            refine o_istore hC dX8_makeGroup_221 (Nat.le_of_ble_eq_true rfl) ?_
                            refine o_iload hC dX8_makeGroup_223 (by rfl) ?_
                            refine o_iload hC dX8_makeGroup_225 (by rfl) ?_
                            refine o_iadd hC dX8_makeGroup_227 ?_
                            refine o_istore hC dX8_makeGroup_228 (Nat.le_of_ble_eq_true rfl) ?_
                            refine o_iinc (v := nI (st.1 + 1)) hC dX8_makeGroup_230 (by rfl) (rl_inc _) (Nat.le_of_ble_eq_true rfl) ?_
                            refine o_iinc hC dX8_makeGroup_233 (by rfl) (rl_inc _) (Nat.le_of_ble_eq_true rfl) ?_
                            refine o_goto (tgt := 89) hC dX8_makeGroup_236 (by decide) ?_
                            have hin : inS s i = true := by
                              cases e : inS s i with
                              | true => rfl
                              | false => rw [e] at hz; exact absurd hz c_178
                            have ex : (mcl A3 b t164 cb) = acg (ark g i) cb := by rw [(hTb3.2 t164 ht164).cg hcb, ea164]
                            first
                            | exact absurd c_183 c_204
                            | exact absurd c_204 c_183
                            | (have h0 : st.1 = 0 := (nI_inj2 (by omega) (by omega) (by first | exact c_183 | exact Classical.not_not.mp c_183)); (exact ih3 (i + 1) _ _ _ A3 (st.1 + 1, st.2.1 + (mcl A3 b t164 cb), (mcl A3 b t164 cb), (mcl A3 b t164 cb)) _ _ (by omega) (by dsimp only; omega) hq3 (hro.tr hro3) (nst _ (by rw [hin, ← ex]; unfold fstep; rw [if_pos rfl, if_pos h0, if_pos h0]))))
                            | (have h0 : st.1 ≠ 0 := fun e => c_183 (by rw [e]; rfl); (exact ih3 (i + 1) _ _ _ A3 (st.1 + 1, st.2.1 + (mcl A3 b t164 cb), (mcl A3 b t164 cb), (mcl A3 b t164 cb)) _ _ (by omega) (by dsimp only; omega) hq3 (hro.tr hro3) (nst _ (by rw [hin, ← ex]; unfold fstep; rw [if_pos rfl, if_neg h0, if_neg h0, if_pos (Int32.not_le.mp c_190), if_pos (Int32.not_le.mp c_211)]))))
                            | (have h0 : st.1 ≠ 0 := fun e => c_183 (by rw [e]; rfl); (exact ih3 (i + 1) _ _ _ A3 (st.1 + 1, st.2.1 + (mcl A3 b t164 cb), (mcl A3 b t164 cb), st.2.2.2) _ _ (by omega) (by dsimp only; omega) hq3 (hro.tr hro3) (nst _ (by rw [hin, ← ex]; unfold fstep; rw [if_pos rfl, if_neg h0, if_neg h0, if_pos (Int32.not_le.mp c_190), if_neg (Int32.not_lt.mpr c_211)]))))
                            | (have h0 : st.1 ≠ 0 := fun e => c_183 (by rw [e]; rfl); (exact ih3 (i + 1) _ _ _ A3 (st.1 + 1, st.2.1 + (mcl A3 b t164 cb), st.2.2.1, (mcl A3 b t164 cb)) _ _ (by omega) (by dsimp only; omega) hq3 (hro.tr hro3) (nst _ (by rw [hin, ← ex]; unfold fstep; rw [if_pos rfl, if_neg h0, if_neg h0, if_neg (Int32.not_lt.mpr c_190), if_pos (Int32.not_le.mp c_211)]))))
                            | (have h0 : st.1 ≠ 0 := fun e => c_183 (by rw [e]; rfl); (exact ih3 (i + 1) _ _ _ A3 (st.1 + 1, st.2.1 + (mcl A3 b t164 cb), st.2.2.1, st.2.2.2) _ _ (by omega) (by dsimp only; omega) hq3 (hro.tr hro3) (nst _ (by rw [hin, ← ex]; unfold fstep; rw [if_pos rfl, if_neg h0, if_neg h0, if_neg (Int32.not_lt.mpr c_190), if_neg (Int32.not_lt.mpr c_211)]))))
                          · refine o_iload hC dX8_makeGroup_214 (by rfl) ?_
                            refine o_goto (tgt := 221) hC dX8_makeGroup_216 (by decide) ?_
                            refine o_istore hC dX8_makeGroup_221 (Nat.le_of_ble_eq_true rfl) ?_
                            refine o_iload hC dX8_makeGroup_223 (by rfl) ?_
                            refine o_iload hC dX8_makeGroup_225 (by rfl) ?_
                            refine o_iadd hC dX8_makeGroup_227 ?_
                            refine o_istore hC dX8_makeGroup_228 (Nat.le_of_ble_eq_true rfl) ?_
                            refine o_iinc (v := nI (st.1 + 1)) hC dX8_makeGroup_230 (by rfl) (rl_inc _) (Nat.le_of_ble_eq_true rfl) ?_
                            refine o_iinc hC dX8_makeGroup_233 (by rfl) (rl_inc _) (Nat.le_of_ble_eq_true rfl) ?_
                            refine o_goto (tgt := 89) hC dX8_makeGroup_236 (by decide) ?_
                            have hin : inS s i = true := by
                              cases e : inS s i with
                              | true => rfl
                              | false => rw [e] at hz; exact absurd hz c_178
                            have ex : (mcl A3 b t164 cb) = acg (ark g i) cb := by rw [(hTb3.2 t164 ht164).cg hcb, ea164]
                            first
                            | exact absurd c_183 c_204
                            | exact absurd c_204 c_183
                            | (have h0 : st.1 = 0 := (nI_inj2 (by omega) (by omega) (by first | exact c_183 | exact Classical.not_not.mp c_183)); (exact ih3 (i + 1) _ _ _ A3 (st.1 + 1, st.2.1 + (mcl A3 b t164 cb), (mcl A3 b t164 cb), (mcl A3 b t164 cb)) _ _ (by omega) (by dsimp only; omega) hq3 (hro.tr hro3) (nst _ (by rw [hin, ← ex]; unfold fstep; rw [if_pos rfl, if_pos h0, if_pos h0]))))
                            | (have h0 : st.1 ≠ 0 := fun e => c_183 (by rw [e]; rfl); (exact ih3 (i + 1) _ _ _ A3 (st.1 + 1, st.2.1 + (mcl A3 b t164 cb), (mcl A3 b t164 cb), (mcl A3 b t164 cb)) _ _ (by omega) (by dsimp only; omega) hq3 (hro.tr hro3) (nst _ (by rw [hin, ← ex]; unfold fstep; rw [if_pos rfl, if_neg h0, if_neg h0, if_pos (Int32.not_le.mp c_190), if_pos (Int32.not_le.mp c_211)]))))
                            | (have h0 : st.1 ≠ 0 := fun e => c_183 (by rw [e]; rfl); (exact ih3 (i + 1) _ _ _ A3 (st.1 + 1, st.2.1 + (mcl A3 b t164 cb), (mcl A3 b t164 cb), st.2.2.2) _ _ (by omega) (by dsimp only; omega) hq3 (hro.tr hro3) (nst _ (by rw [hin, ← ex]; unfold fstep; rw [if_pos rfl, if_neg h0, if_neg h0, if_pos (Int32.not_le.mp c_190), if_neg (Int32.not_lt.mpr c_211)]))))
                            | (have h0 : st.1 ≠ 0 := fun e => c_183 (by rw [e]; rfl); (exact ih3 (i + 1) _ _ _ A3 (st.1 + 1, st.2.1 + (mcl A3 b t164 cb), st.2.2.1, (mcl A3 b t164 cb)) _ _ (by omega) (by dsimp only; omega) hq3 (hro.tr hro3) (nst _ (by rw [hin, ← ex]; unfold fstep; rw [if_pos rfl, if_neg h0, if_neg h0, if_neg (Int32.not_lt.mpr c_190), if_pos (Int32.not_le.mp c_211)]))))
                            | (have h0 : st.1 ≠ 0 := fun e => c_183 (by rw [e]; rfl); (exact ih3 (i + 1) _ _ _ A3 (st.1 + 1, st.2.1 + (mcl A3 b t164 cb), st.2.2.1, st.2.2.2) _ _ (by omega) (by dsimp only; omega) hq3 (hro.tr hro3) (nst _ (by rw [hin, ← ex]; unfold fstep; rw [if_pos rfl, if_neg h0, if_neg h0, if_neg (Int32.not_lt.mpr c_190), if_neg (Int32.not_lt.mpr c_211)]))))
                      · refine o_iload hC dX8_makeGroup_186 (by rfl) ?_
                        refine o_iload hC dX8_makeGroup_188 (by rfl) ?_
                        refine o_icmp_ge (tgt := 198) hC dX8_makeGroup_190 (by decide) (fun c_190 => ?_) (fun c_190 => ?_)
                        · refine o_iload hC dX8_makeGroup_198 (by rfl) ?_
                          refine o_istore hC dX8_makeGroup_200 (Nat.le_of_ble_eq_true rfl) ?_
                          refine o_iload hC dX8_makeGroup_202 (by rfl) ?_
                          refine o_if_eq (tgt := 214) hC dX8_makeGroup_204 (by decide) (fun c_204 => ?_) (fun c_204 => ?_)
                          · refine o_iload hC dX8_makeGroup_214 (by rfl) ?_
                            refine o_goto (tgt := 221) hC dX8_makeGroup_216 (by decide) ?_
                            refine o_istore hC dX8_makeGroup_221 (Nat.le_of_ble_eq_true rfl) ?_
                            refine o_iload hC dX8_makeGroup_223 (by rfl) ?_
                            refine o_iload hC dX8_makeGroup_225 (by rfl) ?_
                            refine o_iadd hC dX8_makeGroup_227 ?_
                            refine o_istore hC dX8_makeGroup_228 (Nat.le_of_ble_eq_true rfl) ?_
                            refine o_iinc (v := nI (st.1 + 1)) hC dX8_makeGroup_230 (by rfl) (rl_inc _) (Nat.le_of_ble_eq_true rfl) ?_
                            refine o_iinc hC dX8_makeGroup_233 (by rfl) (rl_inc _) (Nat.le_of_ble_eq_true rfl) ?_
                            refine o_goto (tgt := 89) hC dX8_makeGroup_236 (by decide) ?_
                            have hin : inS s i = true := by
                              cases e : inS s i with
                              | true => rfl
                              | false => rw [e] at hz; exact absurd hz c_178
                            have ex : (mcl A3 b t164 cb) = acg (ark g i) cb := by rw [(hTb3.2 t164 ht164).cg hcb, ea164]
                            first
                            | exact absurd c_183 c_204
                            | exact absurd c_204 c_183
                            | (have h0 : st.1 = 0 := (nI_inj2 (by omega) (by omega) (by first | exact c_183 | exact Classical.not_not.mp c_183)); (exact ih3 (i + 1) _ _ _ A3 (st.1 + 1, st.2.1 + (mcl A3 b t164 cb), (mcl A3 b t164 cb), (mcl A3 b t164 cb)) _ _ (by omega) (by dsimp only; omega) hq3 (hro.tr hro3) (nst _ (by rw [hin, ← ex]; unfold fstep; rw [if_pos rfl, if_pos h0, if_pos h0]))))
                            | (have h0 : st.1 ≠ 0 := fun e => c_183 (by rw [e]; rfl); (exact ih3 (i + 1) _ _ _ A3 (st.1 + 1, st.2.1 + (mcl A3 b t164 cb), (mcl A3 b t164 cb), (mcl A3 b t164 cb)) _ _ (by omega) (by dsimp only; omega) hq3 (hro.tr hro3) (nst _ (by rw [hin, ← ex]; unfold fstep; rw [if_pos rfl, if_neg h0, if_neg h0, if_pos (Int32.not_le.mp c_190), if_pos (Int32.not_le.mp c_211)]))))
                            | (have h0 : st.1 ≠ 0 := fun e => c_183 (by rw [e]; rfl); (exact ih3 (i + 1) _ _ _ A3 (st.1 + 1, st.2.1 + (mcl A3 b t164 cb), (mcl A3 b t164 cb), st.2.2.2) _ _ (by omega) (by dsimp only; omega) hq3 (hro.tr hro3) (nst _ (by rw [hin, ← ex]; unfold fstep; rw [if_pos rfl, if_neg h0, if_neg h0, if_pos (Int32.not_le.mp c_190), if_neg (Int32.not_lt.mpr c_211)]))))
                            | (have h0 : st.1 ≠ 0 := fun e => c_183 (by rw [e]; rfl); (exact ih3 (i + 1) _ _ _ A3 (st.1 + 1, st.2.1 + (mcl A3 b t164 cb), st.2.2.1, (mcl A3 b t164 cb)) _ _ (by omega) (by dsimp only; omega) hq3 (hro.tr hro3) (nst _ (by rw [hin, ← ex]; unfold fstep; rw [if_pos rfl, if_neg h0, if_neg h0, if_neg (Int32.not_lt.mpr c_190), if_pos (Int32.not_le.mp c_211)]))))
                            | (have h0 : st.1 ≠ 0 := fun e => c_183 (by rw [e]; rfl); (exact ih3 (i + 1) _ _ _ A3 (st.1 + 1, st.2.1 + (mcl A3 b t164 cb), st.2.2.1, st.2.2.2) _ _ (by omega) (by dsimp only; omega) hq3 (hro.tr hro3) (nst _ (by rw [hin, ← ex]; unfold fstep; rw [if_pos rfl, if_neg h0, if_neg h0, if_neg (Int32.not_lt.mpr c_190), if_neg (Int32.not_lt.mpr c_211)]))))
                          · refine o_iload hC dX8_makeGroup_207 (by rfl) ?_
                            refine o_iload hC dX8_makeGroup_209 (by rfl) ?_
                            refine o_icmp_le (tgt := 219) hC dX8_makeGroup_211 (by decide) (fun c_211 => ?_) (fun c_211 => ?_)
                            · refine o_iload hC dX8_makeGroup_219 (by rfl) ?_
                              refine o_istore hC dX8_makeGroup_221 (Nat.le_of_ble_eq_true rfl) ?_
                              refine o_iload hC dX8_makeGroup_223 (by rfl) ?_
                              refine o_iload hC dX8_makeGroup_225 (by rfl) ?_
                              refine o_iadd hC dX8_makeGroup_227 ?_
                              refine o_istore hC dX8_makeGroup_228 (Nat.le_of_ble_eq_true rfl) ?_
                              refine o_iinc (v := nI (st.1 + 1)) hC dX8_makeGroup_230 (by rfl) (rl_inc _) (Nat.le_of_ble_eq_true rfl) ?_
                              refine o_iinc hC dX8_makeGroup_233 (by rfl) (rl_inc _) (Nat.le_of_ble_eq_true rfl) ?_
                              refine o_goto (tgt := 89) hC dX8_makeGroup_236 (by decide) ?_
                              have hin : inS s i = true := by
                                cases e : inS s i with
                                | true => rfl
                                | false => rw [e] at hz; exact absurd hz c_178
                              have ex : (mcl A3 b t164 cb) = acg (ark g i) cb := by rw [(hTb3.2 t164 ht164).cg hcb, ea164]
                              first
                              | exact absurd c_183 c_204
                              | exact absurd c_204 c_183
                              | (have h0 : st.1 = 0 := (nI_inj2 (by omega) (by omega) (by first | exact c_183 | exact Classical.not_not.mp c_183)); (exact ih3 (i + 1) _ _ _ A3 (st.1 + 1, st.2.1 + (mcl A3 b t164 cb), (mcl A3 b t164 cb), (mcl A3 b t164 cb)) _ _ (by omega) (by dsimp only; omega) hq3 (hro.tr hro3) (nst _ (by rw [hin, ← ex]; unfold fstep; rw [if_pos rfl, if_pos h0, if_pos h0]))))
                              | (have h0 : st.1 ≠ 0 := fun e => c_183 (by rw [e]; rfl); (exact ih3 (i + 1) _ _ _ A3 (st.1 + 1, st.2.1 + (mcl A3 b t164 cb), (mcl A3 b t164 cb), (mcl A3 b t164 cb)) _ _ (by omega) (by dsimp only; omega) hq3 (hro.tr hro3) (nst _ (by rw [hin, ← ex]; unfold fstep; rw [if_pos rfl, if_neg h0, if_neg h0, if_pos (Int32.not_le.mp c_190), if_pos (Int32.not_le.mp c_211)]))))
                              | (have h0 : st.1 ≠ 0 := fun e => c_183 (by rw [e]; rfl); (exact ih3 (i + 1) _ _ _ A3 (st.1 + 1, st.2.1 + (mcl A3 b t164 cb), (mcl A3 b t164 cb), st.2.2.2) _ _ (by omega) (by dsimp only; omega) hq3 (hro.tr hro3) (nst _ (by rw [hin, ← ex]; unfold fstep; rw [if_pos rfl, if_neg h0, if_neg h0, if_pos (Int32.not_le.mp c_190), if_neg (Int32.not_lt.mpr c_211)]))))
                              | (have h0 : st.1 ≠ 0 := fun e => c_183 (by rw [e]; rfl); (exact ih3 (i + 1) _ _ _ A3 (st.1 + 1, st.2.1 + (mcl A3 b t164 cb), st.2.2.1, (mcl A3 b t164 cb)) _ _ (by omega) (by dsimp only; omega) hq3 (hro.tr hro3) (nst _ (by rw [hin, ← ex]; unfold fstep; rw [if_pos rfl, if_neg h0, if_neg h0, if_neg (Int32.not_lt.mpr c_190), if_pos (Int32.not_le.mp c_211)]))))
                              | (have h0 : st.1 ≠ 0 := fun e => c_183 (by rw [e]; rfl); (exact ih3 (i + 1) _ _ _ A3 (st.1 + 1, st.2.1 + (mcl A3 b t164 cb), st.2.2.1, st.2.2.2) _ _ (by omega) (by dsimp only; omega) hq3 (hro.tr hro3) (nst _ (by rw [hin, ← ex]; unfold fstep; rw [if_pos rfl, if_neg h0, if_neg h0, if_neg (Int32.not_lt.mpr c_190), if_neg (Int32.not_lt.mpr c_211)]))))
                            · refine o_iload hC dX8_makeGroup_214 (by rfl) ?_
                              refine o_goto (tgt := 221) hC dX8_makeGroup_216 (by decide) ?_
                              refine o_istore hC dX8_makeGroup_221 (Nat.le_of_ble_eq_true rfl) ?_
                              refine o_iload hC dX8_makeGroup_223 (by rfl) ?_
                              refine o_iload hC dX8_makeGroup_225 (by rfl) ?_
                              refine o_iadd hC dX8_makeGroup_227 ?_
                              refine o_istore hC dX8_makeGroup_228 (Nat.le_of_ble_eq_true rfl) ?_
                              refine o_iinc (v := nI (st.1 + 1)) hC dX8_makeGroup_230 (by rfl) (rl_inc _) (Nat.le_of_ble_eq_true rfl) ?_
                              refine o_iinc hC dX8_makeGroup_233 (by rfl) (rl_inc _) (Nat.le_of_ble_eq_true rfl) ?_
                              refine o_goto (tgt := 89) hC dX8_makeGroup_236 (by decide) ?_
                              have hin : inS s i = true := by
                                cases e : inS s i with
                                | true => rfl
                                | false => rw [e] at hz; exact absurd hz c_178
                              have ex : (mcl A3 b t164 cb) = acg (ark g i) cb := by rw [(hTb3.2 t164 ht164).cg hcb, ea164]
                              first
                              | exact absurd c_183 c_204
                              | exact absurd c_204 c_183
                              | (have h0 : st.1 = 0 := (nI_inj2 (by omega) (by omega) (by first | exact c_183 | exact Classical.not_not.mp c_183)); (exact ih3 (i + 1) _ _ _ A3 (st.1 + 1, st.2.1 + (mcl A3 b t164 cb), (mcl A3 b t164 cb), (mcl A3 b t164 cb)) _ _ (by omega) (by dsimp only; omega) hq3 (hro.tr hro3) (nst _ (by rw [hin, ← ex]; unfold fstep; rw [if_pos rfl, if_pos h0, if_pos h0]))))
                              | (have h0 : st.1 ≠ 0 := fun e => c_183 (by rw [e]; rfl); (exact ih3 (i + 1) _ _ _ A3 (st.1 + 1, st.2.1 + (mcl A3 b t164 cb), (mcl A3 b t164 cb), (mcl A3 b t164 cb)) _ _ (by omega) (by dsimp only; omega) hq3 (hro.tr hro3) (nst _ (by rw [hin, ← ex]; unfold fstep; rw [if_pos rfl, if_neg h0, if_neg h0, if_pos (Int32.not_le.mp c_190), if_pos (Int32.not_le.mp c_211)]))))
                              | (have h0 : st.1 ≠ 0 := fun e => c_183 (by rw [e]; rfl); (exact ih3 (i + 1) _ _ _ A3 (st.1 + 1, st.2.1 + (mcl A3 b t164 cb), (mcl A3 b t164 cb), st.2.2.2) _ _ (by omega) (by dsimp only; omega) hq3 (hro.tr hro3) (nst _ (by rw [hin, ← ex]; unfold fstep; rw [if_pos rfl, if_neg h0, if_neg h0, if_pos (Int32.not_le.mp c_190), if_neg (Int32.not_lt.mpr c_211)]))))
                              | (have h0 : st.1 ≠ 0 := fun e => c_183 (by rw [e]; rfl); (exact ih3 (i + 1) _ _ _ A3 (st.1 + 1, st.2.1 + (mcl A3 b t164 cb), st.2.2.1, (mcl A3 b t164 cb)) _ _ (by omega) (by dsimp only; omega) hq3 (hro.tr hro3) (nst _ (by rw [hin, ← ex]; unfold fstep; rw [if_pos rfl, if_neg h0, if_neg h0, if_neg (Int32.not_lt.mpr c_190), if_pos (Int32.not_le.mp c_211)]))))
                              | (have h0 : st.1 ≠ 0 := fun e => c_183 (by rw [e]; rfl); (exact ih3 (i + 1) _ _ _ A3 (st.1 + 1, st.2.1 + (mcl A3 b t164 cb), st.2.2.1, st.2.2.2) _ _ (by omega) (by dsimp only; omega) hq3 (hro.tr hro3) (nst _ (by rw [hin, ← ex]; unfold fstep; rw [if_pos rfl, if_neg h0, if_neg h0, if_neg (Int32.not_lt.mpr c_190), if_neg (Int32.not_lt.mpr c_211)]))))
                        · refine o_iload hC dX8_makeGroup_193 (by rfl) ?_
                          refine o_goto (tgt := 200) hC dX8_makeGroup_195 (by decide) ?_
                          refine o_istore hC dX8_makeGroup_200 (Nat.le_of_ble_eq_true rfl) ?_
                          refine o_iload hC dX8_makeGroup_202 (by rfl) ?_
                          refine o_if_eq (tgt := 214) hC dX8_makeGroup_204 (by decide) (fun c_204 => ?_) (fun c_204 => ?_)
                          · refine o_iload hC dX8_makeGroup_214 (by rfl) ?_
                            refine o_goto (tgt := 221) hC dX8_makeGroup_216 (by decide) ?_
                            refine o_istore hC dX8_makeGroup_221 (Nat.le_of_ble_eq_true rfl) ?_
                            refine o_iload hC dX8_makeGroup_223 (by rfl) ?_
                            refine o_iload hC dX8_makeGroup_225 (by rfl) ?_
                            refine o_iadd hC dX8_makeGroup_227 ?_
                            refine o_istore hC dX8_makeGroup_228 (Nat.le_of_ble_eq_true rfl) ?_
                            refine o_iinc (v := nI (st.1 + 1)) hC dX8_makeGroup_230 (by rfl) (rl_inc _) (Nat.le_of_ble_eq_true rfl) ?_
                            refine o_iinc hC dX8_makeGroup_233 (by rfl) (rl_inc _) (Nat.le_of_ble_eq_true rfl) ?_
                            refine o_goto (tgt := 89) hC dX8_makeGroup_236 (by decide) ?_
                            have hin : inS s i = true := by
                              cases e : inS s i with
                              | true => rfl
                              | false => rw [e] at hz; exact absurd hz c_178
                            have ex : (mcl A3 b t164 cb) = acg (ark g i) cb := by rw [(hTb3.2 t164 ht164).cg hcb, ea164]
                            first
                            | exact absurd c_183 c_204
                            | exact absurd c_204 c_183
                            | (have h0 : st.1 = 0 := (nI_inj2 (by omega) (by omega) (by first | exact c_183 | exact Classical.not_not.mp c_183)); (exact ih3 (i + 1) _ _ _ A3 (st.1 + 1, st.2.1 + (mcl A3 b t164 cb), (mcl A3 b t164 cb), (mcl A3 b t164 cb)) _ _ (by omega) (by dsimp only; omega) hq3 (hro.tr hro3) (nst _ (by rw [hin, ← ex]; unfold fstep; rw [if_pos rfl, if_pos h0, if_pos h0]))))
                            | (have h0 : st.1 ≠ 0 := fun e => c_183 (by rw [e]; rfl); (exact ih3 (i + 1) _ _ _ A3 (st.1 + 1, st.2.1 + (mcl A3 b t164 cb), (mcl A3 b t164 cb), (mcl A3 b t164 cb)) _ _ (by omega) (by dsimp only; omega) hq3 (hro.tr hro3) (nst _ (by rw [hin, ← ex]; unfold fstep; rw [if_pos rfl, if_neg h0, if_neg h0, if_pos (Int32.not_le.mp c_190), if_pos (Int32.not_le.mp c_211)]))))
                            | (have h0 : st.1 ≠ 0 := fun e => c_183 (by rw [e]; rfl); (exact ih3 (i + 1) _ _ _ A3 (st.1 + 1, st.2.1 + (mcl A3 b t164 cb), (mcl A3 b t164 cb), st.2.2.2) _ _ (by omega) (by dsimp only; omega) hq3 (hro.tr hro3) (nst _ (by rw [hin, ← ex]; unfold fstep; rw [if_pos rfl, if_neg h0, if_neg h0, if_pos (Int32.not_le.mp c_190), if_neg (Int32.not_lt.mpr c_211)]))))
                            | (have h0 : st.1 ≠ 0 := fun e => c_183 (by rw [e]; rfl); (exact ih3 (i + 1) _ _ _ A3 (st.1 + 1, st.2.1 + (mcl A3 b t164 cb), st.2.2.1, (mcl A3 b t164 cb)) _ _ (by omega) (by dsimp only; omega) hq3 (hro.tr hro3) (nst _ (by rw [hin, ← ex]; unfold fstep; rw [if_pos rfl, if_neg h0, if_neg h0, if_neg (Int32.not_lt.mpr c_190), if_pos (Int32.not_le.mp c_211)]))))
                            | (have h0 : st.1 ≠ 0 := fun e => c_183 (by rw [e]; rfl); (exact ih3 (i + 1) _ _ _ A3 (st.1 + 1, st.2.1 + (mcl A3 b t164 cb), st.2.2.1, st.2.2.2) _ _ (by omega) (by dsimp only; omega) hq3 (hro.tr hro3) (nst _ (by rw [hin, ← ex]; unfold fstep; rw [if_pos rfl, if_neg h0, if_neg h0, if_neg (Int32.not_lt.mpr c_190), if_neg (Int32.not_lt.mpr c_211)]))))
                          · refine o_iload hC dX8_makeGroup_207 (by rfl) ?_
                            refine o_iload hC dX8_makeGroup_209 (by rfl) ?_
                            refine o_icmp_le (tgt := 219) hC dX8_makeGroup_211 (by decide) (fun c_211 => ?_) (fun c_211 => ?_)
                            · refine o_iload hC dX8_makeGroup_219 (by rfl) ?_
                              refine o_istore hC dX8_makeGroup_221 (Nat.le_of_ble_eq_true rfl) ?_
                              refine o_iload hC dX8_makeGroup_223 (by rfl) ?_
                              refine o_iload hC dX8_makeGroup_225 (by rfl) ?_
                              refine o_iadd hC dX8_makeGroup_227 ?_
                              refine o_istore hC dX8_makeGroup_228 (Nat.le_of_ble_eq_true rfl) ?_
                              refine o_iinc (v := nI (st.1 + 1)) hC dX8_makeGroup_230 (by rfl) (rl_inc _) (Nat.le_of_ble_eq_true rfl) ?_
                              refine o_iinc hC dX8_makeGroup_233 (by rfl) (rl_inc _) (Nat.le_of_ble_eq_true rfl) ?_
                              refine o_goto (tgt := 89) hC dX8_makeGroup_236 (by decide) ?_
                              have hin : inS s i = true := by
                                cases e : inS s i with
                                | true => rfl
                                | false => rw [e] at hz; exact absurd hz c_178
                              have ex : (mcl A3 b t164 cb) = acg (ark g i) cb := by rw [(hTb3.2 t164 ht164).cg hcb, ea164]
                              first
                              | exact absurd c_183 c_204
                              | exact absurd c_204 c_183
                              | (have h0 : st.1 = 0 := (nI_inj2 (by omega) (by omega) (by first | exact c_183 | exact Classical.not_not.mp c_183)); (exact ih3 (i + 1) _ _ _ A3 (st.1 + 1, st.2.1 + (mcl A3 b t164 cb), (mcl A3 b t164 cb), (mcl A3 b t164 cb)) _ _ (by omega) (by dsimp only; omega) hq3 (hro.tr hro3) (nst _ (by rw [hin, ← ex]; unfold fstep; rw [if_pos rfl, if_pos h0, if_pos h0]))))
                              | (have h0 : st.1 ≠ 0 := fun e => c_183 (by rw [e]; rfl); (exact ih3 (i + 1) _ _ _ A3 (st.1 + 1, st.2.1 + (mcl A3 b t164 cb), (mcl A3 b t164 cb), (mcl A3 b t164 cb)) _ _ (by omega) (by dsimp only; omega) hq3 (hro.tr hro3) (nst _ (by rw [hin, ← ex]; unfold fstep; rw [if_pos rfl, if_neg h0, if_neg h0, if_pos (Int32.not_le.mp c_190), if_pos (Int32.not_le.mp c_211)]))))
                              | (have h0 : st.1 ≠ 0 := fun e => c_183 (by rw [e]; rfl); (exact ih3 (i + 1) _ _ _ A3 (st.1 + 1, st.2.1 + (mcl A3 b t164 cb), (mcl A3 b t164 cb), st.2.2.2) _ _ (by omega) (by dsimp only; omega) hq3 (hro.tr hro3) (nst _ (by rw [hin, ← ex]; unfold fstep; rw [if_pos rfl, if_neg h0, if_neg h0, if_pos (Int32.not_le.mp c_190), if_neg (Int32.not_lt.mpr c_211)]))))
                              | (have h0 : st.1 ≠ 0 := fun e => c_183 (by rw [e]; rfl); (exact ih3 (i + 1) _ _ _ A3 (st.1 + 1, st.2.1 + (mcl A3 b t164 cb), st.2.2.1, (mcl A3 b t164 cb)) _ _ (by omega) (by dsimp only; omega) hq3 (hro.tr hro3) (nst _ (by rw [hin, ← ex]; unfold fstep; rw [if_pos rfl, if_neg h0, if_neg h0, if_neg (Int32.not_lt.mpr c_190), if_pos (Int32.not_le.mp c_211)]))))
                              | (have h0 : st.1 ≠ 0 := fun e => c_183 (by rw [e]; rfl); (exact ih3 (i + 1) _ _ _ A3 (st.1 + 1, st.2.1 + (mcl A3 b t164 cb), st.2.2.1, st.2.2.2) _ _ (by omega) (by dsimp only; omega) hq3 (hro.tr hro3) (nst _ (by rw [hin, ← ex]; unfold fstep; rw [if_pos rfl, if_neg h0, if_neg h0, if_neg (Int32.not_lt.mpr c_190), if_neg (Int32.not_lt.mpr c_211)]))))
                            · refine o_iload hC dX8_makeGroup_214 (by rfl) ?_
                              refine o_goto (tgt := 221) hC dX8_makeGroup_216 (by decide) ?_
                              refine o_istore hC dX8_makeGroup_221 (Nat.le_of_ble_eq_true rfl) ?_
                              refine o_iload hC dX8_makeGroup_223 (by rfl) ?_
                              refine o_iload hC dX8_makeGroup_225 (by rfl) ?_
                              refine o_iadd hC dX8_makeGroup_227 ?_
                              refine o_istore hC dX8_makeGroup_228 (Nat.le_of_ble_eq_true rfl) ?_
                              refine o_iinc (v := nI (st.1 + 1)) hC dX8_makeGroup_230 (by rfl) (rl_inc _) (Nat.le_of_ble_eq_true rfl) ?_
                              refine o_iinc hC dX8_makeGroup_233 (by rfl) (rl_inc _) (Nat.le_of_ble_eq_true rfl) ?_
                              refine o_goto (tgt := 89) hC dX8_makeGroup_236 (by decide) ?_
                              have hin : inS s i = true := by
                                cases e : inS s i with
                                | true => rfl
                                | false => rw [e] at hz; exact absurd hz c_178
                              have ex : (mcl A3 b t164 cb) = acg (ark g i) cb := by rw [(hTb3.2 t164 ht164).cg hcb, ea164]
                              first
                              | exact absurd c_183 c_204
                              | exact absurd c_204 c_183
                              | (have h0 : st.1 = 0 := (nI_inj2 (by omega) (by omega) (by first | exact c_183 | exact Classical.not_not.mp c_183)); (exact ih3 (i + 1) _ _ _ A3 (st.1 + 1, st.2.1 + (mcl A3 b t164 cb), (mcl A3 b t164 cb), (mcl A3 b t164 cb)) _ _ (by omega) (by dsimp only; omega) hq3 (hro.tr hro3) (nst _ (by rw [hin, ← ex]; unfold fstep; rw [if_pos rfl, if_pos h0, if_pos h0]))))
                              | (have h0 : st.1 ≠ 0 := fun e => c_183 (by rw [e]; rfl); (exact ih3 (i + 1) _ _ _ A3 (st.1 + 1, st.2.1 + (mcl A3 b t164 cb), (mcl A3 b t164 cb), (mcl A3 b t164 cb)) _ _ (by omega) (by dsimp only; omega) hq3 (hro.tr hro3) (nst _ (by rw [hin, ← ex]; unfold fstep; rw [if_pos rfl, if_neg h0, if_neg h0, if_pos (Int32.not_le.mp c_190), if_pos (Int32.not_le.mp c_211)]))))
                              | (have h0 : st.1 ≠ 0 := fun e => c_183 (by rw [e]; rfl); (exact ih3 (i + 1) _ _ _ A3 (st.1 + 1, st.2.1 + (mcl A3 b t164 cb), (mcl A3 b t164 cb), st.2.2.2) _ _ (by omega) (by dsimp only; omega) hq3 (hro.tr hro3) (nst _ (by rw [hin, ← ex]; unfold fstep; rw [if_pos rfl, if_neg h0, if_neg h0, if_pos (Int32.not_le.mp c_190), if_neg (Int32.not_lt.mpr c_211)]))))
                              | (have h0 : st.1 ≠ 0 := fun e => c_183 (by rw [e]; rfl); (exact ih3 (i + 1) _ _ _ A3 (st.1 + 1, st.2.1 + (mcl A3 b t164 cb), st.2.2.1, (mcl A3 b t164 cb)) _ _ (by omega) (by dsimp only; omega) hq3 (hro.tr hro3) (nst _ (by rw [hin, ← ex]; unfold fstep; rw [if_pos rfl, if_neg h0, if_neg h0, if_neg (Int32.not_lt.mpr c_190), if_pos (Int32.not_le.mp c_211)]))))
                              | (have h0 : st.1 ≠ 0 := fun e => c_183 (by rw [e]; rfl); (exact ih3 (i + 1) _ _ _ A3 (st.1 + 1, st.2.1 + (mcl A3 b t164 cb), st.2.2.1, st.2.2.2) _ _ (by omega) (by dsimp only; omega) hq3 (hro.tr hro3) (nst _ (by rw [hin, ← ex]; unfold fstep; rw [if_pos rfl, if_neg h0, if_neg h0, if_neg (Int32.not_lt.mpr c_190), if_neg (Int32.not_lt.mpr c_211)]))))
                  refine o_iload hC dX8_makeGroup_102 (by rfl) ?_
                  refine o_iload hC dX8_makeGroup_104 (by rfl) ?_
                  refine o_ishr hC dX8_makeGroup_106 ?_
                  refine o_iconst (v := nI 1) hC dX8_makeGroup_107 (by decide +kernel) ?_
                  refine o_iand hC dX8_makeGroup_108 ?_
                  refine o_iconst (v := nI 1) hC dX8_makeGroup_109 (by decide +kernel) ?_
                  refine o_icmp_ne (tgt := 117) hC dX8_makeGroup_110 (by decide) (fun c_110 => ?_) (fun c_110 => ?_)
                  · refine o_iconst (v := nI 0) hC dX8_makeGroup_117 (by decide +kernel) ?_
                    refine o_istore hC dX8_makeGroup_118 (Nat.le_of_ble_eq_true rfl) ?_
                    have hin : inS s i = false := by
                      unfold inS
                      rw [decide_eq_true (show fbt s i = 0 from (fbt_or s (by omega) i (by omega)).resolve_right c_110)]
                      rfl
                    have hnw : mws A2 (1362 + i) (ns.getD i []) := by
                      refine hro.ws (by omega) ?_
                      rcases Nat.lt_or_ge 1 g.length with q | q
                      · exact hTW q i (by omega)
                      · obtain rfl : i = 0 := by omega
                        have e1 : g.length = 1 := by omega
                        have e2 : 2 ^ g.length = 2 := by rw [e1]
                        obtain rfl : s = 1 := by omega
                        rw [inS_1] at hin
                        cases hin
                    refine o_aload_n hC dX8_makeGroup_120 (by rfl) ?_
                    refine o_sipush (v := nI 1360) hC dX8_makeGroup_121 (by decide +kernel) ?_
                    refine o_sipush (v := nI 1360) hC dX8_makeGroup_124 (by decide +kernel) ?_
                    refine o_iload hC dX8_makeGroup_127 (by rfl) ?_
                    refine o_if_eq (tgt := 147) hC dX8_makeGroup_129 (by decide) (fun _ => ?_) (fun q => absurd rfl q)
                    refine o_sipush (v := nI 1362) hC dX8_makeGroup_147 (by decide +kernel) ?_
                    refine o_iload hC dX8_makeGroup_150 (by rfl) ?_
                    refine o_iadd hC dX8_makeGroup_152 ?_
                    try rw [nI_add]
                    refine o_callV3 hC rl_BW_good rl_Ns_nw (by exact hB.2.2.2.2.2) YX8_both IX8_both VX8_both (mX8_184 hC) (by rw [hB.1]; exact cf_X8_both l D ids H0 _ _ m T _ _ _ 1360 1360 (1362 + i) W (ns.getD i []) hq2.rf (by omega) (by omega) (by omega) z1 hnw) (by exact hq2.1.1) rfl rfl (Nat.le_of_ble_eq_true rfl) (by rw [hB.2.1]; first | exact Nat.le_of_ble_eq_true rfl | (dsimp only; omega)) (by rw [hB.2.1]; first | exact Nat.le_of_ble_eq_true rfl | (dsimp only; omega)) (by rw [hB.2.1]; first | exact Nat.le_of_ble_eq_true rfl | (dsimp only; omega)) (by rw [hB.2.1]; first | exact Nat.le_of_ble_eq_true rfl | (dsimp only; omega)) dX8_makeGroup_153 (fun v h_153 n_153 p_153 => ?_)
                    obtain ⟨f153, k153, A153, rfl, rfl, q153, r153, w153⟩ := p_153
                    try dsimp only [Option.toList, List.cons_append, List.nil_append]
                    exact aft _ _ _ A153 _ _ (by rw [hin]; rfl) (hq2.tr q153) r153 (by unfold fnw; rw [hin]; exact w153)
                  · refine o_iconst (v := nI 1) hC dX8_makeGroup_113 (by decide +kernel) ?_
                    refine o_goto (tgt := 118) hC dX8_makeGroup_114 (by decide) ?_
                    refine o_istore hC dX8_makeGroup_118 (Nat.le_of_ble_eq_true rfl) ?_
                    have hin : inS s i = true := by
                      unfold inS
                      rw [decide_eq_false (fun e : fbt s i = 0 => absurd ((show nI 1 = (0 : Int32) from (show fbt s i = nI 1 from by first | exact c_110 | exact Classical.not_not.mp c_110).symm.trans e)) (by decide +kernel))]
                      rfl
                    refine o_aload_n hC dX8_makeGroup_120 (by rfl) ?_
                    refine o_sipush (v := nI 1360) hC dX8_makeGroup_121 (by decide +kernel) ?_
                    refine o_sipush (v := nI 1360) hC dX8_makeGroup_124 (by decide +kernel) ?_
                    refine o_iload hC dX8_makeGroup_127 (by rfl) ?_
                    refine o_if_eq (tgt := 147) hC dX8_makeGroup_129 (by decide) (fun q => absurd q (by decide +kernel)) (fun c_129 => ?_)
                    refine o_bipush (v := nI 80) hC dX8_makeGroup_132 (by decide +kernel) ?_
                    refine o_iload_n hC dX8_makeGroup_134 (by rfl) ?_
                    refine o_imul hC dX8_makeGroup_135 ?_
                    try rw [nI_mul]
                    refine o_aload_n hC dX8_makeGroup_136 (by rfl) ?_
                    refine o_getf hC (fX8_72 hC rfl) dX8_makeGroup_137 (by repeat (first | with_reducible assumption | (rw [rl_u_s]; done) | (rw [rl_u_s]; rfl) | rw [rl_u_n (by first | with_reducible assumption | omega)])) (by first | rfl | with_reducible assumption) ?_
                    refine o_iload hC dX8_makeGroup_140 (by rfl) ?_
                    obtain ⟨t142, ht142, et142, ea142⟩ := hG2 i (by omega) (by omega)
                    refine o_ialdN (t0 := 0) (k := i) hC rfl dX8_makeGroup_142 (by repeat (first | with_reducible assumption | (rw [rl_u_s]; done) | (rw [rl_u_s]; rfl) | rw [rl_u_n (by first | with_reducible assumption | omega)])) (by omega) (by decide) ?_
                    rw [et142]
                    refine o_iadd hC dX8_makeGroup_143 ?_
                    try rw [nI_add]
                    refine o_goto (tgt := 153) hC dX8_makeGroup_144 (by decide) ?_
                    refine o_callV3 hC rl_BW_good rl_Ns_nw (by exact hB.2.2.2.2.2) YX8_both IX8_both VX8_both (mX8_184 hC) (by rw [hB.1]; exact cf_X8_both l D ids H0 _ _ m T _ _ _ 1360 1360 (80 * b + t142) W (ark g i).2 hq2.rf (by omega) (by omega) (by omega) z1 (ea142 ▸ (hTb.2 t142 ht142).2)) (by exact hq2.1.1) rfl rfl (Nat.le_of_ble_eq_true rfl) (by rw [hB.2.1]; first | exact Nat.le_of_ble_eq_true rfl | (dsimp only; omega)) (by rw [hB.2.1]; first | exact Nat.le_of_ble_eq_true rfl | (dsimp only; omega)) (by rw [hB.2.1]; first | exact Nat.le_of_ble_eq_true rfl | (dsimp only; omega)) (by rw [hB.2.1]; first | exact Nat.le_of_ble_eq_true rfl | (dsimp only; omega)) dX8_makeGroup_153 (fun v h_153 n_153 p_153 => ?_)
                    obtain ⟨f153, k153, A153, rfl, rfl, q153, r153, w153⟩ := p_153
                    try dsimp only [Option.toList, List.cons_append, List.nil_append]
                    exact aft _ _ _ A153 _ _ (by rw [hin]; rfl) (hq2.tr q153) r153 (by unfold fnw; rw [hin]; exact w153)
          exact loop3 g.length 0 _ _ _ (A1.1, A1.2.1, A1.2.2.1, upd A1.2.2.2.1 1360 (nI 1), vp_updL A1.2.2.2.2.1 (12 * 1360) 0, vp_updL A1.2.2.2.2.2.1 (12 * 1360) 0, A1.2.2.2.2.2.2.1, A1.2.2.2.2.2.2.2.1, A1.2.2.2.2.2.2.2.2.1, A1.2.2.2.2.2.2.2.2.2.1, A1.2.2.2.2.2.2.2.2.2.2) (0, 0, 0, 0) _ _ (by omega) (Nat.le_refl _) (hq1.tr q71) ⟨rfl, rfl, rfl, fun q hq => if_neg hq, fun q hq => ⟨up_ne (by omega), up_ne (by omega)⟩, rfl⟩ (Or.inl ⟨rfl, [(0, 0)], mws_s (upd_at (f := A1.2.2.2.1) (k := 1360) (x := nI 1)) (up_at (f := A1.2.2.2.2.1) (k := 16320) (x := 0)) (up_at (f := A1.2.2.2.2.2.1) (k := 16320) (x := 0)), wok_s 0, rfl, rfl⟩)
  have loop1 : 1 < g.length → ∀ (mm i : Nat) (h1 : rl_H) (f1 : Int32) (k1 : Nat) (A1 : md_D), i + mm = g.length → mf ids h h1 m T f1 k1 A1 → mop A A1 a → mtb A1 a w tab → mgr A1 tb g → ((f1 = nI 0 ∧ ∃ ns : List (List tT), ns.length = i ∧ (∀ j : Nat, j < i → mws A1 (1362 + j) (ns.getD j [])) ∧ fnf g g.length 0 [] = fnf g mm i ns) ∨ (f1 = nI 1 ∧ fnf g g.length 0 [] = none)) → rl_G X (rl_e D ids H0) 3 [some (.ref m), some (.int (nI a)), some (.int (nI b)), some (.int (nI g.length)), some (.int (nI i)), none, none, none, none, none, none, none] [] h1 n 0 0 := by
    intro h1k mm
    induction mm with
    | zero =>
      intro i h1 f1 k1 A1 hm hq1 hop ht1 hG hst
      obtain ⟨hm0, g12, g13, g14, g15, g16, g17, g18, g19, g20, g21, g22⟩ := id hq1
      have g0 := hm0.1
      have gk := hm0.2.1
      refine o_iload hC dX8_makeGroup_3 (by rfl) ?_
      refine o_iload_n hC dX8_makeGroup_5 (by rfl) ?_
      refine o_icmp_ge (tgt := 49) hC dX8_makeGroup_6 (by decide) (fun c_6 => ?_) (fun c_6 => ?_)
      · refine o_iconst (v := nI 1) hC dX8_makeGroup_49 (by decide +kernel) ?_
        refine o_istore hC dX8_makeGroup_50 (Nat.le_of_ble_eq_true rfl) ?_
        have hfn : fnn g = fnf g g.length 0 [] := if_pos h1k
        rcases hst with ⟨rfl, ns, hl, hw9, hn9⟩ | ⟨rfl, hn9⟩
        · exact loop2 ns (by rw [hfn, hn9]; rfl) (2 ^ g.length - 1) 1 _ _ _ A1 (some tab) _ _ _ _ _ _ _ (by have := (pw_16 hk4).1; omega) (Nat.le_refl _) hq1 hop (Or.inl ⟨tab, rfl, rfl, ht1, hok⟩) (fun _ j hj => hw9 j (by omega)) hG rfl
        · obtain ⟨hm0, g12, g13, g14, g15, g16, g17, g18, g19, g20, g21, g22⟩ := id hq1
          have g0 := hm0.1
          have gk := hm0.2.1
          refine o_iload hC dX8_makeGroup_52 (by rfl) ?_
          refine o_iconst (v := nI 1) hC dX8_makeGroup_54 (by decide +kernel) ?_
          refine o_iload_n hC dX8_makeGroup_55 (by rfl) ?_
          refine o_ishl hC dX8_makeGroup_56 ?_
          rw [sh_1k hk4]
          refine o_icmp_ge (tgt := 328) hC dX8_makeGroup_57 (by decide) (fun c_57 => ?_) (fun c_57 => ?_)
          · refine o_vret hC hB dX8_makeGroup_328 (Nat.le_of_ble_eq_true rfl) (Nat.le_of_ble_eq_true rfl) ?_
            refine ⟨_, k1, A1, rfl, rfl, hq1, hop, Or.inr ⟨?_, rfl⟩⟩
            rw [hfn, hn9]
            rfl
          · refine o_aload_n hC dX8_makeGroup_60 (by rfl) ?_
            refine o_getf hC (fX8_91 hC rfl) dX8_makeGroup_61 (by repeat (first | with_reducible assumption | (rw [rl_u_s]; done) | (rw [rl_u_s]; rfl) | rw [rl_u_n (by first | with_reducible assumption | omega)])) (by first | rfl | with_reducible assumption) ?_
            refine o_if_ne (tgt := 328) hC dX8_makeGroup_64 (by decide) (fun c_64 => ?_) (fun c_64 => ?_)
            · refine o_vret hC hB dX8_makeGroup_328 (Nat.le_of_ble_eq_true rfl) (Nat.le_of_ble_eq_true rfl) ?_
              refine ⟨_, k1, A1, rfl, rfl, hq1, hop, Or.inr ⟨?_, rfl⟩⟩
              rw [hfn, hn9]
              rfl
            · exact absurd (show nI 1 = 0 from c_64) (by decide +kernel)
      · exact absurd (nI_le (by omega) (by omega)) c_6
    | succ mm ih =>
      intro i h1 f1 k1 A1 hm hq1 hop ht1 hG hst
      have hTb := hop.tb hwb6 hbk.2.2 (by omega) hbt hba
      obtain ⟨hm0, g12, g13, g14, g15, g16, g17, g18, g19, g20, g21, g22⟩ := id hq1
      have g0 := hm0.1
      have gk := hm0.2.1
      refine o_iload hC dX8_makeGroup_3 (by rfl) ?_
      refine o_iload_n hC dX8_makeGroup_5 (by rfl) ?_
      refine o_icmp_ge (tgt := 49) hC dX8_makeGroup_6 (by decide) (fun c_6 => ?_) (fun c_6 => ?_)
      · refine o_iconst (v := nI 1) hC dX8_makeGroup_49 (by decide +kernel) ?_
        refine o_istore hC dX8_makeGroup_50 (Nat.le_of_ble_eq_true rfl) ?_
        exact absurd c_6 (nI_ge (by omega) (by omega))
      · refine o_aload_n hC dX8_makeGroup_9 (by rfl) ?_
        refine o_getf hC (fX8_91 hC rfl) dX8_makeGroup_10 (by repeat (first | with_reducible assumption | (rw [rl_u_s]; done) | (rw [rl_u_s]; rfl) | rw [rl_u_n (by first | with_reducible assumption | omega)])) (by first | rfl | with_reducible assumption) ?_
        refine o_if_ne (tgt := 49) hC dX8_makeGroup_13 (by decide) (fun c_13 => ?_) (fun c_13 => ?_)
        · refine o_iconst (v := nI 1) hC dX8_makeGroup_49 (by decide +kernel) ?_
          refine o_istore hC dX8_makeGroup_50 (Nat.le_of_ble_eq_true rfl) ?_
          have hfn : fnn g = fnf g g.length 0 [] := if_pos h1k
          rcases hst with ⟨rfl, ns, hl, hw9, hn9⟩ | ⟨rfl, hn9⟩
          · exact absurd rfl c_13
          · obtain ⟨hm0, g12, g13, g14, g15, g16, g17, g18, g19, g20, g21, g22⟩ := id hq1
            have g0 := hm0.1
            have gk := hm0.2.1
            refine o_iload hC dX8_makeGroup_52 (by rfl) ?_
            refine o_iconst (v := nI 1) hC dX8_makeGroup_54 (by decide +kernel) ?_
            refine o_iload_n hC dX8_makeGroup_55 (by rfl) ?_
            refine o_ishl hC dX8_makeGroup_56 ?_
            rw [sh_1k hk4]
            refine o_icmp_ge (tgt := 328) hC dX8_makeGroup_57 (by decide) (fun c_57 => ?_) (fun c_57 => ?_)
            · refine o_vret hC hB dX8_makeGroup_328 (Nat.le_of_ble_eq_true rfl) (Nat.le_of_ble_eq_true rfl) ?_
              refine ⟨_, k1, A1, rfl, rfl, hq1, hop, Or.inr ⟨?_, rfl⟩⟩
              rw [hfn, hn9]
              rfl
            · refine o_aload_n hC dX8_makeGroup_60 (by rfl) ?_
              refine o_getf hC (fX8_91 hC rfl) dX8_makeGroup_61 (by repeat (first | with_reducible assumption | (rw [rl_u_s]; done) | (rw [rl_u_s]; rfl) | rw [rl_u_n (by first | with_reducible assumption | omega)])) (by first | rfl | with_reducible assumption) ?_
              refine o_if_ne (tgt := 328) hC dX8_makeGroup_64 (by decide) (fun c_64 => ?_) (fun c_64 => ?_)
              · refine o_vret hC hB dX8_makeGroup_328 (Nat.le_of_ble_eq_true rfl) (Nat.le_of_ble_eq_true rfl) ?_
                refine ⟨_, k1, A1, rfl, rfl, hq1, hop, Or.inr ⟨?_, rfl⟩⟩
                rw [hfn, hn9]
                rfl
              · exact absurd (show nI 1 = 0 from c_64) (by decide +kernel)
        · rcases hst with ⟨rfl, ns, hl, hw9, hn9⟩ | ⟨rfl, hn9⟩
          rotate_left
          · exact absurd c_13 (by decide +kernel)
          refine o_iload_n hC dX8_makeGroup_16 (by rfl) ?_
          refine o_iconst (v := nI 1) hC dX8_makeGroup_17 (by decide +kernel) ?_
          refine o_icmp_le (tgt := 43) hC dX8_makeGroup_18 (by decide) (fun c_18 => ?_) (fun c_18 => ?_)
          · refine o_iinc hC dX8_makeGroup_43 (by rfl) (rl_inc _) (Nat.le_of_ble_eq_true rfl) ?_
            refine o_goto (tgt := 3) hC dX8_makeGroup_46 (by decide) ?_
            exact absurd c_18 (nI_ge (by omega) (by omega))
          · refine o_aload_n hC dX8_makeGroup_21 (by rfl) ?_
            refine o_sipush (v := nI 1362) hC dX8_makeGroup_22 (by decide +kernel) ?_
            refine o_iload hC dX8_makeGroup_25 (by rfl) ?_
            refine o_iadd hC dX8_makeGroup_27 ?_
            try rw [nI_add]
            refine o_bipush (v := nI 80) hC dX8_makeGroup_28 (by decide +kernel) ?_
            refine o_iload_n hC dX8_makeGroup_30 (by rfl) ?_
            refine o_imul hC dX8_makeGroup_31 ?_
            try rw [nI_mul]
            refine o_aload_n hC dX8_makeGroup_32 (by rfl) ?_
            refine o_getf hC (fX8_72 hC rfl) dX8_makeGroup_33 (by repeat (first | with_reducible assumption | (rw [rl_u_s]; done) | (rw [rl_u_s]; rfl) | rw [rl_u_n (by first | with_reducible assumption | omega)])) (by first | rfl | with_reducible assumption) ?_
            refine o_iload hC dX8_makeGroup_36 (by rfl) ?_
            obtain ⟨t38, ht38, et38, ea38⟩ := hG i (by omega) (by omega)
            refine o_ialdN (t0 := 0) (k := i) hC rfl dX8_makeGroup_38 (by repeat (first | with_reducible assumption | (rw [rl_u_s]; done) | (rw [rl_u_s]; rfl) | rw [rl_u_n (by first | with_reducible assumption | omega)])) (by omega) (by decide) ?_
            rw [et38]
            refine o_iadd hC dX8_makeGroup_39 ?_
            try rw [nI_add]
            refine o_callV2 hC rl_BW_good rl_Ns_nw (by exact hB.2.2.2.2.2) YX8_not IX8_not VX8_not (mX8_187 hC) (by rw [hB.1]; exact cf_X8_not l D ids H0 _ _ m T _ _ _ (1362 + i) (80 * b + t38) (ark g i).2 hq1.rf (by omega) (by omega) (by omega) (ea38 ▸ (hTb.2 t38 ht38).2) rfl) (by exact hq1.1.1) rfl rfl (Nat.le_of_ble_eq_true rfl) (by rw [hB.2.1]; first | exact Nat.le_of_ble_eq_true rfl | (dsimp only; omega)) (by rw [hB.2.1]; first | exact Nat.le_of_ble_eq_true rfl | (dsimp only; omega)) (by rw [hB.2.1]; first | exact Nat.le_of_ble_eq_true rfl | (dsimp only; omega)) (by rw [hB.2.1]; first | exact Nat.le_of_ble_eq_true rfl | (dsimp only; omega)) dX8_makeGroup_40 (fun v h_40 n_40 p_40 => ?_)
            obtain ⟨f40, k40, A40, rfl, rfl, q40, r40, w40⟩ := p_40
            try dsimp only [Option.toList, List.cons_append, List.nil_append]
            refine o_iinc hC dX8_makeGroup_43 (by rfl) (rl_inc _) (Nat.le_of_ble_eq_true rfl) ?_
            refine o_goto (tgt := 3) hC dX8_makeGroup_46 (by decide) ?_
            refine ih (i + 1) _ f40 k40 A40 (by omega) (hq1.tr q40) (hop.tr (r40.op (by omega))) (ht1.rw hw6 hok.2.2 (by omega) r40 (by omega)) (fun j h1 h2 => ?_) ?_
            · obtain ⟨i2, e1, e2, e3⟩ := hG j h1 h2
              exact ⟨i2, e1, (congrFun (congrArg (fun z => z.2.1) r40.2.2.2.2.2) j).trans e2, e3⟩
            · rcases w40 with ⟨W, y1, y2, y3, y4⟩ | ⟨y1, y2⟩
              · refine Or.inl ⟨y2, ns ++ [W], by rw [List.length_append, hl]; rfl, fun j hj => ?_, by rw [hn9, fnf, y1]; rfl⟩
                by_cases e : j = i
                · rw [e, ← hl, getD_app_r, hl]
                  exact y3
                · rw [getD_app_l (by omega)]
                  exact r40.ws (by omega) (hw9 j (by omega))
              · exact Or.inr ⟨y2, by rw [hn9, fnf, y1]; rfl⟩
  have few : ¬ 1 < g.length → ∀ (mm i : Nat), i + mm = g.length → rl_G X (rl_e D ids H0) 3 [some (.ref m), some (.int (nI a)), some (.int (nI b)), some (.int (nI g.length)), some (.int (nI i)), none, none, none, none, none, none, none] [] h n 0 0 := by
    intro h1k mm
    induction mm with
    | zero =>
      intro i hm
      obtain ⟨hm0, g12, g13, g14, g15, g16, g17, g18, g19, g20, g21, g22⟩ := id hq
      have g0 := hm0.1
      have gk := hm0.2.1
      have b13 := hq.b13
      have b15 := hq.b15
      have b21 := hq.b21
      refine o_iload hC dX8_makeGroup_3 (by rfl) ?_
      refine o_iload_n hC dX8_makeGroup_5 (by rfl) ?_
      refine o_icmp_ge (tgt := 49) hC dX8_makeGroup_6 (by decide) (fun c_6 => ?_) (fun c_6 => ?_)
      · refine o_iconst (v := nI 1) hC dX8_makeGroup_49 (by decide +kernel) ?_
        refine o_istore hC dX8_makeGroup_50 (Nat.le_of_ble_eq_true rfl) ?_
        exact loop2 [] (if_neg h1k) (2 ^ g.length - 1) 1 _ _ _ A (some tab) _ _ _ _ _ _ _ (by have := (pw_16 hk4).1; omega) (Nat.le_refl _) hq mop.rf (Or.inl ⟨tab, rfl, hf0, hat, hok⟩) (fun q => absurd q h1k) hgr rfl
      · exact absurd (nI_le (by omega) (by omega)) c_6
    | succ mm ih =>
      intro i hm
      obtain ⟨hm0, g12, g13, g14, g15, g16, g17, g18, g19, g20, g21, g22⟩ := id hq
      have g0 := hm0.1
      have gk := hm0.2.1
      have b13 := hq.b13
      have b15 := hq.b15
      have b21 := hq.b21
      refine o_iload hC dX8_makeGroup_3 (by rfl) ?_
      refine o_iload_n hC dX8_makeGroup_5 (by rfl) ?_
      refine o_icmp_ge (tgt := 49) hC dX8_makeGroup_6 (by decide) (fun c_6 => ?_) (fun c_6 => ?_)
      · refine o_iconst (v := nI 1) hC dX8_makeGroup_49 (by decide +kernel) ?_
        refine o_istore hC dX8_makeGroup_50 (Nat.le_of_ble_eq_true rfl) ?_
        exact absurd c_6 (nI_ge (by omega) (by omega))
      · refine o_aload_n hC dX8_makeGroup_9 (by rfl) ?_
        refine o_getf hC (fX8_91 hC rfl) dX8_makeGroup_10 (by repeat (first | with_reducible assumption | (rw [rl_u_s]; done) | (rw [rl_u_s]; rfl) | rw [rl_u_n (by first | with_reducible assumption | omega)])) (by first | rfl | with_reducible assumption) ?_
        refine o_if_ne (tgt := 49) hC dX8_makeGroup_13 (by decide) (fun c_13 => ?_) (fun c_13 => ?_)
        · refine o_iconst (v := nI 1) hC dX8_makeGroup_49 (by decide +kernel) ?_
          refine o_istore hC dX8_makeGroup_50 (Nat.le_of_ble_eq_true rfl) ?_
          exact absurd hf0 c_13
        · refine o_iload_n hC dX8_makeGroup_16 (by rfl) ?_
          refine o_iconst (v := nI 1) hC dX8_makeGroup_17 (by decide +kernel) ?_
          refine o_icmp_le (tgt := 43) hC dX8_makeGroup_18 (by decide) (fun c_18 => ?_) (fun c_18 => ?_)
          · refine o_iinc hC dX8_makeGroup_43 (by rfl) (rl_inc _) (Nat.le_of_ble_eq_true rfl) ?_
            refine o_goto (tgt := 3) hC dX8_makeGroup_46 (by decide) ?_
            exact ih (i + 1) (by omega)
          · exact absurd (nI_le (by omega) (by decide)) c_18
  show rl_G X (rl_e D ids H0) 0 [some (.ref m), some (.int (nI a)), some (.int (nI b)), some (.int (nI g.length)), none, none, none, none, none, none, none, none] [] h n 0 0
  refine o_iconst (v := nI 0) hC dX8_makeGroup_0 (by decide +kernel) ?_
  refine o_istore hC dX8_makeGroup_1 (Nat.le_of_ble_eq_true rfl) ?_
  by_cases h1k : 1 < g.length
  · exact loop1 h1k g.length 0 _ _ _ A (by omega) hq mop.rf hat hgr (Or.inl ⟨hf0, [], rfl, fun j hj => absurd hj (by omega), rfl⟩)
  · exact few h1k g.length 0 (by omega)
end
section
/-! THE MODEL, functionally: makeFold, make -/

set_option maxHeartbeats 4000000 in
set_option maxRecDepth 100000 in
theorem cf_X8_makeFold (l : Launch) (D : va_G) (ids : Nat → ClassId) (H0 : Heap) (h : rl_H) (n : Nat) (m : Nat) (T : md_T) (fu : Int32) (k : Nat) (A : md_D) (S : md_A) (a b w wb ca cb kd : Nat) (tb : List arow) (r0 : Option (List arow)) (hq : mf ids h h m T fu k A) (hs : md_sa ids h m S) (ha : a < 16) (hb : b < 16) (hba : b ≠ a) (hw : S.2.2.2.2.2.2.2.2.2.2 a = nI w) (hw6 : w ≤ 6) (hwb : S.2.2.2.2.2.2.2.2.2.2 b = nI wb) (hwb6 : wb ≤ 6) (hbt : mtb A b wb tb) (hbk : aok wb tb) (hr0 : mst A a w fu r0) (hw2 : w = 2) (hnA : S.2.2.2.2.2.2.1 a = nI ca) (hca : ca < wb) (hnB : S.2.2.2.2.2.2.2.1 a = nI cb) (hcb : cb < wb) (hnC : S.2.2.2.2.2.2.2.2.1 a = nI kd) (hkd3 : kd ≤ 3) : rl_Met l (rl_e D ids H0) rl_BW rl_Ns yX8_makeFold cX8_makeFold 7 none ({ frames := 5, cells := 0, slots := 0, locals := 129 }) [.ref m, .int (nI a), .int (nI b)] h n (fun v h' n' => ∃ (fu' : Int32) (k' : Nat) (A' : md_D), v = none ∧ n' = n ∧ mf ids h h' m T fu' k' A' ∧ mop A A' a ∧ mst A' a w fu' (r0.bind (ffo tb ca cb kd tb.length 0))) := by
  have tl80 := hbk.2.2
  refine rl_Met.of (by decide +kernel) (Nat.le_of_ble_eq_true rfl) ?_
  intro X hC hB
  have loop : ∀ (mm t : Nat) (h1 : rl_H) (f1 : Int32) (k1 : Nat) (A1 : md_D) (r1 : Option (List arow)) (o4 o5 o6 : Option Value), t + mm = tb.length → mf ids h h1 m T f1 k1 A1 → mop A A1 a → mst A1 a w f1 r1 → r0.bind (ffo tb ca cb kd tb.length 0) = r1.bind (ffo tb ca cb kd mm t) → rl_G X (rl_e D ids H0) 2 [some (.ref m), some (.int (nI a)), some (.int (nI b)), some (.int (nI t)), o4, o5, o6] [] h1 n 0 0 := by
    intro mm
    induction mm with
    | zero =>
      intro t h1 f1 k1 A1 r1 o4 o5 o6 hm hq1 hop hst he
      have hTb := hop.tb hwb6 hbk.2.2 (by omega) hbt hba
      have hs1 := hq1.1.sa hs
      obtain ⟨hm0, g12, g13, g14, g15, g16, g17, g18, g19, g20, g21, g22⟩ := id hq1
      have g0 := hm0.1
      have gk := hm0.2.1
      obtain ⟨a1, a2, a3, a4, a5, a6, a7, a8, a9, a10, a11⟩ := id hs1
      refine o_iload_n hC dX8_makeFold_2 (by rfl) ?_
      refine o_aload_n hC dX8_makeFold_3 (by rfl) ?_
      refine o_getf hC (fX8_46 hC rfl) dX8_makeFold_4 (by repeat (first | with_reducible assumption | (rw [rl_u_s]; done) | (rw [rl_u_s]; rfl) | rw [rl_u_n (by first | with_reducible assumption | omega)])) (by first | rfl | with_reducible assumption) ?_
      refine o_iload_n hC dX8_makeFold_7 (by rfl) ?_
      refine o_ialdN (t0 := 0) (k := b) hC rfl dX8_makeFold_8 (by repeat (first | with_reducible assumption | (rw [rl_u_s]; done) | (rw [rl_u_s]; rfl) | rw [rl_u_n (by first | with_reducible assumption | omega)])) (by omega) (by decide) ?_
      rw [hTb.1]
      refine o_icmp_ge (tgt := 147) hC dX8_makeFold_9 (by decide) (fun c_9 => ?_) (fun c_9 => ?_)
      · refine o_vret hC hB dX8_makeFold_147 (Nat.le_of_ble_eq_true rfl) (Nat.le_of_ble_eq_true rfl) ?_
        refine ⟨f1, k1, A1, rfl, rfl, hq1, hop, ?_⟩
        rw [he, show r1.bind (ffo tb ca cb kd 0 t) = r1 by cases r1 <;> rfl]
        exact hst
      · exact absurd (nI_le (by omega) (by omega)) c_9
    | succ mm ih =>
      intro t h1 f1 k1 A1 r1 o4 o5 o6 hm hq1 hop hst he
      have hTb := hop.tb hwb6 hbk.2.2 (by omega) hbt hba
      have hs1 := hq1.1.sa hs
      obtain ⟨hm0, g12, g13, g14, g15, g16, g17, g18, g19, g20, g21, g22⟩ := id hq1
      have g0 := hm0.1
      have gk := hm0.2.1
      obtain ⟨a1, a2, a3, a4, a5, a6, a7, a8, a9, a10, a11⟩ := id hs1
      refine o_iload_n hC dX8_makeFold_2 (by rfl) ?_
      refine o_aload_n hC dX8_makeFold_3 (by rfl) ?_
      refine o_getf hC (fX8_46 hC rfl) dX8_makeFold_4 (by repeat (first | with_reducible assumption | (rw [rl_u_s]; done) | (rw [rl_u_s]; rfl) | rw [rl_u_n (by first | with_reducible assumption | omega)])) (by first | rfl | with_reducible assumption) ?_
      refine o_iload_n hC dX8_makeFold_7 (by rfl) ?_
      refine o_ialdN (t0 := 0) (k := b) hC rfl dX8_makeFold_8 (by repeat (first | with_reducible assumption | (rw [rl_u_s]; done) | (rw [rl_u_s]; rfl) | rw [rl_u_n (by first | with_reducible assumption | omega)])) (by omega) (by decide) ?_
      rw [hTb.1]
      refine o_icmp_ge (tgt := 147) hC dX8_makeFold_9 (by decide) (fun c_9 => ?_) (fun c_9 => ?_)
      · refine o_vret hC hB dX8_makeFold_147 (Nat.le_of_ble_eq_true rfl) (Nat.le_of_ble_eq_true rfl) ?_
        exact absurd c_9 (nI_ge (by omega) (by omega))
      · refine o_aload_n hC dX8_makeFold_12 (by rfl) ?_
        refine o_getf hC (fX8_91 hC rfl) dX8_makeFold_13 (by repeat (first | with_reducible assumption | (rw [rl_u_s]; done) | (rw [rl_u_s]; rfl) | rw [rl_u_n (by first | with_reducible assumption | omega)])) (by first | rfl | with_reducible assumption) ?_
        refine o_if_ne (tgt := 147) hC dX8_makeFold_16 (by decide) (fun c_16 => ?_) (fun c_16 => ?_)
        · refine o_vret hC hB dX8_makeFold_147 (Nat.le_of_ble_eq_true rfl) (Nat.le_of_ble_eq_true rfl) ?_
          rcases hst with ⟨tab1, rfl, rfl, ht1, hk1⟩ | ⟨rfl, rfl⟩
          · exact absurd rfl c_16
          · exact ⟨_, k1, A1, rfl, rfl, hq1, hop, Or.inr ⟨he, rfl⟩⟩
        · rcases hst with ⟨tab1, rfl, rfl, ht1, hk1⟩ | ⟨rfl, rfl⟩
          rotate_left
          · exact absurd c_16 (by decide +kernel)
          replace he : r0.bind (ffo tb ca cb kd tb.length 0) = ffo tb ca cb kd (mm + 1) t tab1 := he
          refine o_iconst (v := nI 0) hC dX8_makeFold_19 (by decide +kernel) ?_
          refine o_istore hC dX8_makeFold_20 (Nat.le_of_ble_eq_true rfl) ?_
          refine o_iconst (v := nI 1) hC dX8_makeFold_22 (by decide +kernel) ?_
          refine o_istore hC dX8_makeFold_23 (Nat.le_of_ble_eq_true rfl) ?_
          refine o_iconst (v := nI 0) hC dX8_makeFold_25 (by decide +kernel) ?_
          refine o_istore hC dX8_makeFold_26 (Nat.le_of_ble_eq_true rfl) ?_
          have loopU : ∀ (m2 u : Nat) (h2 : rl_H) (gr2 : Nat → Int32) (z : Int32), u + m2 = tb.length → mf ids h h2 m T (nI 0) k1 (A1.1, A1.2.1, A1.2.2.1, A1.2.2.2.1, A1.2.2.2.2.1, A1.2.2.2.2.2.1, A1.2.2.2.2.2.2.1, A1.2.2.2.2.2.2.2.1, A1.2.2.2.2.2.2.2.2.1, gr2, A1.2.2.2.2.2.2.2.2.2.2) → ((z = nI 1 ∧ ∀ j : Nat, j < u → fpr tb ca t (ark tb j) = true → t ≤ j) ∨ (z = nI 0 ∧ ∃ j : Nat, j < u ∧ j < t ∧ fpr tb ca t (ark tb j) = true)) → (∀ j : Nat, j < ((tb.take u).filter (fpr tb ca t)).length → j < 4 → ∃ i : Nat, i < tb.length ∧ gr2 j = nI i ∧ ark tb i = ark ((tb.take u).filter (fpr tb ca t)) j) → rl_G X (rl_e D ids H0) 28 [some (.ref m), some (.int (nI a)), some (.int (nI b)), some (.int (nI t)), some (.int (nI ((tb.take u).filter (fpr tb ca t)).length)), some (.int z), some (.int (nI u))] [] h2 n 0 0 := by
            intro m2
            induction m2 with
            | zero =>
              intro u h2 gr2 z hm2 hq2 hz hgi
              have eu : u = tb.length := by omega
              subst eu
              rw [List.take_length] at hgi ⊢
              have hs1 := hq2.1.sa hs
              obtain ⟨hm0, g12, g13, g14, g15, g16, g17, g18, g19, g20, g21, g22⟩ := id hq2
              have g0 := hm0.1
              have gk := hm0.2.1
              obtain ⟨a1, a2, a3, a4, a5, a6, a7, a8, a9, a10, a11⟩ := id hs1
              refine o_iload hC dX8_makeFold_28 (by rfl) ?_
              refine o_aload_n hC dX8_makeFold_30 (by rfl) ?_
              refine o_getf hC (fX8_46 hC rfl) dX8_makeFold_31 (by repeat (first | with_reducible assumption | (rw [rl_u_s]; done) | (rw [rl_u_s]; rfl) | rw [rl_u_n (by first | with_reducible assumption | omega)])) (by first | rfl | with_reducible assumption) ?_
              refine o_iload_n hC dX8_makeFold_34 (by rfl) ?_
              refine o_ialdN (t0 := 0) (k := b) hC rfl dX8_makeFold_35 (by repeat (first | with_reducible assumption | (rw [rl_u_s]; done) | (rw [rl_u_s]; rfl) | rw [rl_u_n (by first | with_reducible assumption | omega)])) (by omega) (by decide) ?_
              rw [hTb.1]
              refine o_icmp_ge (tgt := 109) hC dX8_makeFold_36 (by decide) (fun c_36 => ?_) (fun c_36 => ?_)
              · have hop2 : mop A (A1.1, A1.2.1, A1.2.2.1, A1.2.2.2.1, A1.2.2.2.2.1, A1.2.2.2.2.2.1, A1.2.2.2.2.2.2.1, A1.2.2.2.2.2.2.2.1, A1.2.2.2.2.2.2.2.2.1, gr2, A1.2.2.2.2.2.2.2.2.2.2) a := hop.tr ⟨fun _ _ => rfl, fun _ _ => rfl, rfl, fun _ _ _ => rfl, fun _ _ _ => ⟨rfl, rfl⟩, rfl⟩
                have ql : (tb.filter (fpr tb ca t)).length ≤ 80 := Nat.le_trans (List.length_filter_le _ _) tl80
                rcases hz with ⟨rfl, hz⟩ | ⟨rfl, j0, j1, j2, j3⟩
                · have hfst : ffr tb ca t t 0 = true := (ffr_all tb ca t t 0).mpr (fun q _ h2 e => absurd (hz q (by omega) (decide_eq_true e)) (by omega))
                  have hgp : tb.filter (fpr tb ca t) = fgp tb ca t := fgp_all (by omega) hfst
                  rw [ffo_1 hfst] at he
                  rw [hgp] at hgi ql ⊢
                  refine o_iload hC dX8_makeFold_109 (by rfl) ?_
                  refine o_if_eq (tgt := 128) hC dX8_makeFold_111 (by decide) (fun q => absurd q (by decide +kernel)) (fun c_111 => ?_)
                  refine o_iload hC dX8_makeFold_114 (by rfl) ?_
                  refine o_iconst (v := nI 4) hC dX8_makeFold_116 (by decide +kernel) ?_
                  refine o_icmp_le (tgt := 128) hC dX8_makeFold_117 (by decide) (fun c_117 => ?_) (fun c_117 => ?_)
                  · refine o_iload hC dX8_makeFold_128 (by rfl) ?_
                    refine o_if_eq (tgt := 141) hC dX8_makeFold_130 (by decide) (fun q => absurd q (by decide +kernel)) (fun c_130 => ?_)
                    have q4 : (fgp tb ca t).length ≤ 4 := (nI_leI (by omega) (by decide)).mp c_117
                    rw [if_neg (by omega)] at he
                    refine o_aload_n hC dX8_makeFold_133 (by rfl) ?_
                    refine o_iload_n hC dX8_makeFold_134 (by rfl) ?_
                    refine o_iload_n hC dX8_makeFold_135 (by rfl) ?_
                    refine o_iload hC dX8_makeFold_136 (by rfl) ?_
                    refine o_callV3 hC rl_BW_good rl_Ns_nw (by exact hB.2.2.2.2.2) YX8_makeGroup IX8_makeGroup VX8_makeGroup (mX8_190 hC) (by rw [hB.1]; exact cf_X8_makeGroup l D ids H0 _ _ m T _ _ _ S a b w wb ca cb kd tb tab1 (fgp tb ca t) hq2.rf hs1 ha hb hba hw hw2 hwb hwb6 (show mtb (A1.1, A1.2.1, A1.2.2.1, A1.2.2.2.1, A1.2.2.2.2.1, A1.2.2.2.2.2.1, A1.2.2.2.2.2.2.1, A1.2.2.2.2.2.2.2.1, A1.2.2.2.2.2.2.2.2.1, gr2, A1.2.2.2.2.2.2.2.2.2.2) b wb tb from hTb) hbk (show mtb (A1.1, A1.2.1, A1.2.2.1, A1.2.2.2.1, A1.2.2.2.2.1, A1.2.2.2.2.2.1, A1.2.2.2.2.2.2.1, A1.2.2.2.2.2.2.2.1, A1.2.2.2.2.2.2.2.2.1, gr2, A1.2.2.2.2.2.2.2.2.2.2) a w tab1 from ht1) hk1 rfl hnA hca hnB hcb hnC hkd3 q4 hgi) (by exact hq2.1.1) rfl rfl (Nat.le_of_ble_eq_true rfl) (by rw [hB.2.1]; first | exact Nat.le_of_ble_eq_true rfl | (dsimp only; omega)) (by rw [hB.2.1]; first | exact Nat.le_of_ble_eq_true rfl | (dsimp only; omega)) (by rw [hB.2.1]; first | exact Nat.le_of_ble_eq_true rfl | (dsimp only; omega)) (by rw [hB.2.1]; first | exact Nat.le_of_ble_eq_true rfl | (dsimp only; omega)) dX8_makeFold_138 (fun v h_138 n_138 p_138 => ?_)
                    obtain ⟨f138, k138, A4, rfl, rfl, q138, r138, u138⟩ := p_138
                    try dsimp only [Option.toList, List.cons_append, List.nil_append]
                    refine o_iinc hC dX8_makeFold_141 (by rfl) (rl_inc _) (Nat.le_of_ble_eq_true rfl) ?_
                    refine o_goto (tgt := 2) hC dX8_makeFold_144 (by decide) ?_
                    refine ih (t + 1) _ _ _ A4 (fgr ca cb kd tab1 (fgp tb ca t)) _ _ _ (by omega) (hq2.tr q138) (hop2.tr r138) u138 ?_
                    rw [he]
                  · refine o_aload_n hC dX8_makeFold_120 (by rfl) ?_
                    refine o_iconst (v := nI 1) hC dX8_makeFold_121 (by decide +kernel) ?_
                    refine o_putf hC (fX8_91 hC rfl) (fwX8 rfl rfl rfl (Or.inl rfl)) dX8_makeFold_122 (by repeat (first | with_reducible assumption | (rw [rl_u_s]; done) | (rw [rl_u_s]; rfl) | rw [rl_u_n (by first | with_reducible assumption | omega)])) (Nat.le_of_ble_eq_true rfl) ?_
                    try simp only [List.set_cons_zero, List.set_cons_succ]
                    refine o_goto (tgt := 141) hC dX8_makeFold_125 (by decide) ?_
                    refine o_iinc hC dX8_makeFold_141 (by rfl) (rl_inc _) (Nat.le_of_ble_eq_true rfl) ?_
                    refine o_goto (tgt := 2) hC dX8_makeFold_144 (by decide) ?_
                    have q4 : 4 < (fgp tb ca t).length := by
                      rcases Nat.lt_or_ge 4 (fgp tb ca t).length with q | q
                      · exact q
                      · exact absurd (nI_le q (by decide)) c_117
                    rw [if_pos q4] at he
                    exact ih (t + 1) _ _ _ _ none _ _ _ (by omega) (hq2.ob T (nI 1) k1 gk) hop2 (Or.inr ⟨rfl, rfl⟩) he
                · refine o_iload hC dX8_makeFold_109 (by rfl) ?_
                  refine o_if_eq (tgt := 128) hC dX8_makeFold_111 (by decide) (fun _ => ?_) (fun q => absurd rfl q)
                  refine o_iload hC dX8_makeFold_128 (by rfl) ?_
                  refine o_if_eq (tgt := 141) hC dX8_makeFold_130 (by decide) (fun _ => ?_) (fun q => absurd rfl q)
                  refine o_iinc hC dX8_makeFold_141 (by rfl) (rl_inc _) (Nat.le_of_ble_eq_true rfl) ?_
                  refine o_goto (tgt := 2) hC dX8_makeFold_144 (by decide) ?_
                  have hfst : ¬ ffr tb ca t t 0 = true := fun e => (ffr_all tb ca t t 0).mp e j0 (Nat.zero_le _) (by omega) (of_decide_eq_true j3)
                  rw [ffo_0 hfst] at he
                  exact ih (t + 1) _ _ _ _ (some tab1) _ _ _ (by omega) hq2 hop2 (Or.inl ⟨tab1, rfl, rfl, ht1, hk1⟩) he
              · exact absurd (nI_le (by omega) (by omega)) c_36
            | succ m2 ih2 =>
              intro u h2 gr2 z hm2 hq2 hz hgi
              have hul : u < tb.length := by omega
              have ql : ((tb.take u).filter (fpr tb ca t)).length ≤ u := Nat.le_trans (List.length_filter_le _ _) (by rw [List.length_take]; omega)
              have hs1 := hq2.1.sa hs
              obtain ⟨hm0, g12, g13, g14, g15, g16, g17, g18, g19, g20, g21, g22⟩ := id hq2
              have g0 := hm0.1
              have gk := hm0.2.1
              obtain ⟨a1, a2, a3, a4, a5, a6, a7, a8, a9, a10, a11⟩ := id hs1
              refine o_iload hC dX8_makeFold_28 (by rfl) ?_
              refine o_aload_n hC dX8_makeFold_30 (by rfl) ?_
              refine o_getf hC (fX8_46 hC rfl) dX8_makeFold_31 (by repeat (first | with_reducible assumption | (rw [rl_u_s]; done) | (rw [rl_u_s]; rfl) | rw [rl_u_n (by first | with_reducible assumption | omega)])) (by first | rfl | with_reducible assumption) ?_
              refine o_iload_n hC dX8_makeFold_34 (by rfl) ?_
              refine o_ialdN (t0 := 0) (k := b) hC rfl dX8_makeFold_35 (by repeat (first | with_reducible assumption | (rw [rl_u_s]; done) | (rw [rl_u_s]; rfl) | rw [rl_u_n (by first | with_reducible assumption | omega)])) (by omega) (by decide) ?_
              rw [hTb.1]
              refine o_icmp_ge (tgt := 109) hC dX8_makeFold_36 (by decide) (fun c_36 => ?_) (fun c_36 => ?_)
              · exact absurd c_36 (nI_ge (by omega) (by omega))
              · refine o_aload_n hC dX8_makeFold_39 (by rfl) ?_
                refine o_iload_n hC dX8_makeFold_40 (by rfl) ?_
                refine o_iload hC dX8_makeFold_41 (by rfl) ?_
                refine o_aload_n hC dX8_makeFold_43 (by rfl) ?_
                refine o_getf hC (fX8_28 hC rfl) dX8_makeFold_44 (by repeat (first | with_reducible assumption | (rw [rl_u_s]; done) | (rw [rl_u_s]; rfl) | rw [rl_u_n (by first | with_reducible assumption | omega)])) (by first | rfl | with_reducible assumption) ?_
                refine o_iload_n hC dX8_makeFold_47 (by rfl) ?_
                refine o_ialdN (t0 := 0) (k := a) hC rfl dX8_makeFold_48 (by repeat (first | with_reducible assumption | (rw [rl_u_s]; done) | (rw [rl_u_s]; rfl) | rw [rl_u_n (by first | with_reducible assumption | omega)])) (by omega) (by decide) ?_
                rw [hnA]
                refine o_callV3 hC rl_BW_good rl_Ns_nw (by exact hB.2.2.2.2.2) YX8_cellAt IX8_cellAt VX8_cellAt (mX8_138 hC) (by rw [hB.1]; exact cf_X8_cellAt l D ids H0 _ _ m T _ _ _ b u ca hq2.rf (by omega)) (by exact hq2.rf.1.1) rfl rfl (Nat.le_of_ble_eq_true rfl) (by rw [hB.2.1]; first | exact Nat.le_of_ble_eq_true rfl | (dsimp only; omega)) (by rw [hB.2.1]; first | exact Nat.le_of_ble_eq_true rfl | (dsimp only; omega)) (by rw [hB.2.1]; first | exact Nat.le_of_ble_eq_true rfl | (dsimp only; omega)) (by rw [hB.2.1]; first | exact Nat.le_of_ble_eq_true rfl | (dsimp only; omega)) dX8_makeFold_49 (fun v h_49 n_49 p_49 => ?_)
                obtain ⟨rfl, rfl, rfl⟩ := p_49
                try dsimp only [Option.toList, List.cons_append, List.nil_append]
                refine o_aload_n hC dX8_makeFold_52 (by rfl) ?_
                refine o_iload_n hC dX8_makeFold_53 (by rfl) ?_
                refine o_iload_n hC dX8_makeFold_54 (by rfl) ?_
                refine o_aload_n hC dX8_makeFold_55 (by rfl) ?_
                refine o_getf hC (fX8_28 hC rfl) dX8_makeFold_56 (by repeat (first | with_reducible assumption | (rw [rl_u_s]; done) | (rw [rl_u_s]; rfl) | rw [rl_u_n (by first | with_reducible assumption | omega)])) (by first | rfl | with_reducible assumption) ?_
                refine o_iload_n hC dX8_makeFold_59 (by rfl) ?_
                refine o_ialdN (t0 := 0) (k := a) hC rfl dX8_makeFold_60 (by repeat (first | with_reducible assumption | (rw [rl_u_s]; done) | (rw [rl_u_s]; rfl) | rw [rl_u_n (by first | with_reducible assumption | omega)])) (by omega) (by decide) ?_
                rw [hnA]
                refine o_callV3 hC rl_BW_good rl_Ns_nw (by exact hB.2.2.2.2.2) YX8_cellAt IX8_cellAt VX8_cellAt (mX8_138 hC) (by rw [hB.1]; exact cf_X8_cellAt l D ids H0 _ _ m T _ _ _ b t ca hq2.rf (by omega)) (by exact hq2.rf.1.1) rfl rfl (Nat.le_of_ble_eq_true rfl) (by rw [hB.2.1]; first | exact Nat.le_of_ble_eq_true rfl | (dsimp only; omega)) (by rw [hB.2.1]; first | exact Nat.le_of_ble_eq_true rfl | (dsimp only; omega)) (by rw [hB.2.1]; first | exact Nat.le_of_ble_eq_true rfl | (dsimp only; omega)) (by rw [hB.2.1]; first | exact Nat.le_of_ble_eq_true rfl | (dsimp only; omega)) dX8_makeFold_61 (fun v h_61 n_61 p_61 => ?_)
                obtain ⟨rfl, rfl, rfl⟩ := p_61
                try dsimp only [Option.toList, List.cons_append, List.nil_append]
                refine o_icmp_ne (tgt := 103) hC dX8_makeFold_64 (by decide) (fun c_64 => ?_) (fun c_64 => ?_)
                · refine o_iinc hC dX8_makeFold_103 (by rfl) (rl_inc _) (Nat.le_of_ble_eq_true rfl) ?_
                  refine o_goto (tgt := 28) hC dX8_makeFold_106 (by decide) ?_
                  have hp : ¬ fpr tb ca t (ark tb u) = true := fun e => c_64 (by rw [((hTb.2 u hul).cg hca), (hTb.2 t (by omega)).cg hca]; exact of_decide_eq_true e)
                  have ef : (tb.take (u + 1)).filter (fpr tb ca t) = (tb.take u).filter (fpr tb ca t) := by
                    rw [take_s hul, List.filter_append, List.filter_cons_of_neg hp, List.filter_nil, List.append_nil]
                  have lp := ih2 (u + 1) _ gr2 z (by omega) hq2 ?_ ?_
                  · rw [ef] at lp
                    exact lp
                  · rcases hz with ⟨e1, e2⟩ | ⟨e1, j, e2, e3, e4⟩
                    · refine Or.inl ⟨e1, fun j h1 h2 => ?_⟩
                      by_cases e : j = u
                      · rw [e] at h2
                        exact absurd h2 hp
                      · exact e2 j (by omega) h2
                    · exact Or.inr ⟨e1, j, by omega, e3, e4⟩
                  · rw [ef]
                    exact hgi
                · refine o_iload hC dX8_makeFold_67 (by rfl) ?_
                  refine o_if_eq (tgt := 82) hC dX8_makeFold_69 (by decide) (fun c_69 => ?_) (fun c_69 => ?_)
                  · refine o_iconst (v := nI 0) hC dX8_makeFold_82 (by decide +kernel) ?_
                    refine o_istore hC dX8_makeFold_83 (Nat.le_of_ble_eq_true rfl) ?_
                    refine o_iload hC dX8_makeFold_85 (by rfl) ?_
                    refine o_iconst (v := nI 4) hC dX8_makeFold_87 (by decide +kernel) ?_
                    refine o_icmp_ge (tgt := 100) hC dX8_makeFold_88 (by decide) (fun c_88 => ?_) (fun c_88 => ?_)
                    · refine o_iinc hC dX8_makeFold_100 (by rfl) (rl_inc _) (Nat.le_of_ble_eq_true rfl) ?_
                      refine o_iinc hC dX8_makeFold_103 (by rfl) (rl_inc _) (Nat.le_of_ble_eq_true rfl) ?_
                      refine o_goto (tgt := 28) hC dX8_makeFold_106 (by decide) ?_
                      have hp : fpr tb ca t (ark tb u) = true := decide_eq_true (by rw [← ((hTb.2 u hul).cg hca), ← (hTb.2 t (by omega)).cg hca]; first | exact c_64 | exact Classical.not_not.mp c_64)
                      have ef : (tb.take (u + 1)).filter (fpr tb ca t) = (tb.take u).filter (fpr tb ca t) ++ [ark tb u] := by
                        rw [take_s hul, List.filter_append, List.filter_cons_of_pos hp, List.filter_nil]
                      have el : ((tb.take (u + 1)).filter (fpr tb ca t)).length = ((tb.take u).filter (fpr tb ca t)).length + 1 := by
                        rw [ef, List.length_append]
                        rfl
                      rw [← el]
                      have h4q : 4 ≤ ((tb.take u).filter (fpr tb ca t)).length := (nI_leI (by decide) (by omega)).mp c_88
                      refine ih2 (u + 1) _ gr2 _ (by omega) hq2 ?_ ?_
                      · rcases hz with ⟨e1, -⟩ | ⟨-, j, e2, e3, e4⟩
                        · exact absurd (e1.symm.trans c_69) (by decide +kernel)
                        · exact Or.inr ⟨rfl, j, by omega, e3, e4⟩
                      · intro j h1 h2
                        rw [ef, ark_app_l (by omega)]
                        exact hgi j (by omega) h2
                    · have q4 : ((tb.take u).filter (fpr tb ca t)).length < 4 := by
                        rcases Nat.lt_or_ge ((tb.take u).filter (fpr tb ca t)).length 4 with w9 | w9
                        · exact w9
                        · exact absurd (nI_le w9 (by omega)) c_88
                      refine o_aload_n hC dX8_makeFold_91 (by rfl) ?_
                      refine o_getf hC (fX8_72 hC rfl) dX8_makeFold_92 (by repeat (first | with_reducible assumption | (rw [rl_u_s]; done) | (rw [rl_u_s]; rfl) | rw [rl_u_n (by first | with_reducible assumption | omega)])) (by first | rfl | with_reducible assumption) ?_
                      refine o_iload hC dX8_makeFold_95 (by rfl) ?_
                      refine o_iload hC dX8_makeFold_97 (by rfl) ?_
                      refine o_iastN (t0 := 0) hC rfl dX8_makeFold_99 (by repeat (first | with_reducible assumption | (rw [rl_u_s]; done) | (rw [rl_u_s]; rfl) | rw [rl_u_n (by first | with_reducible assumption | omega)])) (by omega) (by decide) ?_
                      refine o_iinc hC dX8_makeFold_100 (by rfl) (rl_inc _) (Nat.le_of_ble_eq_true rfl) ?_
                      refine o_iinc hC dX8_makeFold_103 (by rfl) (rl_inc _) (Nat.le_of_ble_eq_true rfl) ?_
                      refine o_goto (tgt := 28) hC dX8_makeFold_106 (by decide) ?_
                      have hp : fpr tb ca t (ark tb u) = true := decide_eq_true (by rw [← ((hTb.2 u hul).cg hca), ← (hTb.2 t (by omega)).cg hca]; first | exact c_64 | exact Classical.not_not.mp c_64)
                      have ef : (tb.take (u + 1)).filter (fpr tb ca t) = (tb.take u).filter (fpr tb ca t) ++ [ark tb u] := by
                        rw [take_s hul, List.filter_append, List.filter_cons_of_pos hp, List.filter_nil]
                      have el : ((tb.take (u + 1)).filter (fpr tb ca t)).length = ((tb.take u).filter (fpr tb ca t)).length + 1 := by
                        rw [ef, List.length_append]
                        rfl
                      rw [← el]
                      refine ih2 (u + 1) _ (upd gr2 ((tb.take u).filter (fpr tb ca t)).length (nI u)) _ (by omega) (hq2.s21 _ (md_bl hq2.b21 ⟨u, by omega, rfl⟩)) ?_ ?_
                      · rcases hz with ⟨e1, -⟩ | ⟨-, j, e2, e3, e4⟩
                        · exact absurd (e1.symm.trans c_69) (by decide +kernel)
                        · exact Or.inr ⟨rfl, j, by omega, e3, e4⟩
                      · intro j h1 h2
                        rw [el] at h1
                        rw [ef]
                        by_cases e : j = ((tb.take u).filter (fpr tb ca t)).length
                        · rw [e, ark_app_r]
                          exact ⟨u, hul, upd_at, rfl⟩
                        · rw [ark_app_l (by omega)]
                          obtain ⟨i, i1, i2, i3⟩ := hgi j (by omega) h2
                          exact ⟨i, i1, (if_neg e).trans i2, i3⟩
                  · refine o_iload hC dX8_makeFold_72 (by rfl) ?_
                    refine o_iload_n hC dX8_makeFold_74 (by rfl) ?_
                    refine o_icmp_lt (tgt := 82) hC dX8_makeFold_75 (by decide) (fun c_75 => ?_) (fun c_75 => ?_)
                    · refine o_iconst (v := nI 0) hC dX8_makeFold_82 (by decide +kernel) ?_
                      refine o_istore hC dX8_makeFold_83 (Nat.le_of_ble_eq_true rfl) ?_
                      refine o_iload hC dX8_makeFold_85 (by rfl) ?_
                      refine o_iconst (v := nI 4) hC dX8_makeFold_87 (by decide +kernel) ?_
                      refine o_icmp_ge (tgt := 100) hC dX8_makeFold_88 (by decide) (fun c_88 => ?_) (fun c_88 => ?_)
                      · refine o_iinc hC dX8_makeFold_100 (by rfl) (rl_inc _) (Nat.le_of_ble_eq_true rfl) ?_
                        refine o_iinc hC dX8_makeFold_103 (by rfl) (rl_inc _) (Nat.le_of_ble_eq_true rfl) ?_
                        refine o_goto (tgt := 28) hC dX8_makeFold_106 (by decide) ?_
                        have hp : fpr tb ca t (ark tb u) = true := decide_eq_true (by rw [← ((hTb.2 u hul).cg hca), ← (hTb.2 t (by omega)).cg hca]; first | exact c_64 | exact Classical.not_not.mp c_64)
                        have ef : (tb.take (u + 1)).filter (fpr tb ca t) = (tb.take u).filter (fpr tb ca t) ++ [ark tb u] := by
                          rw [take_s hul, List.filter_append, List.filter_cons_of_pos hp, List.filter_nil]
                        have el : ((tb.take (u + 1)).filter (fpr tb ca t)).length = ((tb.take u).filter (fpr tb ca t)).length + 1 := by
                          rw [ef, List.length_append]
                          rfl
                        rw [← el]
                        have h4q : 4 ≤ ((tb.take u).filter (fpr tb ca t)).length := (nI_leI (by decide) (by omega)).mp c_88
                        refine ih2 (u + 1) _ gr2 _ (by omega) hq2 ?_ ?_
                        · exact Or.inr ⟨rfl, u, by omega, (nI_ltI (by omega) (by omega)).mp c_75, hp⟩
                        · intro j h1 h2
                          rw [ef, ark_app_l (by omega)]
                          exact hgi j (by omega) h2
                      · have q4 : ((tb.take u).filter (fpr tb ca t)).length < 4 := by
                          rcases Nat.lt_or_ge ((tb.take u).filter (fpr tb ca t)).length 4 with w9 | w9
                          · exact w9
                          · exact absurd (nI_le w9 (by omega)) c_88
                        refine o_aload_n hC dX8_makeFold_91 (by rfl) ?_
                        refine o_getf hC (fX8_72 hC rfl) dX8_makeFold_92 (by repeat (first | with_reducible assumption | (rw [rl_u_s]; done) | (rw [rl_u_s]; rfl) | rw [rl_u_n (by first | with_reducible assumption | omega)])) (by first | rfl | with_reducible assumption) ?_
                        refine o_iload hC dX8_makeFold_95 (by rfl) ?_
                        refine o_iload hC dX8_makeFold_97 (by rfl) ?_
                        refine o_iastN (t0 := 0) hC rfl dX8_makeFold_99 (by repeat (first | with_reducible assumption | (rw [rl_u_s]; done) | (rw [rl_u_s]; rfl) | rw [rl_u_n (by first | with_reducible assumption | omega)])) (by omega) (by decide) ?_
                        refine o_iinc hC dX8_makeFold_100 (by rfl) (rl_inc _) (Nat.le_of_ble_eq_true rfl) ?_
                        refine o_iinc hC dX8_makeFold_103 (by rfl) (rl_inc _) (Nat.le_of_ble_eq_true rfl) ?_
                        refine o_goto (tgt := 28) hC dX8_makeFold_106 (by decide) ?_
                        have hp : fpr tb ca t (ark tb u) = true := decide_eq_true (by rw [← ((hTb.2 u hul).cg hca), ← (hTb.2 t (by omega)).cg hca]; first | exact c_64 | exact Classical.not_not.mp c_64)
                        have ef : (tb.take (u + 1)).filter (fpr tb ca t) = (tb.take u).filter (fpr tb ca t) ++ [ark tb u] := by
                          rw [take_s hul, List.filter_append, List.filter_cons_of_pos hp, List.filter_nil]
                        have el : ((tb.take (u + 1)).filter (fpr tb ca t)).length = ((tb.take u).filter (fpr tb ca t)).length + 1 := by
                          rw [ef, List.length_append]
                          rfl
                        rw [← el]
                        refine ih2 (u + 1) _ (upd gr2 ((tb.take u).filter (fpr tb ca t)).length (nI u)) _ (by omega) (hq2.s21 _ (md_bl hq2.b21 ⟨u, by omega, rfl⟩)) ?_ ?_
                        · exact Or.inr ⟨rfl, u, by omega, (nI_ltI (by omega) (by omega)).mp c_75, hp⟩
                        · intro j h1 h2
                          rw [el] at h1
                          rw [ef]
                          by_cases e : j = ((tb.take u).filter (fpr tb ca t)).length
                          · rw [e, ark_app_r]
                            exact ⟨u, hul, upd_at, rfl⟩
                          · rw [ark_app_l (by omega)]
                            obtain ⟨i, i1, i2, i3⟩ := hgi j (by omega) h2
                            exact ⟨i, i1, (if_neg e).trans i2, i3⟩
                    · refine o_iconst (v := nI 1) hC dX8_makeFold_78 (by decide +kernel) ?_
                      refine o_goto (tgt := 83) hC dX8_makeFold_79 (by decide) ?_
                      refine o_istore hC dX8_makeFold_83 (Nat.le_of_ble_eq_true rfl) ?_
                      refine o_iload hC dX8_makeFold_85 (by rfl) ?_
                      refine o_iconst (v := nI 4) hC dX8_makeFold_87 (by decide +kernel) ?_
                      refine o_icmp_ge (tgt := 100) hC dX8_makeFold_88 (by decide) (fun c_88 => ?_) (fun c_88 => ?_)
                      · refine o_iinc hC dX8_makeFold_100 (by rfl) (rl_inc _) (Nat.le_of_ble_eq_true rfl) ?_
                        refine o_iinc hC dX8_makeFold_103 (by rfl) (rl_inc _) (Nat.le_of_ble_eq_true rfl) ?_
                        refine o_goto (tgt := 28) hC dX8_makeFold_106 (by decide) ?_
                        have hp : fpr tb ca t (ark tb u) = true := decide_eq_true (by rw [← ((hTb.2 u hul).cg hca), ← (hTb.2 t (by omega)).cg hca]; first | exact c_64 | exact Classical.not_not.mp c_64)
                        have ef : (tb.take (u + 1)).filter (fpr tb ca t) = (tb.take u).filter (fpr tb ca t) ++ [ark tb u] := by
                          rw [take_s hul, List.filter_append, List.filter_cons_of_pos hp, List.filter_nil]
                        have el : ((tb.take (u + 1)).filter (fpr tb ca t)).length = ((tb.take u).filter (fpr tb ca t)).length + 1 := by
                          rw [ef, List.length_append]
                          rfl
                        rw [← el]
                        have h4q : 4 ≤ ((tb.take u).filter (fpr tb ca t)).length := (nI_leI (by decide) (by omega)).mp c_88
                        refine ih2 (u + 1) _ gr2 _ (by omega) hq2 ?_ ?_
                        · rcases hz with ⟨-, e2⟩ | ⟨e1, -⟩
                          · refine Or.inl ⟨rfl, fun j h1 h2 => ?_⟩
                            by_cases e : j = u
                            · rw [e]
                              exact Nat.le_of_not_lt (fun q => c_75 (nI_lt q (by omega)))
                            · exact e2 j (by omega) h2
                          · exact absurd e1 c_69
                        · intro j h1 h2
                          rw [ef, ark_app_l (by omega)]
                          exact hgi j (by omega) h2
                      · have q4 : ((tb.take u).filter (fpr tb ca t)).length < 4 := by
                          rcases Nat.lt_or_ge ((tb.take u).filter (fpr tb ca t)).length 4 with w9 | w9
                          · exact w9
                          · exact absurd (nI_le w9 (by omega)) c_88
                        refine o_aload_n hC dX8_makeFold_91 (by rfl) ?_
                        refine o_getf hC (fX8_72 hC rfl) dX8_makeFold_92 (by repeat (first | with_reducible assumption | (rw [rl_u_s]; done) | (rw [rl_u_s]; rfl) | rw [rl_u_n (by first | with_reducible assumption | omega)])) (by first | rfl | with_reducible assumption) ?_
                        refine o_iload hC dX8_makeFold_95 (by rfl) ?_
                        refine o_iload hC dX8_makeFold_97 (by rfl) ?_
                        refine o_iastN (t0 := 0) hC rfl dX8_makeFold_99 (by repeat (first | with_reducible assumption | (rw [rl_u_s]; done) | (rw [rl_u_s]; rfl) | rw [rl_u_n (by first | with_reducible assumption | omega)])) (by omega) (by decide) ?_
                        refine o_iinc hC dX8_makeFold_100 (by rfl) (rl_inc _) (Nat.le_of_ble_eq_true rfl) ?_
                        refine o_iinc hC dX8_makeFold_103 (by rfl) (rl_inc _) (Nat.le_of_ble_eq_true rfl) ?_
                        refine o_goto (tgt := 28) hC dX8_makeFold_106 (by decide) ?_
                        have hp : fpr tb ca t (ark tb u) = true := decide_eq_true (by rw [← ((hTb.2 u hul).cg hca), ← (hTb.2 t (by omega)).cg hca]; first | exact c_64 | exact Classical.not_not.mp c_64)
                        have ef : (tb.take (u + 1)).filter (fpr tb ca t) = (tb.take u).filter (fpr tb ca t) ++ [ark tb u] := by
                          rw [take_s hul, List.filter_append, List.filter_cons_of_pos hp, List.filter_nil]
                        have el : ((tb.take (u + 1)).filter (fpr tb ca t)).length = ((tb.take u).filter (fpr tb ca t)).length + 1 := by
                          rw [ef, List.length_append]
                          rfl
                        rw [← el]
                        refine ih2 (u + 1) _ (upd gr2 ((tb.take u).filter (fpr tb ca t)).length (nI u)) _ (by omega) (hq2.s21 _ (md_bl hq2.b21 ⟨u, by omega, rfl⟩)) ?_ ?_
                        · rcases hz with ⟨-, e2⟩ | ⟨e1, -⟩
                          · refine Or.inl ⟨rfl, fun j h1 h2 => ?_⟩
                            by_cases e : j = u
                            · rw [e]
                              exact Nat.le_of_not_lt (fun q => c_75 (nI_lt q (by omega)))
                            · exact e2 j (by omega) h2
                          · exact absurd e1 c_69
                        · intro j h1 h2
                          rw [el] at h1
                          rw [ef]
                          by_cases e : j = ((tb.take u).filter (fpr tb ca t)).length
                          · rw [e, ark_app_r]
                            exact ⟨u, hul, upd_at, rfl⟩
                          · rw [ark_app_l (by omega)]
                            obtain ⟨i, i1, i2, i3⟩ := hgi j (by omega) h2
                            exact ⟨i, i1, (if_neg e).trans i2, i3⟩
          exact loopU tb.length 0 _ A1.2.2.2.2.2.2.2.2.2.1 _ (by omega) hq1 (Or.inl ⟨rfl, fun j hj => absurd hj (by omega)⟩) (fun j hj => absurd hj (Nat.not_lt_zero j))
  show rl_G X (rl_e D ids H0) 0 [some (.ref m), some (.int (nI a)), some (.int (nI b)), none, none, none, none] [] h n 0 0
  refine o_iconst (v := nI 0) hC dX8_makeFold_0 (by decide +kernel) ?_
  refine o_istore_n hC dX8_makeFold_1 (Nat.le_of_ble_eq_true rfl) ?_
  exact loop tb.length 0 _ _ _ A r0 _ _ _ (by omega) hq mop.rf hr0 rfl

/-- how the model writes down a node -/
def mnd (S : md_A) (a op : Nat) (f2 f3 f4 f5 f6 f7 : Int32) : Prop := (op = 0 → S.2.2.2.2.1 a = f7) ∧ (1 ≤ op → S.2.2.2.2.1 a = f2) ∧ (op = 3 ∨ op = 4 ∨ op = 5 → S.2.2.2.2.2.1 a = f3) ∧ (op = 1 → S.2.2.2.2.2.2.1 a = f4 ∧ S.2.2.2.2.2.2.2.1 a = f6 ∧ S.2.2.2.2.2.2.2.2.1 a = f5 ∧ S.2.2.2.2.2.2.2.2.2.1 a = f7) ∧ (op = 2 → S.2.2.2.2.2.2.1 a = f7) ∧ (op = 3 → S.2.2.2.2.2.2.1 a = f4 ∧ S.2.2.2.2.2.2.2.1 a = f5) ∧ (op = 6 → S.2.2.2.2.2.2.1 a = f4 ∧ S.2.2.2.2.2.2.2.1 a = f5 ∧ S.2.2.2.2.2.2.2.2.1 a = f6)
theorem scl_csc {rs rc sf : Nat → Int32} {cf : Nat → Nat → Int32} {q : Int32} {w n : Nat} (hw : w ≤ 4) (h : ∀ r : Nat, r < n → rs r = sf r ∧ ∀ c : Nat, c < 4 → rc (4 * r + c) = cf r c) : scl rs rc q w 0 n = csc sf cf q w 0 n := by
  unfold scl csc
  have e1 : (List.range' 0 n).filter (fun r => decide (rs r = q)) = (List.range' 0 n).filter (fun r => decide (sf r = q)) := by
    refine List.filter_congr (fun r hr => ?_)
    have := List.mem_range'_1.mp hr
    rw [(h r (by omega)).1]
  rw [e1]
  refine List.map_congr_left (fun r hr => ?_)
  have := List.mem_range'_1.mp (List.mem_filter.mp hr).1
  rw [show rcl (fun c => rc (4 * r + c)) w = rcl (cf r) w from rsg_eq (fun i _ hi => (h r (by omega)).2 i (by omega))]

set_option maxHeartbeats 4000000 in
set_option maxRecDepth 100000 in
theorem cf_X8_make (l : Launch) (D : va_G) (ids : Nat → ClassId) (H0 : Heap) (h : rl_H) (n : Nat) (m : Nat) (T : md_T) (fu : Int32) (k : Nat) (A : md_D) (S : md_A) (a rr op w wb wd : Nat) (tb td : List arow) (sf : Nat → Int32) (cf : Nat → Nat → Int32) (f2 f3 f4 f5 f6 f7 : Int32) (hq : mf ids h h m T fu k A) (hs : md_sa ids h m S) (ha : a < 16) (hop : S.2.2.2.1 a = nI op) (hw : S.2.2.2.2.2.2.2.2.2.2 a = nI w) (hok : nd_f op w f4 f5 f6 f7 wb wd) (hrr : T.2.2.1 = nI rr) (hr36 : rr ≤ 36) (hfu : fu = nI 0) (hn : mnd S a op f2 f3 f4 f5 f6 f7) (hsr : ∀ r : Nat, r < rr → S.2.1 r = sf r ∧ ∀ c : Nat, c < 4 → S.2.2.1 (4 * r + c) = cf r c) (hi : 1 ≤ op → ∃ b : Nat, b < a ∧ f2 = nI b ∧ S.2.2.2.2.2.2.2.2.2.2 b = nI wb ∧ mtb A b wb tb ∧ aok wb tb) (hj : op = 3 ∨ op = 4 ∨ op = 5 → ∃ d : Nat, d < a ∧ f3 = nI d ∧ S.2.2.2.2.2.2.2.2.2.2 d = nI wd ∧ mtb A d wd td ∧ aok wd td) : rl_Met l (rl_e D ids H0) rl_BW rl_Ns yX8_make cX8_make 4 none ({ frames := 6, cells := 0, slots := 0, locals := 155 }) [.ref m, .int (nI a)] h n (fun v h' n' => ∃ (fu' : Int32) (k' : Nat) (A' : md_D), v = none ∧ n' = n ∧ mf ids h h' m T fu' k' A' ∧ mop A A' a ∧ mst A' a w fu' (nfn sf cf rr op w f4 f5 f6 f7 tb td)) := by
  obtain ⟨hm0, g12, g13, g14, g15, g16, g17, g18, g19, g20, g21, g22⟩ := id hq
  have g0 := hm0.1
  have gk := hm0.2.1
  have b13 := hq.b13
  have b15 := hq.b15
  have b21 := hq.b21
  obtain ⟨a1, a2, a3, a4, a5, a6, a7, a8, a9, a10, a11⟩ := id hs
  have op6 := hok.1
  have w6 := hok.2.2.1
  have w16 := hok.2.2.2.1
  have w26 := hok.2.2.2.2.1
  obtain ⟨n0, n1, n2, n3, n4, n5, n6⟩ := hn
  refine rl_Met.of (by decide +kernel) (Nat.le_of_ble_eq_true rfl) ?_
  intro X hC hB
  show rl_G X (rl_e D ids H0) 0 [some (.ref m), some (.int (nI a)), none, none] [] h n 0 0
  refine o_aload_n hC dX8_make_0 (by rfl) ?_
  refine o_getf hC (fX8_46 hC rfl) dX8_make_1 (by repeat (first | with_reducible assumption | (rw [rl_u_s]; done) | (rw [rl_u_s]; rfl) | rw [rl_u_n (by first | with_reducible assumption | omega)])) (by first | rfl | with_reducible assumption) ?_
  refine o_iload_n hC dX8_make_4 (by rfl) ?_
  refine o_iconst (v := nI 0) hC dX8_make_5 (by decide +kernel) ?_
  refine o_iastN (t0 := 0) hC rfl dX8_make_6 (by repeat (first | with_reducible assumption | (rw [rl_u_s]; done) | (rw [rl_u_s]; rfl) | rw [rl_u_n (by first | with_reducible assumption | omega)])) (by omega) (by decide) ?_
  refine o_aload_n hC dX8_make_7 (by rfl) ?_
  refine o_getf hC (fX8_22 hC rfl) dX8_make_8 (by repeat (first | with_reducible assumption | (rw [rl_u_s]; done) | (rw [rl_u_s]; rfl) | rw [rl_u_n (by first | with_reducible assumption | omega)])) (by first | rfl | with_reducible assumption) ?_
  refine o_iload_n hC dX8_make_11 (by rfl) ?_
  refine o_ialdN (t0 := 0) hC rfl dX8_make_12 (by repeat (first | with_reducible assumption | (rw [rl_u_s]; done) | (rw [rl_u_s]; rfl) | rw [rl_u_n (by first | with_reducible assumption | omega)])) (by omega) (by decide) ?_
  refine o_istore_n hC dX8_make_13 (Nat.le_of_ble_eq_true rfl) ?_
  refine o_aload_n hC dX8_make_14 (by rfl) ?_
  refine o_getf hC (fX8_25 hC rfl) dX8_make_15 (by repeat (first | with_reducible assumption | (rw [rl_u_s]; done) | (rw [rl_u_s]; rfl) | rw [rl_u_n (by first | with_reducible assumption | omega)])) (by first | rfl | with_reducible assumption) ?_
  refine o_iload_n hC dX8_make_18 (by rfl) ?_
  refine o_ialdN (t0 := 0) hC rfl dX8_make_19 (by repeat (first | with_reducible assumption | (rw [rl_u_s]; done) | (rw [rl_u_s]; rfl) | rw [rl_u_n (by first | with_reducible assumption | omega)])) (by omega) (by decide) ?_
  refine o_istore_n hC dX8_make_20 (Nat.le_of_ble_eq_true rfl) ?_
  refine o_aload_n hC dX8_make_21 (by rfl) ?_
  refine o_getf hC (fX8_19 hC rfl) dX8_make_22 (by repeat (first | with_reducible assumption | (rw [rl_u_s]; done) | (rw [rl_u_s]; rfl) | rw [rl_u_n (by first | with_reducible assumption | omega)])) (by first | rfl | with_reducible assumption) ?_
  refine o_iload_n hC dX8_make_25 (by rfl) ?_
  refine o_ialdN (t0 := 0) hC rfl dX8_make_26 (by repeat (first | with_reducible assumption | (rw [rl_u_s]; done) | (rw [rl_u_s]; rfl) | rw [rl_u_n (by first | with_reducible assumption | omega)])) (by omega) (by decide) ?_
  have hq1 := hq.s13 (upd A.2.1 a (nI 0)) (md_bd b13 ⟨0, by decide, rfl⟩)
  have hs1 := hq1.1.sa hs
  have hop1 : mop A (A.1, upd A.2.1 a (nI 0), A.2.2.1, A.2.2.2.1, A.2.2.2.2.1, A.2.2.2.2.2.1, A.2.2.2.2.2.2.1, A.2.2.2.2.2.2.2.1, A.2.2.2.2.2.2.2.2.1, A.2.2.2.2.2.2.2.2.2.1, A.2.2.2.2.2.2.2.2.2.2) a := ⟨fun _ _ => rfl, fun i hi => if_neg hi, rfl, fun _ _ _ => rfl, fun _ _ _ => ⟨rfl, rfl⟩, rfl⟩
  have hr0 : mst (A.1, upd A.2.1 a (nI 0), A.2.2.1, A.2.2.2.1, A.2.2.2.2.1, A.2.2.2.2.2.1, A.2.2.2.2.2.2.1, A.2.2.2.2.2.2.2.1, A.2.2.2.2.2.2.2.2.1, A.2.2.2.2.2.2.2.2.2.1, A.2.2.2.2.2.2.2.2.2.2) a w fu (some []) := Or.inl ⟨[], rfl, hfu, ⟨upd_at, fun j hj => absurd hj (Nat.not_lt_zero j)⟩, aok_nil w⟩
  rw [hop]
  rcases (show op = 0 ∨ op = 1 ∨ op = 2 ∨ op = 3 ∨ op = 4 ∨ op = 5 ∨ op = 6 by omega) with rfl | rfl | rfl | rfl | rfl | rfl | rfl
  · rw [n0 rfl]
    refine o_tableIn (off := 37) (tgt := 64) hC dX8_make_27 (by decide +kernel) (by decide +kernel) (by decide +kernel) (by decide) ?_
    refine o_aload_n hC dX8_make_64 (by rfl) ?_
    refine o_iload_n hC dX8_make_65 (by rfl) ?_
    refine o_iload_n hC dX8_make_66 (by rfl) ?_
    refine o_callV2 hC rl_BW_good rl_Ns_nw (by exact hB.2.2.2.2.2) YX8_makeScan IX8_makeScan VX8_makeScan (mX8_157 hC) (by rw [hB.1]; exact cf_X8_makeScan l D ids H0 _ _ m T _ _ _ S a w rr _ (some []) hq1.rf hs1 ha hw w6 (hok.2.2.2.2.2.1 rfl) hrr hr36 hr0) (by exact hq1.1.1) rfl rfl (Nat.le_of_ble_eq_true rfl) (by rw [hB.2.1]; first | exact Nat.le_of_ble_eq_true rfl | (dsimp only; omega)) (by rw [hB.2.1]; first | exact Nat.le_of_ble_eq_true rfl | (dsimp only; omega)) (by rw [hB.2.1]; first | exact Nat.le_of_ble_eq_true rfl | (dsimp only; omega)) (by rw [hB.2.1]; first | exact Nat.le_of_ble_eq_true rfl | (dsimp only; omega)) dX8_make_67 (fun v h_67 n_67 p_67 => ?_)
    obtain ⟨f67, k67, A67, rfl, rfl, q67, r67, u67⟩ := p_67
    try dsimp only [Option.toList, List.cons_append, List.nil_append]
    refine o_goto (tgt := 132) hC dX8_make_70 (by decide) ?_
    refine o_vret hC hB dX8_make_132 (Nat.le_of_ble_eq_true rfl) (Nat.le_of_ble_eq_true rfl) ?_
    refine ⟨f67, k67, A67, rfl, rfl, hq1.tr q67, hop1.tr r67, ?_⟩
    unfold nfn
    rw [if_pos rfl]
    rw [← scl_csc (hok.2.2.2.2.2.1 rfl) hsr]
    exact u67
  · obtain ⟨b, b1, rfl, hwb, hbt0, hbk⟩ := hi (by decide)
    rw [n1 (by decide)]
    have b16 : b < 16 := by omega
    have hbt := hop1.tb w16 hbk.2.2 (by omega) hbt0 (by omega)
    obtain ⟨rfl, ⟨c4, h4, rfl⟩, hf5, kd, h6, rfl⟩ := hok.2.2.2.2.2.2.1 rfl
    obtain ⟨m1, m2, m3, m4⟩ := n3 rfl
    have hoc : (oN f5 = none ∧ S.2.2.2.2.2.2.2.2.1 a = -1) ∨ ∃ c : Nat, oN f5 = some c ∧ c < w ∧ S.2.2.2.2.2.2.2.2.1 a = nI c := by
      rw [m3]
      rcases hf5 with rfl | ⟨c5, h5, rfl⟩
      · exact Or.inl ⟨if_pos rfl, rfl⟩
      · refine Or.inr ⟨c5, ?_, h5, rfl⟩
        unfold oN
        rw [if_neg (fun e => absurd (e ▸ (show (-1 : Int32) < 0 by decide +kernel)) (nI_pos (by omega))), iN_nI (by omega)]
    refine o_tableIn (off := 46) (tgt := 73) hC dX8_make_27 (by decide +kernel) (by decide +kernel) (by decide +kernel) (by decide) ?_
    refine o_aload_n hC dX8_make_73 (by rfl) ?_
    refine o_iload_n hC dX8_make_74 (by rfl) ?_
    refine o_iload_n hC dX8_make_75 (by rfl) ?_
    refine o_callV2 hC rl_BW_good rl_Ns_nw (by exact hB.2.2.2.2.2) YX8_makePick IX8_makePick VX8_makePick (mX8_160 hC) (by rw [hB.1]; exact cf_X8_makePick l D ids H0 _ _ m T _ _ _ S a b w w tb (some []) c4 (oN f5) hq1.rf hs1 ha b16 (by omega) hw w6 hwb w16 hbt hbk hr0 rfl m1 h4 hoc) (by exact hq1.1.1) rfl rfl (Nat.le_of_ble_eq_true rfl) (by rw [hB.2.1]; first | exact Nat.le_of_ble_eq_true rfl | (dsimp only; omega)) (by rw [hB.2.1]; first | exact Nat.le_of_ble_eq_true rfl | (dsimp only; omega)) (by rw [hB.2.1]; first | exact Nat.le_of_ble_eq_true rfl | (dsimp only; omega)) (by rw [hB.2.1]; first | exact Nat.le_of_ble_eq_true rfl | (dsimp only; omega)) dX8_make_76 (fun v h_76 n_76 p_76 => ?_)
    obtain ⟨f76, k76, A76, rfl, rfl, q76, r76, u76⟩ := p_76
    try dsimp only [Option.toList, List.cons_append, List.nil_append]
    refine o_goto (tgt := 132) hC dX8_make_79 (by decide) ?_
    refine o_vret hC hB dX8_make_132 (Nat.le_of_ble_eq_true rfl) (Nat.le_of_ble_eq_true rfl) ?_
    refine ⟨f76, k76, A76, rfl, rfl, hq1.tr q76, hop1.tr r76, ?_⟩
    unfold nfn
    rw [if_neg (by decide), if_pos rfl]
    rw [iN_nI (by omega)]
    rw [m2, m4] at u76
    exact u76
  · obtain ⟨b, b1, rfl, hwb, hbt0, hbk⟩ := hi (by decide)
    rw [n1 (by decide)]
    have b16 : b < 16 := by omega
    have hbt := hop1.tb w16 hbk.2.2 (by omega) hbt0 (by omega)
    obtain ⟨N, hN, rfl, hN0, hNz, hdg⟩ := hok.2.2.2.2.2.2.2.1 rfl
    refine o_tableIn (off := 55) (tgt := 82) hC dX8_make_27 (by decide +kernel) (by decide +kernel) (by decide +kernel) (by decide) ?_
    refine o_aload_n hC dX8_make_82 (by rfl) ?_
    refine o_iload_n hC dX8_make_83 (by rfl) ?_
    refine o_iload_n hC dX8_make_84 (by rfl) ?_
    refine o_callV2 hC rl_BW_good rl_Ns_nw (by exact hB.2.2.2.2.2) YX8_makeCols IX8_makeCols VX8_makeCols (mX8_163 hC) (by rw [hB.1]; exact cf_X8_makeCols l D ids H0 _ _ m T _ _ _ S a b w wb tb (some []) N hq1.rf hs1 ha b16 (by omega) hw w6 hwb w16 hbt hbk hr0 (n4 rfl) hN hN0 hNz hdg) (by exact hq1.1.1) rfl rfl (Nat.le_of_ble_eq_true rfl) (by rw [hB.2.1]; first | exact Nat.le_of_ble_eq_true rfl | (dsimp only; omega)) (by rw [hB.2.1]; first | exact Nat.le_of_ble_eq_true rfl | (dsimp only; omega)) (by rw [hB.2.1]; first | exact Nat.le_of_ble_eq_true rfl | (dsimp only; omega)) (by rw [hB.2.1]; first | exact Nat.le_of_ble_eq_true rfl | (dsimp only; omega)) dX8_make_85 (fun v h_85 n_85 p_85 => ?_)
    obtain ⟨f85, k85, A85, rfl, rfl, q85, r85, u85⟩ := p_85
    try dsimp only [Option.toList, List.cons_append, List.nil_append]
    refine o_goto (tgt := 132) hC dX8_make_88 (by decide) ?_
    refine o_vret hC hB dX8_make_132 (Nat.le_of_ble_eq_true rfl) (Nat.le_of_ble_eq_true rfl) ?_
    refine ⟨f85, k85, A85, rfl, rfl, hq1.tr q85, hop1.tr r85, ?_⟩
    unfold nfn
    rw [if_neg (by decide), if_neg (by decide), if_pos rfl]
    rw [iN_nI (by omega)]
    exact u85
  · obtain ⟨b, b1, rfl, hwb, hbt0, hbk⟩ := hi (by decide)
    rw [n1 (by decide)]
    have b16 : b < 16 := by omega
    have hbt := hop1.tb w16 hbk.2.2 (by omega) hbt0 (by omega)
    obtain ⟨d, d1, rfl, hwd, hdt0, hdk⟩ := hj (by decide)
    rw [n2 (by decide)]
    have d16 : d < 16 := by omega
    have hdt := hop1.tb w26 hdk.2.2 (by omega) hdt0 (by omega)
    obtain ⟨⟨c4, h4, rfl⟩, ⟨c5, h5, rfl⟩, hwd9⟩ := hok.2.2.2.2.2.2.2.2.1 rfl
    obtain ⟨m1, m2⟩ := n5 rfl
    refine o_tableIn (off := 64) (tgt := 91) hC dX8_make_27 (by decide +kernel) (by decide +kernel) (by decide +kernel) (by decide) ?_
    refine o_aload_n hC dX8_make_91 (by rfl) ?_
    refine o_iload_n hC dX8_make_92 (by rfl) ?_
    refine o_iload_n hC dX8_make_93 (by rfl) ?_
    refine o_iload_n hC dX8_make_94 (by rfl) ?_
    refine o_callV3 hC rl_BW_good rl_Ns_nw (by exact hB.2.2.2.2.2) YX8_makeJoin IX8_makeJoin VX8_makeJoin (mX8_166 hC) (by rw [hB.1]; exact cf_X8_makeJoin l D ids H0 _ _ m T _ _ _ S a b d w wb wd c4 c5 tb td (some []) hq1.rf hs1 ha b16 (by omega) hw w6 hwb w16 hbt hbk hr0 d16 (by omega) hwd w26 hdt hdk m1 h4 m2 h5 hwd9) (by exact hq1.1.1) rfl rfl (Nat.le_of_ble_eq_true rfl) (by rw [hB.2.1]; first | exact Nat.le_of_ble_eq_true rfl | (dsimp only; omega)) (by rw [hB.2.1]; first | exact Nat.le_of_ble_eq_true rfl | (dsimp only; omega)) (by rw [hB.2.1]; first | exact Nat.le_of_ble_eq_true rfl | (dsimp only; omega)) (by rw [hB.2.1]; first | exact Nat.le_of_ble_eq_true rfl | (dsimp only; omega)) dX8_make_95 (fun v h_95 n_95 p_95 => ?_)
    obtain ⟨f95, k95, A95, rfl, rfl, q95, r95, u95⟩ := p_95
    try dsimp only [Option.toList, List.cons_append, List.nil_append]
    refine o_goto (tgt := 132) hC dX8_make_98 (by decide) ?_
    refine o_vret hC hB dX8_make_132 (Nat.le_of_ble_eq_true rfl) (Nat.le_of_ble_eq_true rfl) ?_
    refine ⟨f95, k95, A95, rfl, rfl, hq1.tr q95, hop1.tr r95, ?_⟩
    unfold nfn
    rw [if_neg (by decide), if_neg (by decide), if_neg (by decide), if_pos rfl]
    rw [iN_nI (by omega), iN_nI (by omega)]
    exact u95
  · obtain ⟨b, b1, rfl, hwb, hbt0, hbk⟩ := hi (by decide)
    rw [n1 (by decide)]
    have b16 : b < 16 := by omega
    have hbt := hop1.tb w16 hbk.2.2 (by omega) hbt0 (by omega)
    obtain ⟨d, d1, rfl, hwd, hdt0, hdk⟩ := hj (by decide)
    rw [n2 (by decide)]
    have d16 : d < 16 := by omega
    have hdt := hop1.tb w26 hdk.2.2 (by omega) hdt0 (by omega)
    obtain ⟨rfl, rfl⟩ := hok.2.2.2.2.2.2.2.2.2.1 (Or.inl rfl)
    refine o_tableIn (off := 74) (tgt := 101) hC dX8_make_27 (by decide +kernel) (by decide +kernel) (by decide +kernel) (by decide) ?_
    refine o_aload_n hC dX8_make_101 (by rfl) ?_
    refine o_iload_n hC dX8_make_102 (by rfl) ?_
    refine o_iload_n hC dX8_make_103 (by rfl) ?_
    refine o_callV2 hC rl_BW_good rl_Ns_nw (by exact hB.2.2.2.2.2) YX8_makeUnite IX8_makeUnite VX8_makeUnite (mX8_169 hC) (by rw [hB.1]; exact cf_X8_makeUnite l D ids H0 _ _ m T _ _ _ S a b w w tb (some []) hq1.rf hs1 ha b16 (by omega) hw w6 hwb w16 hbt hbk hr0 rfl) (by exact hq1.1.1) rfl rfl (Nat.le_of_ble_eq_true rfl) (by rw [hB.2.1]; first | exact Nat.le_of_ble_eq_true rfl | (dsimp only; omega)) (by rw [hB.2.1]; first | exact Nat.le_of_ble_eq_true rfl | (dsimp only; omega)) (by rw [hB.2.1]; first | exact Nat.le_of_ble_eq_true rfl | (dsimp only; omega)) (by rw [hB.2.1]; first | exact Nat.le_of_ble_eq_true rfl | (dsimp only; omega)) dX8_make_104 (fun v h_104 n_104 p_104 => ?_)
    obtain ⟨f104, k104, A104, rfl, rfl, q104, r104, u104⟩ := p_104
    have hq2 := hq1.tr q104
    have hs2 := hq2.1.sa hs
    have hop2 := hop1.tr r104
    have hdt2 := hop2.tb w26 hdk.2.2 (by omega) hdt0 (by omega)
    try dsimp only [Option.toList, List.cons_append, List.nil_append]
    refine o_aload_n hC dX8_make_107 (by rfl) ?_
    refine o_iload_n hC dX8_make_108 (by rfl) ?_
    refine o_iload_n hC dX8_make_109 (by rfl) ?_
    refine o_callV2 hC rl_BW_good rl_Ns_nw (by exact hB.2.2.2.2.2) YX8_makeUnite IX8_makeUnite VX8_makeUnite (mX8_169 hC) (by rw [hB.1]; exact cf_X8_makeUnite l D ids H0 _ _ m T _ _ _ S a d w w td _ hq2.rf hs2 ha d16 (by omega) hw w6 hwd w26 hdt2 hdk u104 rfl) (by exact hq2.1.1) rfl rfl (Nat.le_of_ble_eq_true rfl) (by rw [hB.2.1]; first | exact Nat.le_of_ble_eq_true rfl | (dsimp only; omega)) (by rw [hB.2.1]; first | exact Nat.le_of_ble_eq_true rfl | (dsimp only; omega)) (by rw [hB.2.1]; first | exact Nat.le_of_ble_eq_true rfl | (dsimp only; omega)) (by rw [hB.2.1]; first | exact Nat.le_of_ble_eq_true rfl | (dsimp only; omega)) dX8_make_110 (fun v h_110 n_110 p_110 => ?_)
    obtain ⟨f110, k110, A110, rfl, rfl, q110, r110, u110⟩ := p_110
    try dsimp only [Option.toList, List.cons_append, List.nil_append]
    refine o_goto (tgt := 132) hC dX8_make_113 (by decide) ?_
    refine o_vret hC hB dX8_make_132 (Nat.le_of_ble_eq_true rfl) (Nat.le_of_ble_eq_true rfl) ?_
    refine ⟨f110, k110, A110, rfl, rfl, hq2.tr q110, hop2.tr r110, ?_⟩
    unfold nfn
    rw [if_neg (by decide), if_neg (by decide), if_neg (by decide), if_neg (by decide), if_pos rfl]
    exact u110
  · obtain ⟨b, b1, rfl, hwb, hbt0, hbk⟩ := hi (by decide)
    rw [n1 (by decide)]
    have b16 : b < 16 := by omega
    have hbt := hop1.tb w16 hbk.2.2 (by omega) hbt0 (by omega)
    obtain ⟨d, d1, rfl, hwd, hdt0, hdk⟩ := hj (by decide)
    rw [n2 (by decide)]
    have d16 : d < 16 := by omega
    have hdt := hop1.tb w26 hdk.2.2 (by omega) hdt0 (by omega)
    obtain ⟨rfl, rfl⟩ := hok.2.2.2.2.2.2.2.2.2.1 (Or.inr rfl)
    refine o_tableIn (off := 89) (tgt := 116) hC dX8_make_27 (by decide +kernel) (by decide +kernel) (by decide +kernel) (by decide) ?_
    refine o_aload_n hC dX8_make_116 (by rfl) ?_
    refine o_iload_n hC dX8_make_117 (by rfl) ?_
    refine o_iload_n hC dX8_make_118 (by rfl) ?_
    refine o_iload_n hC dX8_make_119 (by rfl) ?_
    refine o_callV3 hC rl_BW_good rl_Ns_nw (by exact hB.2.2.2.2.2) YX8_makeMinus IX8_makeMinus VX8_makeMinus (mX8_172 hC) (by rw [hB.1]; exact cf_X8_makeMinus l D ids H0 _ _ m T _ _ _ S a b d w w w tb td (some []) hq1.rf hs1 ha b16 (by omega) hw w6 hwb w16 hbt hbk hr0 d16 (by omega) hwd w26 hdt hdk rfl rfl) (by exact hq1.1.1) rfl rfl (Nat.le_of_ble_eq_true rfl) (by rw [hB.2.1]; first | exact Nat.le_of_ble_eq_true rfl | (dsimp only; omega)) (by rw [hB.2.1]; first | exact Nat.le_of_ble_eq_true rfl | (dsimp only; omega)) (by rw [hB.2.1]; first | exact Nat.le_of_ble_eq_true rfl | (dsimp only; omega)) (by rw [hB.2.1]; first | exact Nat.le_of_ble_eq_true rfl | (dsimp only; omega)) dX8_make_120 (fun v h_120 n_120 p_120 => ?_)
    obtain ⟨f120, k120, A120, rfl, rfl, q120, r120, u120⟩ := p_120
    try dsimp only [Option.toList, List.cons_append, List.nil_append]
    refine o_goto (tgt := 132) hC dX8_make_123 (by decide) ?_
    refine o_vret hC hB dX8_make_132 (Nat.le_of_ble_eq_true rfl) (Nat.le_of_ble_eq_true rfl) ?_
    refine ⟨f120, k120, A120, rfl, rfl, hq1.tr q120, hop1.tr r120, ?_⟩
    unfold nfn
    rw [if_neg (by decide), if_neg (by decide), if_neg (by decide), if_neg (by decide), if_neg (by decide), if_pos rfl]
    exact u120
  · obtain ⟨b, b1, rfl, hwb, hbt0, hbk⟩ := hi (by decide)
    rw [n1 (by decide)]
    have b16 : b < 16 := by omega
    have hbt := hop1.tb w16 hbk.2.2 (by omega) hbt0 (by omega)
    obtain ⟨rfl, ⟨c4, h4, rfl⟩, ⟨c5, h5, rfl⟩, kd, h6, rfl⟩ := hok.2.2.2.2.2.2.2.2.2.2 rfl
    obtain ⟨m1, m2, m3⟩ := n6 rfl
    refine o_tableOut (tgt := 126) hC dX8_make_27 (by decide +kernel) (by decide) ?_
    refine o_aload_n hC dX8_make_126 (by rfl) ?_
    refine o_iload_n hC dX8_make_127 (by rfl) ?_
    refine o_iload_n hC dX8_make_128 (by rfl) ?_
    refine o_callV2 hC rl_BW_good rl_Ns_nw (by exact hB.2.2.2.2.2) YX8_makeFold IX8_makeFold VX8_makeFold (mX8_175 hC) (by rw [hB.1]; exact cf_X8_makeFold l D ids H0 _ _ m T _ _ _ S a b 2 wb c4 c5 kd tb (some []) hq1.rf hs1 ha b16 (by omega) hw w6 hwb w16 hbt hbk hr0 rfl m1 h4 m2 h5 m3 h6) (by exact hq1.1.1) rfl rfl (Nat.le_of_ble_eq_true rfl) (by rw [hB.2.1]; first | exact Nat.le_of_ble_eq_true rfl | (dsimp only; omega)) (by rw [hB.2.1]; first | exact Nat.le_of_ble_eq_true rfl | (dsimp only; omega)) (by rw [hB.2.1]; first | exact Nat.le_of_ble_eq_true rfl | (dsimp only; omega)) (by rw [hB.2.1]; first | exact Nat.le_of_ble_eq_true rfl | (dsimp only; omega)) dX8_make_129 (fun v h_129 n_129 p_129 => ?_)
    obtain ⟨f129, k129, A129, rfl, rfl, q129, r129, u129⟩ := p_129
    try dsimp only [Option.toList, List.cons_append, List.nil_append]
    refine o_vret hC hB dX8_make_132 (Nat.le_of_ble_eq_true rfl) (Nat.le_of_ble_eq_true rfl) ?_
    refine ⟨f129, k129, A129, rfl, rfl, hq1.tr q129, hop1.tr r129, ?_⟩
    unfold nfn
    rw [if_neg (by decide), if_neg (by decide), if_neg (by decide), if_neg (by decide), if_neg (by decide), if_neg (by decide)]
    rw [iN_nI (by omega), iN_nI (by omega), iN_nI (by omega)]
    exact u129
end
