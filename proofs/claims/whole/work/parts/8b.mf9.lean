/-! THE MODEL, functionally: makeCols -/
/-- what COLS makes of a TUPLE -/
abbrev ccl (N w : Nat) (r : arow) : List Int32 := rcl (fun c => acg r (N / 10 ^ c % 10 - 1)) w

set_option maxHeartbeats 4000000 in
set_option maxRecDepth 100000 in
theorem cf_X8_makeCols (l : Launch) (D : va_G) (ids : Nat → ClassId) (H0 : Heap) (h : rl_H) (n : Nat) (m : Nat) (T : md_T) (fu : Int32) (k : Nat) (A : md_D) (S : md_A) (a b w wb : Nat) (tb : List arow) (r0 : Option (List arow)) (N : Nat) (hq : mf ids h h m T fu k A) (hs : md_sa ids h m S) (ha : a < 16) (hb : b < 16) (hba : b ≠ a) (hw : S.2.2.2.2.2.2.2.2.2.2 a = nI w) (hw6 : w ≤ 6) (hwb : S.2.2.2.2.2.2.2.2.2.2 b = nI wb) (hwb6 : wb ≤ 6) (hbt : mtb A b wb tb) (hbk : aok wb tb) (hr0 : mst A a w fu r0) (hnA : S.2.2.2.2.2.2.1 a = nI N) (hN : N < 10 ^ 6) (hN0 : N / 10 ^ w = 0) (hNz : ∀ c : Nat, c < w → N / 10 ^ c ≠ 0) (hd : ∀ c : Nat, c < w → 1 ≤ N / 10 ^ c % 10 ∧ N / 10 ^ c % 10 ≤ wb) : rl_Met l (rl_e D ids H0) rl_BW rl_Ns yX8_makeCols cX8_makeCols 6 none ({ frames := 4, cells := 0, slots := 0, locals := 98 }) [.ref m, .int (nI a), .int (nI b)] h n (fun v h' n' => ∃ (fu' : Int32) (k' : Nat) (A' : md_D), v = none ∧ n' = n ∧ mf ids h h' m T fu' k' A' ∧ mop A A' a ∧ mst A' a w fu' (r0.bind (fun x => aall x (tb.map (fun r => (ccl N w r, some r.2)))))) := by
  have tl80 := hbk.2.2
  refine rl_Met.of (by decide +kernel) (Nat.le_of_ble_eq_true rfl) ?_
  intro X hC hB
  have loop : ∀ (mm t : Nat) (h1 : rl_H) (f1 : Int32) (k1 : Nat) (A1 : md_D) (r1 : Option (List arow)) (o4 o5 : Option Value), t + mm = tb.length → mf ids h h1 m T f1 k1 A1 → mop A A1 a → mst A1 a w f1 r1 → r0.bind (fun x => aall x (tb.map (fun r => (ccl N w r, some r.2)))) = r1.bind (fun x => aall x ((tb.map (fun r => (ccl N w r, some r.2))).drop t)) → rl_G X (rl_e D ids H0) 2 [some (.ref m), some (.int (nI a)), some (.int (nI b)), some (.int (nI t)), o4, o5] [] h1 n 0 0 := by
    intro mm
    induction mm with
    | zero =>
      intro t h1 f1 k1 A1 r1 o4 o5 hm hq1 hop hst he
      have et : t = tb.length := by omega
      subst et
      have hTb := hop.tb hwb6 hbk.2.2 (by omega) hbt hba
      have hs1 := hq1.1.sa hs
      obtain ⟨hm0, g12, g13, g14, g15, g16, g17, g18, g19, g20, g21, g22⟩ := id hq1
      have g0 := hm0.1
      have gk := hm0.2.1
      obtain ⟨a1, a2, a3, a4, a5, a6, a7, a8, a9, a10, a11⟩ := id hs1
      refine o_iload_n hC dX8_makeCols_2 (by rfl) ?_
      refine o_aload_n hC dX8_makeCols_3 (by rfl) ?_
      refine o_getf hC (fX8_46 hC rfl) dX8_makeCols_4 (by repeat (first | with_reducible assumption | (rw [rl_u_s]; done) | (rw [rl_u_s]; rfl) | rw [rl_u_n (by first | with_reducible assumption | omega)])) (by first | rfl | with_reducible assumption) ?_
      refine o_iload_n hC dX8_makeCols_7 (by rfl) ?_
      refine o_ialdN (t0 := 0) (k := b) hC rfl dX8_makeCols_8 (by repeat (first | with_reducible assumption | (rw [rl_u_s]; done) | (rw [rl_u_s]; rfl) | rw [rl_u_n (by first | with_reducible assumption | omega)])) (by omega) (by decide) ?_
      rw [hTb.1]
      refine o_icmp_ge (tgt := 85) hC dX8_makeCols_9 (by decide) (fun c_9 => ?_) (fun c_9 => ?_)
      · refine o_vret hC hB dX8_makeCols_85 (Nat.le_of_ble_eq_true rfl) (Nat.le_of_ble_eq_true rfl) ?_
        refine ⟨f1, k1, A1, rfl, rfl, hq1, hop, ?_⟩
        rw [he, show r1.bind (fun x => aall x ((tb.map (fun r => (ccl N w r, some r.2))).drop tb.length)) = r1 by rw [List.drop_eq_nil_of_le (by rw [List.length_map]; exact Nat.le_refl _)]; cases r1 <;> rfl]
        exact hst
      · exact absurd (nI_le (by omega) (by omega)) c_9
    | succ mm ih =>
      intro t h1 f1 k1 A1 r1 o4 o5 hm hq1 hop hst he
      have hTb := hop.tb hwb6 hbk.2.2 (by omega) hbt hba
      have hrt := hbk.2.1 _ (List.getElem_mem (show t < tb.length by omega))
      rw [← ark_at] at hrt
      have hrw := hTb.2 t (by omega)
      have loopC : ∀ (m2 c : Nat) (h2 : rl_H) (tp2 : Nat → Int32), c + m2 = w → f1 = nI 0 → mf ids h h2 m T f1 k1 (A1.1, A1.2.1, A1.2.2.1, A1.2.2.2.1, A1.2.2.2.2.1, A1.2.2.2.2.2.1, A1.2.2.2.2.2.2.1, A1.2.2.2.2.2.2.2.1, tp2, A1.2.2.2.2.2.2.2.2.2.1, A1.2.2.2.2.2.2.2.2.2.2) → (∀ i : Nat, i < c → tp2 i = acg (ark tb t) (N / 10 ^ i % 10 - 1)) → rl_G X (rl_e D ids H0) 30 [some (.ref m), some (.int (nI a)), some (.int (nI b)), some (.int (nI t)), some (.int (nI c)), some (.int (nI (N / 10 ^ c)))] [] h2 n 0 0 := by
        intro m2
        induction m2 with
        | zero =>
          intro c h2 tp2 hm2 hf1 hq2 htp
          have ec : c = w := by omega
          subst ec
          rw [hN0]
          have hs2 := hq2.1.sa hs
          rcases hst with ⟨tab1, rfl, -, ht1, hk1⟩ | ⟨-, hf2⟩
          rotate_left
          · exact absurd (hf1.symm.trans hf2) (by decide +kernel)
          subst hf1
          have ekey : rcl tp2 c = ccl N c (ark tb t) := rsg_eq (fun i _ hi => htp i (by omega))
          refine o_iload hC dX8_makeCols_30 (by rfl) ?_
          refine o_if_le (tgt := 68) hC dX8_makeCols_32 (by decide) (fun c_32 => ?_) (fun c_32 => ?_)
          · refine o_aload_n hC dX8_makeCols_68 (by rfl) ?_
            refine o_iload_n hC dX8_makeCols_69 (by rfl) ?_
            refine o_bipush (v := nI 80) hC dX8_makeCols_70 (by decide +kernel) ?_
            refine o_iload_n hC dX8_makeCols_72 (by rfl) ?_
            refine o_imul hC dX8_makeCols_73 ?_
            try rw [nI_mul]
            refine o_iload_n hC dX8_makeCols_74 (by rfl) ?_
            refine o_iadd hC dX8_makeCols_75 ?_
            try rw [nI_add]
            refine o_callV2 hC rl_BW_good rl_Ns_nw (by exact hB.2.2.2.2.2) YX8_comes IX8_comes VX8_comes (mX8_178 hC) (by rw [hB.1]; exact cf_X8_comes l D ids H0 _ _ m T _ _ _ S a (80 * b + t) c _ _ hq2.rf hs2 (by omega) (by omega) (by omega) hw hw6 rfl ht1 hk1 hrw.2 hrt.2.1) (by exact hq2.1.1) rfl rfl (Nat.le_of_ble_eq_true rfl) (by rw [hB.2.1]; first | exact Nat.le_of_ble_eq_true rfl | (dsimp only; omega)) (by rw [hB.2.1]; first | exact Nat.le_of_ble_eq_true rfl | (dsimp only; omega)) (by rw [hB.2.1]; first | exact Nat.le_of_ble_eq_true rfl | (dsimp only; omega)) (by rw [hB.2.1]; first | exact Nat.le_of_ble_eq_true rfl | (dsimp only; omega)) dX8_makeCols_76 (fun v h_76 n_76 p_76 => ?_)
            obtain ⟨f76, k76, A4, rfl, rfl, q76, r76, u76⟩ := p_76
            try dsimp only [Option.toList, List.cons_append, List.nil_append]
            refine o_iinc hC dX8_makeCols_79 (by rfl) (rl_inc _) (Nat.le_of_ble_eq_true rfl) ?_
            refine o_goto (tgt := 2) hC dX8_makeCols_82 (by decide) ?_
            have u9 : (∃ tab' : List arow, aput tab1 (rcl tp2 c) (ark tb t).2 = some tab' ∧ f76 = nI 0 ∧ mtb A4 a c tab') ∨ (aput tab1 (rcl tp2 c) (ark tb t).2 = none ∧ f76 = nI 1) := u76
            rw [ekey] at u9
            refine ih (t + 1) _ f76 k76 A4 (aput tab1 (ccl N c (ark tb t)) (ark tb t).2) _ _ (by omega) (hq2.tr q76) (hop.tr (mop.tr ⟨fun _ _ => rfl, fun _ _ => rfl, rfl, fun _ _ _ => rfl, fun _ _ _ => ⟨rfl, rfl⟩, rfl⟩ r76.op)) ?_ ?_
            · rcases u9 with ⟨tab', h1, h2, h3⟩ | ⟨h1, h2⟩
              · exact Or.inl ⟨tab', h1, h2, h3, aput_ok hk1 (rsg_len _ 0 c) hrt.2.1 h1⟩
              · exact Or.inr ⟨h1, h2⟩
            · rw [he, ark_drop (show t < tb.length by omega)]
              rfl
          · exact absurd (by decide +kernel) c_32
        | succ m2 ih2 =>
          intro c h2 tp2 hm2 hf1 hq2 htp
          have NR : N / 10 ^ c ≤ N := Nat.div_le_self _ _
          have NL : N < 1000000 := hN
          obtain ⟨R, hR⟩ : ∃ R : Nat, R = N / 10 ^ c := ⟨_, rfl⟩
          have hR10 : N / 10 ^ (c + 1) = R / 10 := by rw [hR, Nat.div_div_eq_div_mul, Nat.pow_succ]
          have hdg := hd c (by omega)
          have hnz := hNz c (by omega)
          rw [← hR] at hdg NR hnz ⊢
          obtain ⟨hm0, g12, g13, g14, g15, g16, g17, g18, g19, g20, g21, g22⟩ := id hq2
          have g0 := hm0.1
          have gk := hm0.2.1
          refine o_iload hC dX8_makeCols_30 (by rfl) ?_
          refine o_if_le (tgt := 68) hC dX8_makeCols_32 (by decide) (fun c_32 => ?_) (fun c_32 => ?_)
          · exact absurd (show nI R ≤ nI 0 from c_32) (nI_ge (by omega) (by omega))
          · refine o_aload_n hC dX8_makeCols_35 (by rfl) ?_
            refine o_getf hC (fX8_69 hC rfl) dX8_makeCols_36 (by repeat (first | with_reducible assumption | (rw [rl_u_s]; done) | (rw [rl_u_s]; rfl) | rw [rl_u_n (by first | with_reducible assumption | omega)])) (by first | rfl | with_reducible assumption) ?_
            refine o_iload hC dX8_makeCols_39 (by rfl) ?_
            refine o_aload_n hC dX8_makeCols_41 (by rfl) ?_
            refine o_iload_n hC dX8_makeCols_42 (by rfl) ?_
            refine o_iload_n hC dX8_makeCols_43 (by rfl) ?_
            refine o_iload hC dX8_makeCols_44 (by rfl) ?_
            refine o_bipush (v := nI 10) hC dX8_makeCols_46 (by decide +kernel) ?_
            obtain ⟨e, he1⟩ : ∃ e : Nat, R % 10 = e + 1 := ⟨R % 10 - 1, by omega⟩
            have he6 : e < wb := by omega
            refine o_irem hC dX8_makeCols_48 (by decide +kernel) ?_
            rw [pk_rem (by omega) (by decide) (by decide), he1]
            refine o_iconst (v := nI 1) hC dX8_makeCols_49 (by decide +kernel) ?_
            refine o_isub hC dX8_makeCols_50 ?_
            rw [rl_pred e]
            refine o_callV3 hC rl_BW_good rl_Ns_nw (by exact hB.2.2.2.2.2) YX8_cellAt IX8_cellAt VX8_cellAt (mX8_138 hC) (by rw [hB.1]; exact cf_X8_cellAt l D ids H0 _ _ m T _ _ _ b t e hq2.rf (by omega)) (by exact hq2.rf.1.1) rfl rfl (Nat.le_of_ble_eq_true rfl) (by rw [hB.2.1]; first | exact Nat.le_of_ble_eq_true rfl | (dsimp only; omega)) (by rw [hB.2.1]; first | exact Nat.le_of_ble_eq_true rfl | (dsimp only; omega)) (by rw [hB.2.1]; first | exact Nat.le_of_ble_eq_true rfl | (dsimp only; omega)) (by rw [hB.2.1]; first | exact Nat.le_of_ble_eq_true rfl | (dsimp only; omega)) dX8_makeCols_51 (fun v h_51 n_51 p_51 => ?_)
            obtain ⟨rfl, rfl, rfl⟩ := p_51
            try dsimp only [Option.toList, List.cons_append, List.nil_append]
            refine o_iastN (t0 := 0) hC rfl dX8_makeCols_54 (by repeat (first | with_reducible assumption | (rw [rl_u_s]; done) | (rw [rl_u_s]; rfl) | rw [rl_u_n (by first | with_reducible assumption | omega)])) (by omega) (by decide) ?_
            refine o_iinc hC dX8_makeCols_55 (by rfl) (rl_inc _) (Nat.le_of_ble_eq_true rfl) ?_
            refine o_iload hC dX8_makeCols_58 (by rfl) ?_
            refine o_bipush (v := nI 10) hC dX8_makeCols_60 (by decide +kernel) ?_
            refine o_idiv hC dX8_makeCols_62 (by decide +kernel) ?_
            rw [pk_div (by omega) (by decide) (by decide), ← hR10]
            refine o_istore hC dX8_makeCols_63 (Nat.le_of_ble_eq_true rfl) ?_
            refine o_goto (tgt := 30) hC dX8_makeCols_65 (by decide) ?_
            refine ih2 (c + 1) _ _ (by omega) hf1 (hq2.s20 _) (fun i hi => ?_)
            by_cases e2 : i = c
            · subst e2
              refine (if_pos rfl).trans ?_
              show mcl A1 b t e = _
              rw [hrw.cg he6, ← hR, he1, Nat.add_sub_cancel]
            · exact (if_neg e2).trans (htp i (by omega))
      have hs1 := hq1.1.sa hs
      obtain ⟨hm0, g12, g13, g14, g15, g16, g17, g18, g19, g20, g21, g22⟩ := id hq1
      have g0 := hm0.1
      have gk := hm0.2.1
      obtain ⟨a1, a2, a3, a4, a5, a6, a7, a8, a9, a10, a11⟩ := id hs1
      refine o_iload_n hC dX8_makeCols_2 (by rfl) ?_
      refine o_aload_n hC dX8_makeCols_3 (by rfl) ?_
      refine o_getf hC (fX8_46 hC rfl) dX8_makeCols_4 (by repeat (first | with_reducible assumption | (rw [rl_u_s]; done) | (rw [rl_u_s]; rfl) | rw [rl_u_n (by first | with_reducible assumption | omega)])) (by first | rfl | with_reducible assumption) ?_
      refine o_iload_n hC dX8_makeCols_7 (by rfl) ?_
      refine o_ialdN (t0 := 0) (k := b) hC rfl dX8_makeCols_8 (by repeat (first | with_reducible assumption | (rw [rl_u_s]; done) | (rw [rl_u_s]; rfl) | rw [rl_u_n (by first | with_reducible assumption | omega)])) (by omega) (by decide) ?_
      rw [hTb.1]
      refine o_icmp_ge (tgt := 85) hC dX8_makeCols_9 (by decide) (fun c_9 => ?_) (fun c_9 => ?_)
      · refine o_vret hC hB dX8_makeCols_85 (Nat.le_of_ble_eq_true rfl) (Nat.le_of_ble_eq_true rfl) ?_
        exact absurd c_9 (nI_ge (by omega) (by omega))
      · refine o_aload_n hC dX8_makeCols_12 (by rfl) ?_
        refine o_getf hC (fX8_91 hC rfl) dX8_makeCols_13 (by repeat (first | with_reducible assumption | (rw [rl_u_s]; done) | (rw [rl_u_s]; rfl) | rw [rl_u_n (by first | with_reducible assumption | omega)])) (by first | rfl | with_reducible assumption) ?_
        refine o_if_ne (tgt := 85) hC dX8_makeCols_16 (by decide) (fun c_16 => ?_) (fun c_16 => ?_)
        · refine o_vret hC hB dX8_makeCols_85 (Nat.le_of_ble_eq_true rfl) (Nat.le_of_ble_eq_true rfl) ?_
          rcases hst with ⟨tab1, rfl, rfl, ht1, hk1⟩ | ⟨rfl, rfl⟩
          · exact absurd rfl c_16
          · exact ⟨_, k1, A1, rfl, rfl, hq1, hop, Or.inr ⟨he, rfl⟩⟩
        · refine o_iconst (v := nI 0) hC dX8_makeCols_19 (by decide +kernel) ?_
          refine o_istore hC dX8_makeCols_20 (Nat.le_of_ble_eq_true rfl) ?_
          refine o_aload_n hC dX8_makeCols_22 (by rfl) ?_
          refine o_getf hC (fX8_28 hC rfl) dX8_makeCols_23 (by repeat (first | with_reducible assumption | (rw [rl_u_s]; done) | (rw [rl_u_s]; rfl) | rw [rl_u_n (by first | with_reducible assumption | omega)])) (by first | rfl | with_reducible assumption) ?_
          refine o_iload_n hC dX8_makeCols_26 (by rfl) ?_
          refine o_ialdN (t0 := 0) (k := a) hC rfl dX8_makeCols_27 (by repeat (first | with_reducible assumption | (rw [rl_u_s]; done) | (rw [rl_u_s]; rfl) | rw [rl_u_n (by first | with_reducible assumption | omega)])) (by omega) (by decide) ?_
          rw [hnA]
          refine o_istore hC dX8_makeCols_28 (Nat.le_of_ble_eq_true rfl) ?_
          have lp := loopC w 0 _ A1.2.2.2.2.2.2.2.2.1 (by omega) c_16 hq1 (fun i hi => absurd hi (by omega))
          rw [Nat.pow_zero, Nat.div_one] at lp
          exact lp
  show rl_G X (rl_e D ids H0) 0 [some (.ref m), some (.int (nI a)), some (.int (nI b)), none, none, none] [] h n 0 0
  refine o_iconst (v := nI 0) hC dX8_makeCols_0 (by decide +kernel) ?_
  refine o_istore_n hC dX8_makeCols_1 (Nat.le_of_ble_eq_true rfl) ?_
  exact loop tb.length 0 _ _ _ A r0 _ _ (by omega) hq mop.rf hr0 rfl
