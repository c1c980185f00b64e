/-! THE MODEL, functionally: makeScan -/
/-- what SCAN gives of n rows from t on -/
abbrev scl (rs rc : Nat → Int32) (q : Int32) (w t n : Nat) : List (List Int32 × Option (List tT)) := ((List.range' t n).filter (fun r => decide (rs r = q))).map (fun r => (rcl (fun c => rc (4 * r + c)) w, some [(tbt r, (0 : Int64))]))
theorem wok_s (x : Int64) : wok [(x, (0 : Int64))] := ⟨List.pairwise_singleton _ _, fun e he => by rw [List.mem_singleton.mp he]; exact Int64.and_zero, List.pairwise_singleton _ _, Nat.le_of_ble_eq_true rfl⟩
theorem mws_s {A : md_D} {a : Nat} {x : Int64} (h1 : A.2.2.2.1 a = nI 1) (h2 : A.2.2.2.2.1 (12 * a) = x) (h3 : A.2.2.2.2.2.1 (12 * a) = 0) : mws A a [(x, (0 : Int64))] := by
  refine ⟨h1, Nat.le_of_ble_eq_true rfl, ?_⟩
  show [(A.2.2.2.2.1 (12 * a + 0), A.2.2.2.2.2.1 (12 * a + 0))] = _
  rw [Nat.add_zero, h2, h3]

set_option maxHeartbeats 4000000 in
set_option maxRecDepth 100000 in
theorem cf_X8_makeScan (l : Launch) (D : va_G) (ids : Nat → ClassId) (H0 : Heap) (h : rl_H) (n : Nat) (m : Nat) (T : md_T) (fu : Int32) (k : Nat) (A : md_D) (S : md_A) (a w rr : Nat) (q : Int32) (r0 : Option (List arow)) (hq : mf ids h h m T fu k A) (hs : md_sa ids h m S) (ha : a < 16) (hw : S.2.2.2.2.2.2.2.2.2.2 a = nI w) (hw6 : w ≤ 6) (hw4 : w ≤ 4) (hrr : T.2.2.1 = nI rr) (hr36 : rr ≤ 36) (hr0 : mst A a w fu r0) : rl_Met l (rl_e D ids H0) rl_BW rl_Ns yX8_makeScan cX8_makeScan 5 none ({ frames := 4, cells := 0, slots := 0, locals := 98 }) [.ref m, .int (nI a), .int q] h n (fun v h' n' => ∃ (fu' : Int32) (k' : Nat) (A' : md_D), v = none ∧ n' = n ∧ mf ids h h' m T fu' k' A' ∧ mop A A' a ∧ mst A' a w fu' (r0.bind (fun x => aall x (scl S.2.1 S.2.2.1 q w 0 rr)))) := by
  refine rl_Met.of (by decide +kernel) (Nat.le_of_ble_eq_true rfl) ?_
  intro X hC hB
  have loop : ∀ (mm t : Nat) (h1 : rl_H) (f1 : Int32) (k1 : Nat) (A1 : md_D) (r1 : Option (List arow)) (o4 : Option Value), t + mm = rr → mf ids h h1 m T f1 k1 A1 → mop A A1 a → mst A1 a w f1 r1 → r0.bind (fun x => aall x (scl S.2.1 S.2.2.1 q w 0 rr)) = r1.bind (fun x => aall x (scl S.2.1 S.2.2.1 q w t mm)) → rl_G X (rl_e D ids H0) 2 [some (.ref m), some (.int (nI a)), some (.int q), some (.int (nI t)), o4] [] h1 n 0 0 := by
    intro mm
    induction mm with
    | zero =>
      intro t h1 f1 k1 A1 r1 o4 hm hq1 hop hst he
      have hs1 := hq1.1.sa hs
      obtain ⟨hm0, g12, g13, g14, g15, g16, g17, g18, g19, g20, g21, g22⟩ := id hq1
      have g0 := hm0.1
      have gk := hm0.2.1
      obtain ⟨a1, a2, a3, a4, a5, a6, a7, a8, a9, a10, a11⟩ := id hs1
      refine o_iload_n hC dX8_makeScan_2 (by rfl) ?_
      refine o_aload_n hC dX8_makeScan_3 (by rfl) ?_
      refine o_getf hC (fX8_112 hC rfl) dX8_makeScan_4 (by repeat (first | with_reducible assumption | (rw [rl_u_s]; done) | (rw [rl_u_s]; rfl) | rw [rl_u_n (by first | with_reducible assumption | omega)])) (by first | rfl | with_reducible assumption) ?_
      rw [hrr]
      refine o_icmp_ge (tgt := 92) hC dX8_makeScan_7 (by decide) (fun c_7 => ?_) (fun c_7 => ?_)
      · refine o_vret hC hB dX8_makeScan_92 (Nat.le_of_ble_eq_true rfl) (Nat.le_of_ble_eq_true rfl) ?_
        refine ⟨f1, k1, A1, rfl, rfl, hq1, hop, ?_⟩
        rw [he, show r1.bind (fun x => aall x (scl S.2.1 S.2.2.1 q w t 0)) = r1 by cases r1 <;> rfl]
        exact hst
      · exact absurd (nI_le (by omega) (by omega)) c_7
    | succ mm ih =>
      intro t h1 f1 k1 A1 r1 o4 hm hq1 hop hst he
      have loopC : ∀ (m2 c : Nat) (h2 : rl_H) (tp2 : Nat → Int32), c + m2 = 4 → f1 = nI 0 → S.2.1 t = q → mf ids h h2 m T f1 k1 (A1.1, A1.2.1, A1.2.2.1, A1.2.2.2.1, A1.2.2.2.2.1, A1.2.2.2.2.2.1, A1.2.2.2.2.2.2.1, A1.2.2.2.2.2.2.2.1, tp2, A1.2.2.2.2.2.2.2.2.2.1, A1.2.2.2.2.2.2.2.2.2.2) → (∀ i : Nat, i < c → tp2 i = S.2.2.1 (4 * t + i)) → rl_G X (rl_e D ids H0) 30 [some (.ref m), some (.int (nI a)), some (.int q), some (.int (nI t)), some (.int (nI c))] [] h2 n 0 0 := by
        intro m2
        induction m2 with
        | zero =>
          intro c h2 tp2 hm2 hf1 hsq hq2 htp
          have ec : c = 4 := by omega
          subst ec
          rcases hst with ⟨tab1, rfl, -, ht1, hk1⟩ | ⟨-, hf2⟩
          rotate_left
          · exact absurd (hf1.symm.trans hf2) (by decide +kernel)
          subst hf1
          refine o_iload hC dX8_makeScan_30 (by rfl) ?_
          refine o_iconst (v := nI 4) hC dX8_makeScan_32 (by decide +kernel) ?_
          refine o_icmp_ge (tgt := 60) hC dX8_makeScan_33 (by decide) (fun c_33 => ?_) (fun c_33 => ?_)
          · refine o_aload_n hC dX8_makeScan_60 (by rfl) ?_
            refine o_sipush (v := nI 1360) hC dX8_makeScan_61 (by decide +kernel) ?_
            refine o_callV1 hC rl_BW_good rl_Ns_nw (by exact hB.2.2.2.2.2) YX8_truth IX8_truth VX8_truth (mX8_103 hC) (by rw [hB.1]; exact cf_X8_truth l D ids H0 _ _ m T _ _ _ 1360 hq2.rf (by decide)) (by exact hq2.1.1) rfl rfl (Nat.le_of_ble_eq_true rfl) (by rw [hB.2.1]; first | exact Nat.le_of_ble_eq_true rfl | (dsimp only; omega)) (by rw [hB.2.1]; first | exact Nat.le_of_ble_eq_true rfl | (dsimp only; omega)) (by rw [hB.2.1]; first | exact Nat.le_of_ble_eq_true rfl | (dsimp only; omega)) (by rw [hB.2.1]; first | exact Nat.le_of_ble_eq_true rfl | (dsimp only; omega)) dX8_makeScan_64 (fun v h_64 n_64 p_64 => ?_)
            obtain ⟨rfl, rfl, q64⟩ := p_64
            have hq3 := hq2.tr q64
            obtain ⟨-, g12, g13, g14, g15, g16, g17, g18, g19, g20, g21, g22⟩ := id hq3
            have g03 := hq3.1.1
            try dsimp only [Option.toList, List.cons_append, List.nil_append]
            refine o_aload_n hC dX8_makeScan_67 (by rfl) ?_
            refine o_getf hC (fX8_56 hC rfl) dX8_makeScan_68 (by repeat (first | with_reducible assumption | (rw [rl_u_s]; done) | (rw [rl_u_s]; rfl) | rw [rl_u_n (by first | with_reducible assumption | omega)])) (by first | rfl | with_reducible assumption) ?_
            refine o_sipush (v := nI 16320) hC dX8_makeScan_71 (by decide +kernel) ?_
            refine o_lconst (v := 1) hC dX8_makeScan_74 (by decide +kernel) ?_
            refine o_iload_n hC dX8_makeScan_75 (by rfl) ?_
            refine o_lshl hC dX8_makeScan_76 ?_
            refine o_lastN (t0 := 1) hC rfl dX8_makeScan_77 (by repeat (first | with_reducible assumption | (rw [rl_u_s]; done) | (rw [rl_u_s]; rfl) | rw [rl_u_n (by first | with_reducible assumption | omega)])) (by omega) (by decide) ?_
            have hq4 := hq3.s16 (vp_updL (vp_updL A1.2.2.2.2.1 (12 * 1360) 0) 16320 ((1 : Int64) <<< ((nI t).toInt64 &&& 63)))
            have hs4 := hq4.1.sa hs
            have tl1 := hk1.2.2
            have hws : mws (A1.1, A1.2.1, A1.2.2.1, upd A1.2.2.2.1 1360 (nI 1), (vp_updL (vp_updL A1.2.2.2.2.1 (12 * 1360) 0) 16320 ((1 : Int64) <<< ((nI t).toInt64 &&& 63))), vp_updL A1.2.2.2.2.2.1 (12 * 1360) 0, A1.2.2.2.2.2.2.1, A1.2.2.2.2.2.2.2.1, tp2, A1.2.2.2.2.2.2.2.2.2.1, A1.2.2.2.2.2.2.2.2.2.2) 1360 [(((1 : Int64) <<< ((nI t).toInt64 &&& 63)), (0 : Int64))] := mws_s (upd_at (f := A1.2.2.2.1) (k := 1360) (x := nI 1)) (up_at (f := vp_updL A1.2.2.2.2.1 (12 * 1360) 0) (k := 16320) (x := ((1 : Int64) <<< ((nI t).toInt64 &&& 63)))) (up_at (f := A1.2.2.2.2.2.1) (k := 16320) (x := 0))
            have hop4 : mop A1 (A1.1, A1.2.1, A1.2.2.1, upd A1.2.2.2.1 1360 (nI 1), (vp_updL (vp_updL A1.2.2.2.2.1 (12 * 1360) 0) 16320 ((1 : Int64) <<< ((nI t).toInt64 &&& 63))), vp_updL A1.2.2.2.2.2.1 (12 * 1360) 0, A1.2.2.2.2.2.2.1, A1.2.2.2.2.2.2.2.1, tp2, A1.2.2.2.2.2.2.2.2.2.1, A1.2.2.2.2.2.2.2.2.2.2) a := ⟨fun _ _ => rfl, fun _ _ => rfl, rfl, fun i _ h2 => if_neg (by omega), fun x _ h2 => ⟨(up_ne (by omega)).trans (up_ne (by omega)), up_ne (by omega)⟩, rfl⟩
            have ht4 : mtb (A1.1, A1.2.1, A1.2.2.1, upd A1.2.2.2.1 1360 (nI 1), (vp_updL (vp_updL A1.2.2.2.2.1 (12 * 1360) 0) 16320 ((1 : Int64) <<< ((nI t).toInt64 &&& 63))), vp_updL A1.2.2.2.2.2.1 (12 * 1360) 0, A1.2.2.2.2.2.2.1, A1.2.2.2.2.2.2.2.1, tp2, A1.2.2.2.2.2.2.2.2.2.1, A1.2.2.2.2.2.2.2.2.2.2) a w tab1 := ⟨ht1.1, fun j hj => (ht1.2 j hj).of hw6 (fun _ _ _ => rfl) (fun H => have l12 := H.2.1; ⟨(if_neg (by omega)).trans H.1, H.2.1, (tls_eq (fun i hi => ⟨(up_ne (by omega)).trans (up_ne (by omega)), up_ne (by omega)⟩)).trans H.2.2⟩)⟩
            have ekey : rcl tp2 w = rcl (fun c => S.2.2.1 (4 * t + c)) w := rsg_eq (fun i _ hi => htp i (by omega))
            refine o_aload_n hC dX8_makeScan_78 (by rfl) ?_
            refine o_iload_n hC dX8_makeScan_79 (by rfl) ?_
            refine o_sipush (v := nI 1360) hC dX8_makeScan_80 (by decide +kernel) ?_
            refine o_callV2 hC rl_BW_good rl_Ns_nw (by exact hB.2.2.2.2.2) YX8_comes IX8_comes VX8_comes (mX8_178 hC) (by rw [hB.1]; exact cf_X8_comes l D ids H0 _ _ m T _ _ _ S a 1360 w _ _ hq4.rf hs4 (by omega) (by omega) (by omega) hw hw6 rfl ht4 hk1 hws (wok_s _)) (by exact hq4.1.1) rfl rfl (Nat.le_of_ble_eq_true rfl) (by rw [hB.2.1]; first | exact Nat.le_of_ble_eq_true rfl | (dsimp only; omega)) (by rw [hB.2.1]; first | exact Nat.le_of_ble_eq_true rfl | (dsimp only; omega)) (by rw [hB.2.1]; first | exact Nat.le_of_ble_eq_true rfl | (dsimp only; omega)) (by rw [hB.2.1]; first | exact Nat.le_of_ble_eq_true rfl | (dsimp only; omega)) dX8_makeScan_83 (fun v h_83 n_83 p_83 => ?_)
            obtain ⟨f83, k83, A4, rfl, rfl, q83, r83, u83⟩ := p_83
            try dsimp only [Option.toList, List.cons_append, List.nil_append]
            refine o_iinc hC dX8_makeScan_86 (by rfl) (rl_inc _) (Nat.le_of_ble_eq_true rfl) ?_
            refine o_goto (tgt := 2) hC dX8_makeScan_89 (by decide) ?_
            have u9 : (∃ tab' : List arow, aput tab1 (rcl tp2 w) [(((1 : Int64) <<< ((nI t).toInt64 &&& 63)), (0 : Int64))] = some tab' ∧ f83 = nI 0 ∧ mtb A4 a w tab') ∨ (aput tab1 (rcl tp2 w) [(((1 : Int64) <<< ((nI t).toInt64 &&& 63)), (0 : Int64))] = none ∧ f83 = nI 1) := u83
            rw [ekey] at u9
            refine ih (t + 1) _ f83 k83 A4 (aput tab1 (rcl (fun c => S.2.2.1 (4 * t + c)) w) [(((1 : Int64) <<< ((nI t).toInt64 &&& 63)), (0 : Int64))]) _ (by omega) (hq4.tr q83) (hop.tr (hop4.tr r83.op)) ?_ ?_
            · rcases u9 with ⟨tab', h1, h2, h3⟩ | ⟨h1, h2⟩
              · exact Or.inl ⟨tab', h1, h2, h3, aput_ok hk1 (rsg_len _ 0 w) (wok_s _) h1⟩
              · exact Or.inr ⟨h1, h2⟩
            · rw [he]
              unfold scl
              rw [List.range'_succ, List.filter_cons_of_pos (p := fun r => decide (S.2.1 r = q)) (decide_eq_true hsq)]
              rfl
          · exact absurd (nI_le (by omega) (by omega)) c_33
        | succ m2 ih2 =>
          intro c h2 tp2 hm2 hf1 hsq hq2 htp
          have hs1 := hq2.1.sa hs
          obtain ⟨hm0, g12, g13, g14, g15, g16, g17, g18, g19, g20, g21, g22⟩ := id hq2
          have g0 := hm0.1
          have gk := hm0.2.1
          obtain ⟨a1, a2, a3, a4, a5, a6, a7, a8, a9, a10, a11⟩ := id hs1
          refine o_iload hC dX8_makeScan_30 (by rfl) ?_
          refine o_iconst (v := nI 4) hC dX8_makeScan_32 (by decide +kernel) ?_
          refine o_icmp_ge (tgt := 60) hC dX8_makeScan_33 (by decide) (fun c_33 => ?_) (fun c_33 => ?_)
          · exact absurd c_33 (nI_ge (by omega) (by omega))
          · refine o_aload_n hC dX8_makeScan_36 (by rfl) ?_
            refine o_getf hC (fX8_69 hC rfl) dX8_makeScan_37 (by repeat (first | with_reducible assumption | (rw [rl_u_s]; done) | (rw [rl_u_s]; rfl) | rw [rl_u_n (by first | with_reducible assumption | omega)])) (by first | rfl | with_reducible assumption) ?_
            refine o_iload hC dX8_makeScan_40 (by rfl) ?_
            refine o_aload_n hC dX8_makeScan_42 (by rfl) ?_
            refine o_getf hC (fX8_16 hC rfl) dX8_makeScan_43 (by repeat (first | with_reducible assumption | (rw [rl_u_s]; done) | (rw [rl_u_s]; rfl) | rw [rl_u_n (by first | with_reducible assumption | omega)])) (by first | rfl | with_reducible assumption) ?_
            refine o_iconst (v := nI 4) hC dX8_makeScan_46 (by decide +kernel) ?_
            refine o_iload_n hC dX8_makeScan_47 (by rfl) ?_
            refine o_imul hC dX8_makeScan_48 ?_
            try rw [nI_mul]
            refine o_iload hC dX8_makeScan_49 (by rfl) ?_
            refine o_iadd hC dX8_makeScan_51 ?_
            try rw [nI_add]
            refine o_ialdN (t0 := 0) hC rfl dX8_makeScan_52 (by repeat (first | with_reducible assumption | (rw [rl_u_s]; done) | (rw [rl_u_s]; rfl) | rw [rl_u_n (by first | with_reducible assumption | omega)])) (by omega) (by decide) ?_
            refine o_iastN (t0 := 0) hC rfl dX8_makeScan_53 (by repeat (first | with_reducible assumption | (rw [rl_u_s]; done) | (rw [rl_u_s]; rfl) | rw [rl_u_n (by first | with_reducible assumption | omega)])) (by omega) (by decide) ?_
            refine o_iinc hC dX8_makeScan_54 (by rfl) (rl_inc _) (Nat.le_of_ble_eq_true rfl) ?_
            refine o_goto (tgt := 30) hC dX8_makeScan_57 (by decide) ?_
            refine ih2 (c + 1) _ _ (by omega) hf1 hsq (hq2.s20 _) (fun i hi => ?_)
            by_cases e : i = c
            · subst e
              exact if_pos rfl
            · exact (if_neg e).trans (htp i (by omega))
      have hs1 := hq1.1.sa hs
      obtain ⟨hm0, g12, g13, g14, g15, g16, g17, g18, g19, g20, g21, g22⟩ := id hq1
      have g0 := hm0.1
      have gk := hm0.2.1
      obtain ⟨a1, a2, a3, a4, a5, a6, a7, a8, a9, a10, a11⟩ := id hs1
      refine o_iload_n hC dX8_makeScan_2 (by rfl) ?_
      refine o_aload_n hC dX8_makeScan_3 (by rfl) ?_
      refine o_getf hC (fX8_112 hC rfl) dX8_makeScan_4 (by repeat (first | with_reducible assumption | (rw [rl_u_s]; done) | (rw [rl_u_s]; rfl) | rw [rl_u_n (by first | with_reducible assumption | omega)])) (by first | rfl | with_reducible assumption) ?_
      rw [hrr]
      refine o_icmp_ge (tgt := 92) hC dX8_makeScan_7 (by decide) (fun c_7 => ?_) (fun c_7 => ?_)
      · refine o_vret hC hB dX8_makeScan_92 (Nat.le_of_ble_eq_true rfl) (Nat.le_of_ble_eq_true rfl) ?_
        exact absurd c_7 (nI_ge (by omega) (by omega))
      · refine o_aload_n hC dX8_makeScan_10 (by rfl) ?_
        refine o_getf hC (fX8_91 hC rfl) dX8_makeScan_11 (by repeat (first | with_reducible assumption | (rw [rl_u_s]; done) | (rw [rl_u_s]; rfl) | rw [rl_u_n (by first | with_reducible assumption | omega)])) (by first | rfl | with_reducible assumption) ?_
        refine o_if_ne (tgt := 92) hC dX8_makeScan_14 (by decide) (fun c_14 => ?_) (fun c_14 => ?_)
        · refine o_vret hC hB dX8_makeScan_92 (Nat.le_of_ble_eq_true rfl) (Nat.le_of_ble_eq_true rfl) ?_
          rcases hst with ⟨tab1, rfl, rfl, ht1, hk1⟩ | ⟨rfl, rfl⟩
          · exact absurd rfl c_14
          · exact ⟨_, k1, A1, rfl, rfl, hq1, hop, Or.inr ⟨he, rfl⟩⟩
        · refine o_aload_n hC dX8_makeScan_17 (by rfl) ?_
          refine o_getf hC (fX8_13 hC rfl) dX8_makeScan_18 (by repeat (first | with_reducible assumption | (rw [rl_u_s]; done) | (rw [rl_u_s]; rfl) | rw [rl_u_n (by first | with_reducible assumption | omega)])) (by first | rfl | with_reducible assumption) ?_
          refine o_iload_n hC dX8_makeScan_21 (by rfl) ?_
          refine o_ialdN (t0 := 0) hC rfl dX8_makeScan_22 (by repeat (first | with_reducible assumption | (rw [rl_u_s]; done) | (rw [rl_u_s]; rfl) | rw [rl_u_n (by first | with_reducible assumption | omega)])) (by omega) (by decide) ?_
          refine o_iload_n hC dX8_makeScan_23 (by rfl) ?_
          refine o_icmp_ne (tgt := 86) hC dX8_makeScan_24 (by decide) (fun c_24 => ?_) (fun c_24 => ?_)
          · refine o_iinc hC dX8_makeScan_86 (by rfl) (rl_inc _) (Nat.le_of_ble_eq_true rfl) ?_
            refine o_goto (tgt := 2) hC dX8_makeScan_89 (by decide) ?_
            rcases hst with hst | ⟨-, hf2⟩
            rotate_left
            · exact absurd (hf2.symm.trans c_14) (by decide +kernel)
            refine ih (t + 1) _ f1 k1 A1 r1 _ (by omega) hq1 hop (Or.inl hst) ?_
            rw [he]
            unfold scl
            rw [List.range'_succ, List.filter_cons_of_neg (p := fun r => decide (S.2.1 r = q)) (fun e => c_24 (of_decide_eq_true e))]
          · refine o_iconst (v := nI 0) hC dX8_makeScan_27 (by decide +kernel) ?_
            refine o_istore hC dX8_makeScan_28 (Nat.le_of_ble_eq_true rfl) ?_
            exact loopC 4 0 _ A1.2.2.2.2.2.2.2.2.1 (by omega) c_14 c_24 hq1 (fun i hi => absurd hi (by omega))
  show rl_G X (rl_e D ids H0) 0 [some (.ref m), some (.int (nI a)), some (.int q), none, none] [] h n 0 0
  refine o_iconst (v := nI 0) hC dX8_makeScan_0 (by decide +kernel) ?_
  refine o_istore_n hC dX8_makeScan_1 (Nat.le_of_ble_eq_true rfl) ?_
  exact loop rr 0 _ _ _ A r0 _ (by omega) hq mop.rf hr0 rfl
