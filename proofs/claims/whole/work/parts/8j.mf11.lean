/-! THE MODEL, functionally: makeGroup, makeFold -/
/-- a group of the model: where its TUPLES are -/
def mgr (A : md_D) (tb g : List arow) : Prop := ∀ j : Nat, j < g.length → j < 4 → ∃ i : Nat, i < tb.length ∧ A.2.2.2.2.2.2.2.2.2.1 j = nI i ∧ ark tb i = ark g j
theorem ffr_all (tb : List arow) (c t : Nat) : ∀ (m u : Nat), ffr tb c t m u = true ↔ ∀ q : Nat, u ≤ q → q < u + m → ¬ acg (ark tb q) c = acg (ark tb t) c
  | 0, u => ⟨fun _ q h1 h2 => by omega, fun _ => rfl⟩
  | m + 1, u => by
    unfold ffr
    by_cases e : acg (ark tb u) c = acg (ark tb t) c
    · rw [if_pos e]
      exact ⟨fun h => (by cases h), fun h => absurd e (h u (Nat.le_refl _) (by omega))⟩
    · rw [if_neg e, ffr_all tb c t m (u + 1)]
      refine ⟨fun h q h1 h2 => ?_, fun h q h1 h2 => h q (by omega) (by omega)⟩
      by_cases e2 : q = u
      · rw [e2]
        exact e
      · exact h q (by omega) (by omega)
theorem fgp_all {tb : List arow} {c t : Nat} (ht : t ≤ tb.length) (h : ffr tb c t t 0 = true) : tb.filter (fpr tb c t) = fgp tb c t := by
  have e : tb.filter (fpr tb c t) = (tb.take t).filter (fpr tb c t) ++ (tb.drop t).filter (fpr tb c t) := by
    rw [← List.filter_append, List.take_append_drop]
  rw [e, List.filter_eq_nil_iff.mpr, List.nil_append]
  intro r hr
  obtain ⟨i, hi, rfl⟩ := List.getElem_of_mem hr
  rw [List.length_take] at hi
  rw [List.getElem_take, ← ark_at (show i < tb.length by omega)]
  exact fun q => (ffr_all tb c t t 0).mp h i (Nat.zero_le _) (by omega) (of_decide_eq_true q)
theorem take_s {tb : List arow} {u : Nat} (h : u < tb.length) : tb.take (u + 1) = tb.take u ++ [ark tb u] := by
  rw [ark_at h, List.take_add_one, List.getElem?_eq_getElem h]
  rfl

set_option maxHeartbeats 4000000 in
set_option maxRecDepth 100000 in
theorem cf_X8_makeGroup (l : Launch) (D : va_G) (ids : Nat → ClassId) (H0 : Heap) (h : rl_H) (n : Nat) (m : Nat) (T : md_T) (fu : Int32) (k : Nat) (A : md_D) (S : md_A) (a b w wb ca cb kd : Nat) (tb tab g : List arow) (hq : mf ids h h m T fu k A) (hs : md_sa ids h m S) (ha : a < 16) (hb : b < 16) (hba : b ≠ a) (hw : S.2.2.2.2.2.2.2.2.2.2 a = nI w) (hw2 : w = 2) (hwb : S.2.2.2.2.2.2.2.2.2.2 b = nI wb) (hwb6 : wb ≤ 6) (hbt : mtb A b wb tb) (hbk : aok wb tb) (hat : mtb A a w tab) (hok : aok w tab) (hf0 : fu = nI 0) (hnA : S.2.2.2.2.2.2.1 a = nI ca) (hca : ca < wb) (hnB : S.2.2.2.2.2.2.2.1 a = nI cb) (hcb : cb < wb) (hnC : S.2.2.2.2.2.2.2.2.1 a = nI kd) (hkd3 : kd ≤ 3) (hk4 : g.length ≤ 4) (hgr : mgr A tb g) : rl_Met l (rl_e D ids H0) rl_BW rl_Ns yX8_makeGroup cX8_makeGroup 12 none ({ frames := 4, cells := 0, slots := 0, locals := 98 }) [.ref m, .int (nI a), .int (nI b), .int (nI g.length)] h n (fun v h' n' => ∃ (fu' : Int32) (k' : Nat) (A' : md_D), v = none ∧ n' = n ∧ mf ids h h' m T fu' k' A' ∧ mop A A' a ∧ mst A' a w fu' ((fnn g).bind (fun ns => aall tab (fcs ca cb kd g ns 1 (2 ^ g.length - 1))))) := by
  have tl80 := hbk.2.2
  have hw6 : w ≤ 6 := by omega
  refine rl_Met.of (by decide +kernel) (Nat.le_of_ble_eq_true rfl) ?_
  intro X hC hB
  have loop2 : ∀ (ns : List (List tT)), fnn g = some ns → ∀ (mm s : Nat) (h1 : rl_H) (f1 : Int32) (k1 : Nat) (A1 : md_D) (r1 : Option (List arow)) (o5 o6 o7 o8 o9 o10 o11 : Option Value), s + mm = 2 ^ g.length → 1 ≤ s → mf ids h h1 m T f1 k1 A1 → mop A A1 a → mst A1 a w f1 r1 → (1 < g.length → ∀ i : Nat, i < g.length → mws A1 (1362 + i) (ns.getD i [])) → mgr A1 tb g → aall tab (fcs ca cb kd g ns 1 (2 ^ g.length - 1)) = r1.bind (fun x => aall x (fcs ca cb kd g ns s mm)) → rl_G X (rl_e D ids H0) 52 [some (.ref m), some (.int (nI a)), some (.int (nI b)), some (.int (nI g.length)), some (.int (nI s)), o5, o6, o7, o8, o9, o10, o11] [] h1 n 0 0 := by
    intro ns hns mm
    induction mm with
    | zero =>
      intro s h1 f1 k1 A1 r1 o5 o6 o7 o8 o9 o10 o11 hm hs1 hq1 hop hst hTW hG he
      obtain ⟨pw1, pw2, pw3⟩ := pw_16 hk4
      refine o_iload hC dX8_makeGroup_52 (by rfl) ?_
      refine o_iconst (v := nI 1) hC dX8_makeGroup_54 (by decide +kernel) ?_
      refine o_iload_n hC dX8_makeGroup_55 (by rfl) ?_
      refine o_ishl hC dX8_makeGroup_56 ?_
      rw [sh_1k hk4]
      refine o_icmp_ge (tgt := 328) hC dX8_makeGroup_57 (by decide) (fun c_57 => ?_) (fun c_57 => ?_)
      · refine o_vret hC hB dX8_makeGroup_328 (Nat.le_of_ble_eq_true rfl) (Nat.le_of_ble_eq_true rfl) ?_
        refine ⟨f1, k1, A1, rfl, rfl, hq1, hop, ?_⟩
        rw [hns]
        show mst A1 a w f1 (aall tab _)
        rw [he]
        rw [show r1.bind (fun x => aall x (fcs ca cb kd g ns s 0)) = r1 by cases r1 <;> rfl]
        exact hst
      · exact absurd (nI_le (by omega) (by omega)) c_57
    | succ mm ih =>
      intro s h1 f1 k1 A1 r1 o5 o6 o7 o8 o9 o10 o11 hm hs1 hq1 hop hst hTW hG he
      rw [fcs_s] at he
      obtain ⟨pw1, pw2, pw3⟩ := pw_16 hk4
      have hg1 : 1 ≤ g.length := pw3 (by omega)
      have hTb0 := hop.tb hwb6 hbk.2.2 (by omega) hbt hba
      obtain ⟨hm0, g12, g13, g14, g15, g16, g17, g18, g19, g20, g21, g22⟩ := id hq1
      have g0 := hm0.1
      have gk := hm0.2.1
      refine o_iload hC dX8_makeGroup_52 (by rfl) ?_
      refine o_iconst (v := nI 1) hC dX8_makeGroup_54 (by decide +kernel) ?_
      refine o_iload_n hC dX8_makeGroup_55 (by rfl) ?_
      refine o_ishl hC dX8_makeGroup_56 ?_
      rw [sh_1k hk4]
      refine o_icmp_ge (tgt := 328) hC dX8_makeGroup_57 (by decide) (fun c_57 => ?_) (fun c_57 => ?_)
      · refine o_vret hC hB dX8_makeGroup_328 (Nat.le_of_ble_eq_true rfl) (Nat.le_of_ble_eq_true rfl) ?_
        exact absurd c_57 (nI_ge (by omega) (by omega))
      · refine o_aload_n hC dX8_makeGroup_60 (by rfl) ?_
        refine o_getf hC (fX8_91 hC rfl) dX8_makeGroup_61 (by repeat (first | with_reducible assumption | (rw [rl_u_s]; done) | (rw [rl_u_s]; rfl) | rw [rl_u_n (by first | with_reducible assumption | omega)])) (by first | rfl | with_reducible assumption) ?_
        refine o_if_ne (tgt := 328) hC dX8_makeGroup_64 (by decide) (fun c_64 => ?_) (fun c_64 => ?_)
        · refine o_vret hC hB dX8_makeGroup_328 (Nat.le_of_ble_eq_true rfl) (Nat.le_of_ble_eq_true rfl) ?_
          rcases hst with ⟨tab1, rfl, rfl, ht1, hk1⟩ | ⟨rfl, rfl⟩
          · exact absurd rfl c_64
          · refine ⟨_, k1, A1, rfl, rfl, hq1, hop, ?_⟩
            rw [hns]
            show mst A1 a w _ (aall tab _)
            rw [he]
            exact Or.inr ⟨rfl, rfl⟩
        · refine o_aload_n hC dX8_makeGroup_67 (by rfl) ?_
          refine o_sipush (v := nI 1360) hC dX8_makeGroup_68 (by decide +kernel) ?_
          refine o_callV1 hC rl_BW_good rl_Ns_nw (by exact hB.2.2.2.2.2) YX8_truth IX8_truth VX8_truth (mX8_103 hC) (by rw [hB.1]; exact cf_X8_truth l D ids H0 _ _ m T _ _ _ 1360 hq1.rf (by decide)) (by exact hq1.1.1) rfl rfl (Nat.le_of_ble_eq_true rfl) (by rw [hB.2.1]; first | exact Nat.le_of_ble_eq_true rfl | (dsimp only; omega)) (by rw [hB.2.1]; first | exact Nat.le_of_ble_eq_true rfl | (dsimp only; omega)) (by rw [hB.2.1]; first | exact Nat.le_of_ble_eq_true rfl | (dsimp only; omega)) (by rw [hB.2.1]; first | exact Nat.le_of_ble_eq_true rfl | (dsimp only; omega)) dX8_makeGroup_71 (fun v h_71 n_71 p_71 => ?_)
          obtain ⟨rfl, rfl, q71⟩ := p_71
          try dsimp only [Option.toList, List.cons_append, List.nil_append]
          refine o_iconst (v := nI 0) hC dX8_makeGroup_74 (by decide +kernel) ?_
          refine o_istore hC dX8_makeGroup_75 (Nat.le_of_ble_eq_true rfl) ?_
          refine o_iconst (v := nI 0) hC dX8_makeGroup_77 (by decide +kernel) ?_
          refine o_istore hC dX8_makeGroup_78 (Nat.le_of_ble_eq_true rfl) ?_
          refine o_iconst (v := nI 0) hC dX8_makeGroup_80 (by decide +kernel) ?_
          refine o_istore hC dX8_makeGroup_81 (Nat.le_of_ble_eq_true rfl) ?_
          refine o_iconst (v := nI 0) hC dX8_makeGroup_83 (by decide +kernel) ?_
          refine o_istore hC dX8_makeGroup_84 (Nat.le_of_ble_eq_true rfl) ?_
          refine o_iconst (v := nI 0) hC dX8_makeGroup_86 (by decide +kernel) ?_
          refine o_istore hC dX8_makeGroup_87 (Nat.le_of_ble_eq_true rfl) ?_
          rcases hst with ⟨tab1, rfl, rfl, ht1, hk1⟩ | ⟨rfl, rfl⟩
          rotate_left
          · exact absurd c_64 (by decide +kernel)
          have fin : ∀ (h2 : rl_H) (f2 : Int32) (k2 : Nat) (A2 : md_D) (st : fSt) (o9 o10 o11 : Option Value), mf ids h h2 m T f2 k2 A2 → mro A1 A2 1360 → ((f2 = nI 0 ∧ ∃ W : List tT, mws A2 1360 W ∧ wok W ∧ fwf s g ns g.length 0 [(0, 0)] = some W ∧ ffn s cb g g.length 0 (0, 0, 0, 0) = st) ∨ (f2 = nI 1 ∧ fwf s g ns g.length 0 [(0, 0)] = none)) → rl_G X (rl_e D ids H0) 239 [some (.ref m), some (.int (nI a)), some (.int (nI b)), some (.int (nI g.length)), some (.int (nI s)), some (.int (nI st.1)), some (.int st.2.1), some (.int st.2.2.1), some (.int st.2.2.2), o9, o10, o11] [] h2 n_71 0 0 := by
            intro h2 f2 k2 A2 st o9 o10 o11 hq2 hro hst2
            have hop2 : mop A A2 a := hop.tr (hro.op (by omega))
            have ht2 := ht1.rw hw6 hk1.2.2 (by omega) hro (by omega)
            have hTb := hop2.tb hwb6 hbk.2.2 (by omega) hbt hba
            have hG2 : mgr A2 tb g := fun j h1 h2 => by
              obtain ⟨i, e1, e2, e3⟩ := hG j h1 h2
              exact ⟨i, e1, (congrFun (congrArg (fun z => z.2.1) hro.2.2.2.2.2) j).trans e2, e3⟩
            have hTW2 : (1 < g.length → ∀ i : Nat, i < g.length → mws A2 (1362 + i) (ns.getD i [])) := fun q i hi => hro.ws (by omega) (hTW q i hi)
            rcases hst2 with ⟨rfl, W, z1, z2, z3, z4⟩ | ⟨rfl, z3⟩
            · have hs1 := hq2.1.sa hs
              obtain ⟨hm0, g12, g13, g14, g15, g16, g17, g18, g19, g20, g21, g22⟩ := id hq2
              have g0 := hm0.1
              have gk := hm0.2.1
              obtain ⟨a1, a2, a3, a4, a5, a6, a7, a8, a9, a10, a11⟩ := id hs1
              refine o_aload_n hC dX8_makeGroup_239 (by rfl) ?_
              refine o_getf hC (fX8_69 hC rfl) dX8_makeGroup_240 (by repeat (first | with_reducible assumption | (rw [rl_u_s]; done) | (rw [rl_u_s]; rfl) | rw [rl_u_n (by first | with_reducible assumption | omega)])) (by first | rfl | with_reducible assumption) ?_
              refine o_iconst (v := nI 0) hC dX8_makeGroup_243 (by decide +kernel) ?_
              refine o_aload_n hC dX8_makeGroup_244 (by rfl) ?_
              refine o_iload_n hC dX8_makeGroup_245 (by rfl) ?_
              refine o_aload_n hC dX8_makeGroup_246 (by rfl) ?_
              refine o_getf hC (fX8_72 hC rfl) dX8_makeGroup_247 (by repeat (first | with_reducible assumption | (rw [rl_u_s]; done) | (rw [rl_u_s]; rfl) | rw [rl_u_n (by first | with_reducible assumption | omega)])) (by first | rfl | with_reducible assumption) ?_
              refine o_iconst (v := nI 0) hC dX8_makeGroup_250 (by decide +kernel) ?_
              obtain ⟨t251, ht251, et251, ea251⟩ := hG2 0 (by omega) (by omega)
              refine o_ialdN (t0 := 0) (k := 0) hC rfl dX8_makeGroup_251 (by repeat (first | with_reducible assumption | (rw [rl_u_s]; done) | (rw [rl_u_s]; rfl) | rw [rl_u_n (by first | with_reducible assumption | omega)])) (by omega) (by decide) ?_
              rw [et251]
              refine o_aload_n hC dX8_makeGroup_252 (by rfl) ?_
              refine o_getf hC (fX8_28 hC rfl) dX8_makeGroup_253 (by repeat (first | with_reducible assumption | (rw [rl_u_s]; done) | (rw [rl_u_s]; rfl) | rw [rl_u_n (by first | with_reducible assumption | omega)])) (by first | rfl | with_reducible assumption) ?_
              refine o_iload_n hC dX8_makeGroup_256 (by rfl) ?_
              refine o_ialdN (t0 := 0) (k := a) hC rfl dX8_makeGroup_257 (by repeat (first | with_reducible assumption | (rw [rl_u_s]; done) | (rw [rl_u_s]; rfl) | rw [rl_u_n (by first | with_reducible assumption | omega)])) (by omega) (by decide) ?_
              rw [hnA]
              refine o_callV3 hC rl_BW_good rl_Ns_nw (by exact hB.2.2.2.2.2) YX8_cellAt IX8_cellAt VX8_cellAt (mX8_138 hC) (by rw [hB.1]; exact cf_X8_cellAt l D ids H0 _ _ m T _ _ _ b t251 ca hq2.rf (by omega)) (by exact hq2.rf.1.1) rfl rfl (Nat.le_of_ble_eq_true rfl) (by rw [hB.2.1]; first | exact Nat.le_of_ble_eq_true rfl | (dsimp only; omega)) (by rw [hB.2.1]; first | exact Nat.le_of_ble_eq_true rfl | (dsimp only; omega)) (by rw [hB.2.1]; first | exact Nat.le_of_ble_eq_true rfl | (dsimp only; omega)) (by rw [hB.2.1]; first | exact Nat.le_of_ble_eq_true rfl | (dsimp only; omega)) dX8_makeGroup_258 (fun v h_258 n_258 p_258 => ?_)
              obtain ⟨rfl, rfl, rfl⟩ := p_258
              try dsimp only [Option.toList, List.cons_append, List.nil_append]
              refine o_iastN (t0 := 0) hC rfl dX8_makeGroup_261 (by repeat (first | with_reducible assumption | (rw [rl_u_s]; done) | (rw [rl_u_s]; rfl) | rw [rl_u_n (by first | with_reducible assumption | omega)])) (by omega) (by decide) ?_
              refine o_aload_n hC dX8_makeGroup_262 (by rfl) ?_
              refine o_getf hC (fX8_69 hC rfl) dX8_makeGroup_263 (by repeat (first | with_reducible assumption | (rw [rl_u_s]; done) | (rw [rl_u_s]; rfl) | rw [rl_u_n (by first | with_reducible assumption | omega)])) (by first | rfl | with_reducible assumption) ?_
              refine o_iconst (v := nI 1) hC dX8_makeGroup_266 (by decide +kernel) ?_
              refine o_aload_n hC dX8_makeGroup_267 (by rfl) ?_
              refine o_getf hC (fX8_34 hC rfl) dX8_makeGroup_268 (by repeat (first | with_reducible assumption | (rw [rl_u_s]; done) | (rw [rl_u_s]; rfl) | rw [rl_u_n (by first | with_reducible assumption | omega)])) (by first | rfl | with_reducible assumption) ?_
              refine o_iload_n hC dX8_makeGroup_271 (by rfl) ?_
              refine o_ialdN (t0 := 0) hC rfl dX8_makeGroup_272 (by repeat (first | with_reducible assumption | (rw [rl_u_s]; done) | (rw [rl_u_s]; rfl) | rw [rl_u_n (by first | with_reducible assumption | omega)])) (by omega) (by decide) ?_
              refine o_if_ne (tgt := 281) hC dX8_makeGroup_273 (by decide) (fun c_273 => ?_) (fun c_273 => ?_)
              · refine o_aload_n hC dX8_makeGroup_281 (by rfl) ?_
                refine o_getf hC (fX8_34 hC rfl) dX8_makeGroup_282 (by repeat (first | with_reducible assumption | (rw [rl_u_s]; done) | (rw [rl_u_s]; rfl) | rw [rl_u_n (by first | with_reducible assumption | omega)])) (by first | rfl | with_reducible assumption) ?_
                refine o_iload_n hC dX8_makeGroup_285 (by rfl) ?_
                refine o_ialdN (t0 := 0) hC rfl dX8_makeGroup_286 (by repeat (first | with_reducible assumption | (rw [rl_u_s]; done) | (rw [rl_u_s]; rfl) | rw [rl_u_n (by first | with_reducible assumption | omega)])) (by omega) (by decide) ?_
                refine o_iconst (v := nI 1) hC dX8_makeGroup_287 (by decide +kernel) ?_
                refine o_icmp_ne (tgt := 296) hC dX8_makeGroup_288 (by decide) (fun c_288 => ?_) (fun c_288 => ?_)
                · refine o_aload_n hC dX8_makeGroup_296 (by rfl) ?_
                  refine o_getf hC (fX8_34 hC rfl) dX8_makeGroup_297 (by repeat (first | with_reducible assumption | (rw [rl_u_s]; done) | (rw [rl_u_s]; rfl) | rw [rl_u_n (by first | with_reducible assumption | omega)])) (by first | rfl | with_reducible assumption) ?_
                  refine o_iload_n hC dX8_makeGroup_300 (by rfl) ?_
                  refine o_ialdN (t0 := 0) hC rfl dX8_makeGroup_301 (by repeat (first | with_reducible assumption | (rw [rl_u_s]; done) | (rw [rl_u_s]; rfl) | rw [rl_u_n (by first | with_reducible assumption | omega)])) (by omega) (by decide) ?_
                  refine o_iconst (v := nI 2) hC dX8_makeGroup_302 (by decide +kernel) ?_
                  refine o_icmp_ne (tgt := 311) hC dX8_makeGroup_303 (by decide) (fun c_303 => ?_) (fun c_303 => ?_)
                  · refine o_iload hC dX8_makeGroup_311 (by rfl) ?_
                    refine o_iastN (t0 := 0) hC rfl dX8_makeGroup_313 (by repeat (first | with_reducible assumption | (rw [rl_u_s]; done) | (rw [rl_u_s]; rfl) | rw [rl_u_n (by first | with_reducible assumption | omega)])) (by omega) (by decide) ?_
                    have hkd : kd ≠ 0 ∧ kd ≠ 1 ∧ kd ≠ 2 := ⟨fun e => c_273 (by rw [hnC, e]; rfl), fun e => c_288 (by rw [hnC, e]), fun e => c_303 (by rw [hnC, e])⟩
                    have hq5 : mf ids h _ m T (nI 0) k2 (A2.1, A2.2.1, A2.2.2.1, A2.2.2.2.1, A2.2.2.2.2.1, A2.2.2.2.2.2.1, A2.2.2.2.2.2.2.1, A2.2.2.2.2.2.2.2.1, upd (upd A2.2.2.2.2.2.2.2.2.1 0 (mcl A2 b t251 ca)) 1 st.2.2.2, A2.2.2.2.2.2.2.2.2.2.1, A2.2.2.2.2.2.2.2.2.2.2) := (hq2.s20 (upd A2.2.2.2.2.2.2.2.2.1 0 (mcl A2 b t251 ca))).s20 (upd (upd A2.2.2.2.2.2.2.2.2.1 0 (mcl A2 b t251 ca)) 1 st.2.2.2)
                    have hs5 := hq5.1.sa hs
                    refine o_aload_n hC dX8_makeGroup_314 (by rfl) ?_
                    refine o_iload_n hC dX8_makeGroup_315 (by rfl) ?_
                    refine o_sipush (v := nI 1360) hC dX8_makeGroup_316 (by decide +kernel) ?_
                    refine o_callV2 hC rl_BW_good rl_Ns_nw (by exact hB.2.2.2.2.2) YX8_comes IX8_comes VX8_comes (mX8_178 hC) (by rw [hB.1]; exact cf_X8_comes l D ids H0 _ _ m T _ _ _ S a 1360 w _ _ hq5.rf hs5 (by omega) (by omega) (by omega) hw hw6 rfl (show mtb (A2.1, A2.2.1, A2.2.2.1, A2.2.2.2.1, A2.2.2.2.2.1, A2.2.2.2.2.2.1, A2.2.2.2.2.2.2.1, A2.2.2.2.2.2.2.2.1, upd (upd A2.2.2.2.2.2.2.2.2.1 0 (mcl A2 b t251 ca)) 1 st.2.2.2, A2.2.2.2.2.2.2.2.2.2.1, A2.2.2.2.2.2.2.2.2.2.2) a w tab1 from ht2) hk1 (show mws (A2.1, A2.2.1, A2.2.2.1, A2.2.2.2.1, A2.2.2.2.2.1, A2.2.2.2.2.2.1, A2.2.2.2.2.2.2.1, A2.2.2.2.2.2.2.2.1, upd (upd A2.2.2.2.2.2.2.2.2.1 0 (mcl A2 b t251 ca)) 1 st.2.2.2, A2.2.2.2.2.2.2.2.2.2.1, A2.2.2.2.2.2.2.2.2.2.2) 1360 W from z1) z2) (by exact hq5.1.1) rfl rfl (Nat.le_of_ble_eq_true rfl) (by rw [hB.2.1]; first | exact Nat.le_of_ble_eq_true rfl | (dsimp only; omega)) (by rw [hB.2.1]; first | exact Nat.le_of_ble_eq_true rfl | (dsimp only; omega)) (by rw [hB.2.1]; first | exact Nat.le_of_ble_eq_true rfl | (dsimp only; omega)) (by rw [hB.2.1]; first | exact Nat.le_of_ble_eq_true rfl | (dsimp only; omega)) dX8_makeGroup_319 (fun v h_319 n_319 p_319 => ?_)
                    obtain ⟨f319, k319, A4, rfl, rfl, q319, r319, u319⟩ := p_319
                    try dsimp only [Option.toList, List.cons_append, List.nil_append]
                    refine o_iinc hC dX8_makeGroup_322 (by rfl) (rl_inc _) (Nat.le_of_ble_eq_true rfl) ?_
                    refine o_goto (tgt := 52) hC dX8_makeGroup_325 (by decide) ?_
                    have ekey : rcl (upd (upd A2.2.2.2.2.2.2.2.2.1 0 (mcl A2 b t251 ca)) 1 st.2.2.2) w = fky s ca cb kd g := by
                      rw [hw2]
                      show [upd (upd A2.2.2.2.2.2.2.2.2.1 0 (mcl A2 b t251 ca)) 1 st.2.2.2 0, upd (upd A2.2.2.2.2.2.2.2.2.1 0 (mcl A2 b t251 ca)) 1 st.2.2.2 1] = _
                      rw [upd_lt (show 0 < 1 by decide), upd_at, upd_at, (hTb.2 t251 ht251).cg hca, ea251]
                      unfold fky
                      show [_, st.2.2.2] = [_, fpick kd _]
                      rw [z4]
                      unfold fpick
                      rw [if_neg hkd.1, if_neg hkd.2.1, if_neg hkd.2.2]
                    have u9 : (∃ tab' : List arow, aput tab1 (rcl (upd (upd A2.2.2.2.2.2.2.2.2.1 0 (mcl A2 b t251 ca)) 1 st.2.2.2) w) W = some tab' ∧ f319 = nI 0 ∧ mtb A4 a w tab') ∨ (aput tab1 (rcl (upd (upd A2.2.2.2.2.2.2.2.2.1 0 (mcl A2 b t251 ca)) 1 st.2.2.2) w) W = none ∧ f319 = nI 1) := u319
                    rw [ekey] at u9
                    have hT4 : ∀ i : Nat, 1362 ≤ i → i < 1368 → ∀ Z : List tT, mws A2 i Z → mws A4 i Z := fun i h1 h2 Z H => mto.ws (A := (A2.1, A2.2.1, A2.2.2.1, A2.2.2.2.1, A2.2.2.2.2.1, A2.2.2.2.2.2.1, A2.2.2.2.2.2.2.1, A2.2.2.2.2.2.2.2.1, upd (upd A2.2.2.2.2.2.2.2.2.1 0 (mcl A2 b t251 ca)) 1 st.2.2.2, A2.2.2.2.2.2.2.2.2.2.1, A2.2.2.2.2.2.2.2.2.2.2)) r319 (by omega) H
                    refine ih (s + 1) _ f319 k319 A4 (aput tab1 (fky s ca cb kd g) W) _ _ _ _ _ _ _ (by omega) (by omega) (hq5.tr q319) (hop2.tr (mop.tr ⟨fun _ _ => rfl, fun _ _ => rfl, rfl, fun _ _ _ => rfl, fun _ _ _ => ⟨rfl, rfl⟩, rfl⟩ r319.op)) ?_ (fun q i hi => hT4 _ (by omega) (by omega) _ (hTW2 q i hi)) ?_ ?_
                    · rcases u9 with ⟨tab', h1, h2, h3⟩ | ⟨h1, h2⟩
                      · exact Or.inl ⟨tab', h1, h2, h3, aput_ok hk1 (by rw [← ekey]; exact rsg_len _ 0 w) z2 h1⟩
                      · exact Or.inr ⟨h1, h2⟩
                    · intro j h1 h2
                      obtain ⟨i, e1, e2, e3⟩ := hG2 j h1 h2
                      exact ⟨i, e1, (congrFun (congrArg (fun z => z.2.1) r319.2.2.2.2.2) j).trans e2, e3⟩
                    · rw [he]
                      show ((fwf s g ns g.length 0 [(0, 0)]).bind (aput tab1 _)).bind _ = _
                      rw [z3]
                      rfl
                  · refine o_iload hC dX8_makeGroup_306 (by rfl) ?_
                    refine o_goto (tgt := 313) hC dX8_makeGroup_308 (by decide) ?_
                    refine o_iastN (t0 := 0) hC rfl dX8_makeGroup_313 (by repeat (first | with_reducible assumption | (rw [rl_u_s]; done) | (rw [rl_u_s]; rfl) | rw [rl_u_n (by first | with_reducible assumption | omega)])) (by omega) (by decide) ?_
                    have hkd : kd = 2 := nI_inj2 (by omega) (by omega) (hnC.symm.trans (by first | exact c_303 | exact Classical.not_not.mp c_303))
                    have hq5 : mf ids h _ m T (nI 0) k2 (A2.1, A2.2.1, A2.2.2.1, A2.2.2.2.1, A2.2.2.2.2.1, A2.2.2.2.2.2.1, A2.2.2.2.2.2.2.1, A2.2.2.2.2.2.2.2.1, upd (upd A2.2.2.2.2.2.2.2.2.1 0 (mcl A2 b t251 ca)) 1 st.2.2.1, A2.2.2.2.2.2.2.2.2.2.1, A2.2.2.2.2.2.2.2.2.2.2) := (hq2.s20 (upd A2.2.2.2.2.2.2.2.2.1 0 (mcl A2 b t251 ca))).s20 (upd (upd A2.2.2.2.2.2.2.2.2.1 0 (mcl A2 b t251 ca)) 1 st.2.2.1)
                    have hs5 := hq5.1.sa hs
                    refine o_aload_n hC dX8_makeGroup_314 (by rfl) ?_
                    refine o_iload_n hC dX8_makeGroup_315 (by rfl) ?_
                    refine o_sipush (v := nI 1360) hC dX8_makeGroup_316 (by decide +kernel) ?_
                    refine o_callV2 hC rl_BW_good rl_Ns_nw (by exact hB.2.2.2.2.2) YX8_comes IX8_comes VX8_comes (mX8_178 hC) (by rw [hB.1]; exact cf_X8_comes l D ids H0 _ _ m T _ _ _ S a 1360 w _ _ hq5.rf hs5 (by omega) (by omega) (by omega) hw hw6 rfl (show mtb (A2.1, A2.2.1, A2.2.2.1, A2.2.2.2.1, A2.2.2.2.2.1, A2.2.2.2.2.2.1, A2.2.2.2.2.2.2.1, A2.2.2.2.2.2.2.2.1, upd (upd A2.2.2.2.2.2.2.2.2.1 0 (mcl A2 b t251 ca)) 1 st.2.2.1, A2.2.2.2.2.2.2.2.2.2.1, A2.2.2.2.2.2.2.2.2.2.2) a w tab1 from ht2) hk1 (show mws (A2.1, A2.2.1, A2.2.2.1, A2.2.2.2.1, A2.2.2.2.2.1, A2.2.2.2.2.2.1, A2.2.2.2.2.2.2.1, A2.2.2.2.2.2.2.2.1, upd (upd A2.2.2.2.2.2.2.2.2.1 0 (mcl A2 b t251 ca)) 1 st.2.2.1, A2.2.2.2.2.2.2.2.2.2.1, A2.2.2.2.2.2.2.2.2.2.2) 1360 W from z1) z2) (by exact hq5.1.1) rfl rfl (Nat.le_of_ble_eq_true rfl) (by rw [hB.2.1]; first | exact Nat.le_of_ble_eq_true rfl | (dsimp only; omega)) (by rw [hB.2.1]; first | exact Nat.le_of_ble_eq_true rfl | (dsimp only; omega)) (by rw [hB.2.1]; first | exact Nat.le_of_ble_eq_true rfl | (dsimp only; omega)) (by rw [hB.2.1]; first | exact Nat.le_of_ble_eq_true rfl | (dsimp only; omega)) dX8_makeGroup_319 (fun v h_319 n_319 p_319 => ?_)
                    obtain ⟨f319, k319, A4, rfl, rfl, q319, r319, u319⟩ := p_319
                    try dsimp only [Option.toList, List.cons_append, List.nil_append]
                    refine o_iinc hC dX8_makeGroup_322 (by rfl) (rl_inc _) (Nat.le_of_ble_eq_true rfl) ?_
                    refine o_goto (tgt := 52) hC dX8_makeGroup_325 (by decide) ?_
                    have ekey : rcl (upd (upd A2.2.2.2.2.2.2.2.2.1 0 (mcl A2 b t251 ca)) 1 st.2.2.1) w = fky s ca cb kd g := by
                      rw [hw2]
                      show [upd (upd A2.2.2.2.2.2.2.2.2.1 0 (mcl A2 b t251 ca)) 1 st.2.2.1 0, upd (upd A2.2.2.2.2.2.2.2.2.1 0 (mcl A2 b t251 ca)) 1 st.2.2.1 1] = _
                      rw [upd_lt (show 0 < 1 by decide), upd_at, upd_at, (hTb.2 t251 ht251).cg hca, ea251]
                      unfold fky
                      show [_, st.2.2.1] = [_, fpick kd _]
                      rw [z4]
                      unfold fpick
                      rw [if_neg (by omega), if_neg (by omega), if_pos hkd]
                    have u9 : (∃ tab' : List arow, aput tab1 (rcl (upd (upd A2.2.2.2.2.2.2.2.2.1 0 (mcl A2 b t251 ca)) 1 st.2.2.1) w) W = some tab' ∧ f319 = nI 0 ∧ mtb A4 a w tab') ∨ (aput tab1 (rcl (upd (upd A2.2.2.2.2.2.2.2.2.1 0 (mcl A2 b t251 ca)) 1 st.2.2.1) w) W = none ∧ f319 = nI 1) := u319
                    rw [ekey] at u9
                    have hT4 : ∀ i : Nat, 1362 ≤ i → i < 1368 → ∀ Z : List tT, mws A2 i Z → mws A4 i Z := fun i h1 h2 Z H => mto.ws (A := (A2.1, A2.2.1, A2.2.2.1, A2.2.2.2.1, A2.2.2.2.2.1, A2.2.2.2.2.2.1, A2.2.2.2.2.2.2.1, A2.2.2.2.2.2.2.2.1, upd (upd A2.2.2.2.2.2.2.2.2.1 0 (mcl A2 b t251 ca)) 1 st.2.2.1, A2.2.2.2.2.2.2.2.2.2.1, A2.2.2.2.2.2.2.2.2.2.2)) r319 (by omega) H
                    refine ih (s + 1) _ f319 k319 A4 (aput tab1 (fky s ca cb kd g) W) _ _ _ _ _ _ _ (by omega) (by omega) (hq5.tr q319) (hop2.tr (mop.tr ⟨fun _ _ => rfl, fun _ _ => rfl, rfl, fun _ _ _ => rfl, fun _ _ _ => ⟨rfl, rfl⟩, rfl⟩ r319.op)) ?_ (fun q i hi => hT4 _ (by omega) (by omega) _ (hTW2 q i hi)) ?_ ?_
                    · rcases u9 with ⟨tab', h1, h2, h3⟩ | ⟨h1, h2⟩
                      · exact Or.inl ⟨tab', h1, h2, h3, aput_ok hk1 (by rw [← ekey]; exact rsg_len _ 0 w) z2 h1⟩
                      · exact Or.inr ⟨h1, h2⟩
                    · intro j h1 h2
                      obtain ⟨i, e1, e2, e3⟩ := hG2 j h1 h2
                      exact ⟨i, e1, (congrFun (congrArg (fun z => z.2.1) r319.2.2.2.2.2) j).trans e2, e3⟩
                    · rw [he]
                      show ((fwf s g ns g.length 0 [(0, 0)]).bind (aput tab1 _)).bind _ = _
                      rw [z3]
                      rfl
                · refine o_iload hC dX8_makeGroup_291 (by rfl) ?_
                  refine o_goto (tgt := 313) hC dX8_makeGroup_293 (by decide) ?_
                  refine o_iastN (t0 := 0) hC rfl dX8_makeGroup_313 (by repeat (first | with_reducible assumption | (rw [rl_u_s]; done) | (rw [rl_u_s]; rfl) | rw [rl_u_n (by first | with_reducible assumption | omega)])) (by omega) (by decide) ?_
                  have hkd : kd = 1 := nI_inj2 (by omega) (by omega) (hnC.symm.trans (by first | exact c_288 | exact Classical.not_not.mp c_288))
                  have hq5 : mf ids h _ m T (nI 0) k2 (A2.1, A2.2.1, A2.2.2.1, A2.2.2.2.1, A2.2.2.2.2.1, A2.2.2.2.2.2.1, A2.2.2.2.2.2.2.1, A2.2.2.2.2.2.2.2.1, upd (upd A2.2.2.2.2.2.2.2.2.1 0 (mcl A2 b t251 ca)) 1 st.2.1, A2.2.2.2.2.2.2.2.2.2.1, A2.2.2.2.2.2.2.2.2.2.2) := (hq2.s20 (upd A2.2.2.2.2.2.2.2.2.1 0 (mcl A2 b t251 ca))).s20 (upd (upd A2.2.2.2.2.2.2.2.2.1 0 (mcl A2 b t251 ca)) 1 st.2.1)
                  have hs5 := hq5.1.sa hs
                  refine o_aload_n hC dX8_makeGroup_314 (by rfl) ?_
                  refine o_iload_n hC dX8_makeGroup_315 (by rfl) ?_
                  refine o_sipush (v := nI 1360) hC dX8_makeGroup_316 (by decide +kernel) ?_
                  refine o_callV2 hC rl_BW_good rl_Ns_nw (by exact hB.2.2.2.2.2) YX8_comes IX8_comes VX8_comes (mX8_178 hC) (by rw [hB.1]; exact cf_X8_comes l D ids H0 _ _ m T _ _ _ S a 1360 w _ _ hq5.rf hs5 (by omega) (by omega) (by omega) hw hw6 rfl (show mtb (A2.1, A2.2.1, A2.2.2.1, A2.2.2.2.1, A2.2.2.2.2.1, A2.2.2.2.2.2.1, A2.2.2.2.2.2.2.1, A2.2.2.2.2.2.2.2.1, upd (upd A2.2.2.2.2.2.2.2.2.1 0 (mcl A2 b t251 ca)) 1 st.2.1, A2.2.2.2.2.2.2.2.2.2.1, A2.2.2.2.2.2.2.2.2.2.2) a w tab1 from ht2) hk1 (show mws (A2.1, A2.2.1, A2.2.2.1, A2.2.2.2.1, A2.2.2.2.2.1, A2.2.2.2.2.2.1, A2.2.2.2.2.2.2.1, A2.2.2.2.2.2.2.2.1, upd (upd A2.2.2.2.2.2.2.2.2.1 0 (mcl A2 b t251 ca)) 1 st.2.1, A2.2.2.2.2.2.2.2.2.2.1, A2.2.2.2.2.2.2.2.2.2.2) 1360 W from z1) z2) (by exact hq5.1.1) rfl rfl (Nat.le_of_ble_eq_true rfl) (by rw [hB.2.1]; first | exact Nat.le_of_ble_eq_true rfl | (dsimp only; omega)) (by rw [hB.2.1]; first | exact Nat.le_of_ble_eq_true rfl | (dsimp only; omega)) (by rw [hB.2.1]; first | exact Nat.le_of_ble_eq_true rfl | (dsimp only; omega)) (by rw [hB.2.1]; first | exact Nat.le_of_ble_eq_true rfl | (dsimp only; omega)) dX8_makeGroup_319 (fun v h_319 n_319 p_319 => ?_)
                  obtain ⟨f319, k319, A4, rfl, rfl, q319, r319, u319⟩ := p_319
                  try dsimp only [Option.toList, List.cons_append, List.nil_append]
                  refine o_iinc hC dX8_makeGroup_322 (by rfl) (rl_inc _) (Nat.le_of_ble_eq_true rfl) ?_
                  refine o_goto (tgt := 52) hC dX8_makeGroup_325 (by decide) ?_
                  have ekey : rcl (upd (upd A2.2.2.2.2.2.2.2.2.1 0 (mcl A2 b t251 ca)) 1 st.2.1) w = fky s ca cb kd g := by
                    rw [hw2]
                    show [upd (upd A2.2.2.2.2.2.2.2.2.1 0 (mcl A2 b t251 ca)) 1 st.2.1 0, upd (upd A2.2.2.2.2.2.2.2.2.1 0 (mcl A2 b t251 ca)) 1 st.2.1 1] = _
                    rw [upd_lt (show 0 < 1 by decide), upd_at, upd_at, (hTb.2 t251 ht251).cg hca, ea251]
                    unfold fky
                    show [_, st.2.1] = [_, fpick kd _]
                    rw [z4]
                    unfold fpick
                    rw [if_neg (by omega), if_pos hkd]
                  have u9 : (∃ tab' : List arow, aput tab1 (rcl (upd (upd A2.2.2.2.2.2.2.2.2.1 0 (mcl A2 b t251 ca)) 1 st.2.1) w) W = some tab' ∧ f319 = nI 0 ∧ mtb A4 a w tab') ∨ (aput tab1 (rcl (upd (upd A2.2.2.2.2.2.2.2.2.1 0 (mcl A2 b t251 ca)) 1 st.2.1) w) W = none ∧ f319 = nI 1) := u319
                  rw [ekey] at u9
                  have hT4 : ∀ i : Nat, 1362 ≤ i → i < 1368 → ∀ Z : List tT, mws A2 i Z → mws A4 i Z := fun i h1 h2 Z H => mto.ws (A := (A2.1, A2.2.1, A2.2.2.1, A2.2.2.2.1, A2.2.2.2.2.1, A2.2.2.2.2.2.1, A2.2.2.2.2.2.2.1, A2.2.2.2.2.2.2.2.1, upd (upd A2.2.2.2.2.2.2.2.2.1 0 (mcl A2 b t251 ca)) 1 st.2.1, A2.2.2.2.2.2.2.2.2.2.1, A2.2.2.2.2.2.2.2.2.2.2)) r319 (by omega) H
                  refine ih (s + 1) _ f319 k319 A4 (aput tab1 (fky s ca cb kd g) W) _ _ _ _ _ _ _ (by omega) (by omega) (hq5.tr q319) (hop2.tr (mop.tr ⟨fun _ _ => rfl, fun _ _ => rfl, rfl, fun _ _ _ => rfl, fun _ _ _ => ⟨rfl, rfl⟩, rfl⟩ r319.op)) ?_ (fun q i hi => hT4 _ (by omega) (by omega) _ (hTW2 q i hi)) ?_ ?_
                  · rcases u9 with ⟨tab', h1, h2, h3⟩ | ⟨h1, h2⟩
                    · exact Or.inl ⟨tab', h1, h2, h3, aput_ok hk1 (by rw [← ekey]; exact rsg_len _ 0 w) z2 h1⟩
                    · exact Or.inr ⟨h1, h2⟩
                  · intro j h1 h2
                    obtain ⟨i, e1, e2, e3⟩ := hG2 j h1 h2
                    exact ⟨i, e1, (congrFun (congrArg (fun z => z.2.1) r319.2.2.2.2.2) j).trans e2, e3⟩
                  · rw [he]
                    show ((fwf s g ns g.length 0 [(0, 0)]).bind (aput tab1 _)).bind _ = _
                    rw [z3]
                    rfl
              · refine o_iload hC dX8_makeGroup_276 (by rfl) ?_
                refine o_goto (tgt := 313) hC dX8_makeGroup_278 (by decide) ?_
                refine o_iastN (t0 := 0) hC rfl dX8_makeGroup_313 (by repeat (first | with_reducible assumption | (rw [rl_u_s]; done) | (rw [rl_u_s]; rfl) | rw [rl_u_n (by first | with_reducible assumption | omega)])) (by omega) (by decide) ?_
                have hkd : kd = 0 := nI_inj2 (by omega) (by omega) (hnC.symm.trans c_273)
                have hq5 : mf ids h _ m T (nI 0) k2 (A2.1, A2.2.1, A2.2.2.1, A2.2.2.2.1, A2.2.2.2.2.1, A2.2.2.2.2.2.1, A2.2.2.2.2.2.2.1, A2.2.2.2.2.2.2.2.1, upd (upd A2.2.2.2.2.2.2.2.2.1 0 (mcl A2 b t251 ca)) 1 (nI st.1), A2.2.2.2.2.2.2.2.2.2.1, A2.2.2.2.2.2.2.2.2.2.2) := (hq2.s20 (upd A2.2.2.2.2.2.2.2.2.1 0 (mcl A2 b t251 ca))).s20 (upd (upd A2.2.2.2.2.2.2.2.2.1 0 (mcl A2 b t251 ca)) 1 (nI st.1))
                have hs5 := hq5.1.sa hs
                refine o_aload_n hC dX8_makeGroup_314 (by rfl) ?_
                refine o_iload_n hC dX8_makeGroup_315 (by rfl) ?_
                refine o_sipush (v := nI 1360) hC dX8_makeGroup_316 (by decide +kernel) ?_
                refine o_callV2 hC rl_BW_good rl_Ns_nw (by exact hB.2.2.2.2.2) YX8_comes IX8_comes VX8_comes (mX8_178 hC) (by rw [hB.1]; exact cf_X8_comes l D ids H0 _ _ m T _ _ _ S a 1360 w _ _ hq5.rf hs5 (by omega) (by omega) (by omega) hw hw6 rfl (show mtb (A2.1, A2.2.1, A2.2.2.1, A2.2.2.2.1, A2.2.2.2.2.1, A2.2.2.2.2.2.1, A2.2.2.2.2.2.2.1, A2.2.2.2.2.2.2.2.1, upd (upd A2.2.2.2.2.2.2.2.2.1 0 (mcl A2 b t251 ca)) 1 (nI st.1), A2.2.2.2.2.2.2.2.2.2.1, A2.2.2.2.2.2.2.2.2.2.2) a w tab1 from ht2) hk1 (show mws (A2.1, A2.2.1, A2.2.2.1, A2.2.2.2.1, A2.2.2.2.2.1, A2.2.2.2.2.2.1, A2.2.2.2.2.2.2.1, A2.2.2.2.2.2.2.2.1, upd (upd A2.2.2.2.2.2.2.2.2.1 0 (mcl A2 b t251 ca)) 1 (nI st.1), A2.2.2.2.2.2.2.2.2.2.1, A2.2.2.2.2.2.2.2.2.2.2) 1360 W from z1) z2) (by exact hq5.1.1) rfl rfl (Nat.le_of_ble_eq_true rfl) (by rw [hB.2.1]; first | exact Nat.le_of_ble_eq_true rfl | (dsimp only; omega)) (by rw [hB.2.1]; first | exact Nat.le_of_ble_eq_true rfl | (dsimp only; omega)) (by rw [hB.2.1]; first | exact Nat.le_of_ble_eq_true rfl | (dsimp only; omega)) (by rw [hB.2.1]; first | exact Nat.le_of_ble_eq_true rfl | (dsimp only; omega)) dX8_makeGroup_319 (fun v h_319 n_319 p_319 => ?_)
                obtain ⟨f319, k319, A4, rfl, rfl, q319, r319, u319⟩ := p_319
                try dsimp only [Option.toList, List.cons_append, List.nil_append]
                refine o_iinc hC dX8_makeGroup_322 (by rfl) (rl_inc _) (Nat.le_of_ble_eq_true rfl) ?_
                refine o_goto (tgt := 52) hC dX8_makeGroup_325 (by decide) ?_
                have ekey : rcl (upd (upd A2.2.2.2.2.2.2.2.2.1 0 (mcl A2 b t251 ca)) 1 (nI st.1)) w = fky s ca cb kd g := by
                  rw [hw2]
                  show [upd (upd A2.2.2.2.2.2.2.2.2.1 0 (mcl A2 b t251 ca)) 1 (nI st.1) 0, upd (upd A2.2.2.2.2.2.2.2.2.1 0 (mcl A2 b t251 ca)) 1 (nI st.1) 1] = _
                  rw [upd_lt (show 0 < 1 by decide), upd_at, upd_at, (hTb.2 t251 ht251).cg hca, ea251]
                  unfold fky
                  show [_, (nI st.1)] = [_, fpick kd _]
                  rw [z4]
                  unfold fpick
                  rw [if_pos hkd]
                have u9 : (∃ tab' : List arow, aput tab1 (rcl (upd (upd A2.2.2.2.2.2.2.2.2.1 0 (mcl A2 b t251 ca)) 1 (nI st.1)) w) W = some tab' ∧ f319 = nI 0 ∧ mtb A4 a w tab') ∨ (aput tab1 (rcl (upd (upd A2.2.2.2.2.2.2.2.2.1 0 (mcl A2 b t251 ca)) 1 (nI st.1)) w) W = none ∧ f319 = nI 1) := u319
                rw [ekey] at u9
                have hT4 : ∀ i : Nat, 1362 ≤ i → i < 1368 → ∀ Z : List tT, mws A2 i Z → mws A4 i Z := fun i h1 h2 Z H => mto.ws (A := (A2.1, A2.2.1, A2.2.2.1, A2.2.2.2.1, A2.2.2.2.2.1, A2.2.2.2.2.2.1, A2.2.2.2.2.2.2.1, A2.2.2.2.2.2.2.2.1, upd (upd A2.2.2.2.2.2.2.2.2.1 0 (mcl A2 b t251 ca)) 1 (nI st.1), A2.2.2.2.2.2.2.2.2.2.1, A2.2.2.2.2.2.2.2.2.2.2)) r319 (by omega) H
                refine ih (s + 1) _ f319 k319 A4 (aput tab1 (fky s ca cb kd g) W) _ _ _ _ _ _ _ (by omega) (by omega) (hq5.tr q319) (hop2.tr (mop.tr ⟨fun _ _ => rfl, fun _ _ => rfl, rfl, fun _ _ _ => rfl, fun _ _ _ => ⟨rfl, rfl⟩, rfl⟩ r319.op)) ?_ (fun q i hi => hT4 _ (by omega) (by omega) _ (hTW2 q i hi)) ?_ ?_
                · rcases u9 with ⟨tab', h1, h2, h3⟩ | ⟨h1, h2⟩
                  · exact Or.inl ⟨tab', h1, h2, h3, aput_ok hk1 (by rw [← ekey]; exact rsg_len _ 0 w) z2 h1⟩
                  · exact Or.inr ⟨h1, h2⟩
                · intro j h1 h2
                  obtain ⟨i, e1, e2, e3⟩ := hG2 j h1 h2
                  exact ⟨i, e1, (congrFun (congrArg (fun z => z.2.1) r319.2.2.2.2.2) j).trans e2, e3⟩
                · rw [he]
                  show ((fwf s g ns g.length 0 [(0, 0)]).bind (aput tab1 _)).bind _ = _
                  rw [z3]
                  rfl
            · have hs1 := hq2.1.sa hs
              obtain ⟨hm0, g12, g13, g14, g15, g16, g17, g18, g19, g20, g21, g22⟩ := id hq2
              have g0 := hm0.1
              have gk := hm0.2.1
              obtain ⟨a1, a2, a3, a4, a5, a6, a7, a8, a9, a10, a11⟩ := id hs1
              refine o_aload_n hC dX8_makeGroup_239 (by rfl) ?_
              refine o_getf hC (fX8_69 hC rfl) dX8_makeGroup_240 (by repeat (first | with_reducible assumption | (rw [rl_u_s]; done) | (rw [rl_u_s]; rfl) | rw [rl_u_n (by first | with_reducible assumption | omega)])) (by first | rfl | with_reducible assumption) ?_
              refine o_iconst (v := nI 0) hC dX8_makeGroup_243 (by decide +kernel) ?_
              refine o_aload_n hC dX8_makeGroup_244 (by rfl) ?_
              refine o_iload_n hC dX8_makeGroup_245 (by rfl) ?_
              refine o_aload_n hC dX8_makeGroup_246 (by rfl) ?_
              refine o_getf hC (fX8_72 hC rfl) dX8_makeGroup_247 (by repeat (first | with_reducible assumption | (rw [rl_u_s]; done) | (rw [rl_u_s]; rfl) | rw [rl_u_n (by first | with_reducible assumption | omega)])) (by first | rfl | with_reducible assumption) ?_
              refine o_iconst (v := nI 0) hC dX8_makeGroup_250 (by decide +kernel) ?_
              obtain ⟨t251, ht251, et251, ea251⟩ := hG2 0 (by omega) (by omega)
              refine o_ialdN (t0 := 0) (k := 0) hC rfl dX8_makeGroup_251 (by repeat (first | with_reducible assumption | (rw [rl_u_s]; done) | (rw [rl_u_s]; rfl) | rw [rl_u_n (by first | with_reducible assumption | omega)])) (by omega) (by decide) ?_
              rw [et251]
              refine o_aload_n hC dX8_makeGroup_252 (by rfl) ?_
              refine o_getf hC (fX8_28 hC rfl) dX8_makeGroup_253 (by repeat (first | with_reducible assumption | (rw [rl_u_s]; done) | (rw [rl_u_s]; rfl) | rw [rl_u_n (by first | with_reducible assumption | omega)])) (by first | rfl | with_reducible assumption) ?_
              refine o_iload_n hC dX8_makeGroup_256 (by rfl) ?_
              refine o_ialdN (t0 := 0) (k := a) hC rfl dX8_makeGroup_257 (by repeat (first | with_reducible assumption | (rw [rl_u_s]; done) | (rw [rl_u_s]; rfl) | rw [rl_u_n (by first | with_reducible assumption | omega)])) (by omega) (by decide) ?_
              rw [hnA]
              refine o_callV3 hC rl_BW_good rl_Ns_nw (by exact hB.2.2.2.2.2) YX8_cellAt IX8_cellAt VX8_cellAt (mX8_138 hC) (by rw [hB.1]; exact cf_X8_cellAt l D ids H0 _ _ m T _ _ _ b t251 ca hq2.rf (by omega)) (by exact hq2.rf.1.1) rfl rfl (Nat.le_of_ble_eq_true rfl) (by rw [hB.2.1]; first | exact Nat.le_of_ble_eq_true rfl | (dsimp only; omega)) (by rw [hB.2.1]; first | exact Nat.le_of_ble_eq_true rfl | (dsimp only; omega)) (by rw [hB.2.1]; first | exact Nat.le_of_ble_eq_true rfl | (dsimp only; omega)) (by rw [hB.2.1]; first | exact Nat.le_of_ble_eq_true rfl | (dsimp only; omega)) dX8_makeGroup_258 (fun v h_258 n_258 p_258 => ?_)
              obtain ⟨rfl, rfl, rfl⟩ := p_258
              try dsimp only [Option.toList, List.cons_append, List.nil_append]
              refine o_iastN (t0 := 0) hC rfl dX8_makeGroup_261 (by repeat (first | with_reducible assumption | (rw [rl_u_s]; done) | (rw [rl_u_s]; rfl) | rw [rl_u_n (by first | with_reducible assumption | omega)])) (by omega) (by decide) ?_
              refine o_aload_n hC dX8_makeGroup_262 (by rfl) ?_
              refine o_getf hC (fX8_69 hC rfl) dX8_makeGroup_263 (by repeat (first | with_reducible assumption | (rw [rl_u_s]; done) | (rw [rl_u_s]; rfl) | rw [rl_u_n (by first | with_reducible assumption | omega)])) (by first | rfl | with_reducible assumption) ?_
              refine o_iconst (v := nI 1) hC dX8_makeGroup_266 (by decide +kernel) ?_
              refine o_aload_n hC dX8_makeGroup_267 (by rfl) ?_
              refine o_getf hC (fX8_34 hC rfl) dX8_makeGroup_268 (by repeat (first | with_reducible assumption | (rw [rl_u_s]; done) | (rw [rl_u_s]; rfl) | rw [rl_u_n (by first | with_reducible assumption | omega)])) (by first | rfl | with_reducible assumption) ?_
              refine o_iload_n hC dX8_makeGroup_271 (by rfl) ?_
              refine o_ialdN (t0 := 0) hC rfl dX8_makeGroup_272 (by repeat (first | with_reducible assumption | (rw [rl_u_s]; done) | (rw [rl_u_s]; rfl) | rw [rl_u_n (by first | with_reducible assumption | omega)])) (by omega) (by decide) ?_
              refine o_if_ne (tgt := 281) hC dX8_makeGroup_273 (by decide) (fun c_273 => ?_) (fun c_273 => ?_)
              · refine o_aload_n hC dX8_makeGroup_281 (by rfl) ?_
                refine o_getf hC (fX8_34 hC rfl) dX8_makeGroup_282 (by repeat (first | with_reducible assumption | (rw [rl_u_s]; done) | (rw [rl_u_s]; rfl) | rw [rl_u_n (by first | with_reducible assumption | omega)])) (by first | rfl | with_reducible assumption) ?_
                refine o_iload_n hC dX8_makeGroup_285 (by rfl) ?_
                refine o_ialdN (t0 := 0) hC rfl dX8_makeGroup_286 (by repeat (first | with_reducible assumption | (rw [rl_u_s]; done) | (rw [rl_u_s]; rfl) | rw [rl_u_n (by first | with_reducible assumption | omega)])) (by omega) (by decide) ?_
                refine o_iconst (v := nI 1) hC dX8_makeGroup_287 (by decide +kernel) ?_
                refine o_icmp_ne (tgt := 296) hC dX8_makeGroup_288 (by decide) (fun c_288 => ?_) (fun c_288 => ?_)
                · refine o_aload_n hC dX8_makeGroup_296 (by rfl) ?_
                  refine o_getf hC (fX8_34 hC rfl) dX8_makeGroup_297 (by repeat (first | with_reducible assumption | (rw [rl_u_s]; done) | (rw [rl_u_s]; rfl) | rw [rl_u_n (by first | with_reducible assumption | omega)])) (by first | rfl | with_reducible assumption) ?_
                  refine o_iload_n hC dX8_makeGroup_300 (by rfl) ?_
                  refine o_ialdN (t0 := 0) hC rfl dX8_makeGroup_301 (by repeat (first | with_reducible assumption | (rw [rl_u_s]; done) | (rw [rl_u_s]; rfl) | rw [rl_u_n (by first | with_reducible assumption | omega)])) (by omega) (by decide) ?_
                  refine o_iconst (v := nI 2) hC dX8_makeGroup_302 (by decide +kernel) ?_
                  refine o_icmp_ne (tgt := 311) hC dX8_makeGroup_303 (by decide) (fun c_303 => ?_) (fun c_303 => ?_)
                  · refine o_iload hC dX8_makeGroup_311 (by rfl) ?_
                    refine o_iastN (t0 := 0) hC rfl dX8_makeGroup_313 (by repeat (first | with_reducible assumption | (rw [rl_u_s]; done) | (rw [rl_u_s]; rfl) | rw [rl_u_n (by first | with_reducible assumption | omega)])) (by omega) (by decide) ?_
                    have hq5 : mf ids h _ m T (nI 1) k2 (A2.1, A2.2.1, A2.2.2.1, A2.2.2.2.1, A2.2.2.2.2.1, A2.2.2.2.2.2.1, A2.2.2.2.2.2.2.1, A2.2.2.2.2.2.2.2.1, upd (upd A2.2.2.2.2.2.2.2.2.1 0 (mcl A2 b t251 ca)) 1 st.2.2.2, A2.2.2.2.2.2.2.2.2.2.1, A2.2.2.2.2.2.2.2.2.2.2) := (hq2.s20 (upd A2.2.2.2.2.2.2.2.2.1 0 (mcl A2 b t251 ca))).s20 (upd (upd A2.2.2.2.2.2.2.2.2.1 0 (mcl A2 b t251 ca)) 1 st.2.2.2)
                    refine o_aload_n hC dX8_makeGroup_314 (by rfl) ?_
                    refine o_iload_n hC dX8_makeGroup_315 (by rfl) ?_
                    refine o_sipush (v := nI 1360) hC dX8_makeGroup_316 (by decide +kernel) ?_
                    refine o_callV2 hC rl_BW_good rl_Ns_nw (by exact hB.2.2.2.2.2) YX8_comes IX8_comes VX8_comes (mX8_178 hC) (by rw [hB.1]; exact cf_X8_comes1 l D ids H0 _ _ m T _ _ _ a 1360 hq5.rf rfl) (by exact hq5.1.1) rfl rfl (Nat.le_of_ble_eq_true rfl) (by rw [hB.2.1]; first | exact Nat.le_of_ble_eq_true rfl | (dsimp only; omega)) (by rw [hB.2.1]; first | exact Nat.le_of_ble_eq_true rfl | (dsimp only; omega)) (by rw [hB.2.1]; first | exact Nat.le_of_ble_eq_true rfl | (dsimp only; omega)) (by rw [hB.2.1]; first | exact Nat.le_of_ble_eq_true rfl | (dsimp only; omega)) dX8_makeGroup_319 (fun v h_319 n_319 p_319 => ?_)
                    obtain ⟨rfl, rfl, rfl⟩ := p_319
                    try dsimp only [Option.toList, List.cons_append, List.nil_append]
                    refine o_iinc hC dX8_makeGroup_322 (by rfl) (rl_inc _) (Nat.le_of_ble_eq_true rfl) ?_
                    refine o_goto (tgt := 52) hC dX8_makeGroup_325 (by decide) ?_
                    refine ih (s + 1) _ _ _ _ none _ _ _ _ _ _ _ (by omega) (by omega) hq5 (hop2.tr ⟨fun _ _ => rfl, fun _ _ => rfl, rfl, fun _ _ _ => rfl, fun _ _ _ => ⟨rfl, rfl⟩, rfl⟩) (Or.inr ⟨rfl, rfl⟩) hTW2 hG2 ?_
                    rw [he]
                    show ((fwf s g ns g.length 0 [(0, 0)]).bind (aput tab1 _)).bind _ = _
                    rw [z3]
                    rfl
                  · refine o_iload hC dX8_makeGroup_306 (by rfl) ?_
                    refine o_goto (tgt := 313) hC dX8_makeGroup_308 (by decide) ?_
                    refine o_iastN (t0 := 0) hC rfl dX8_makeGroup_313 (by repeat (first | with_reducible assumption | (rw [rl_u_s]; done) | (rw [rl_u_s]; rfl) | rw [rl_u_n (by first | with_reducible assumption | omega)])) (by omega) (by decide) ?_
                    have hq5 : mf ids h _ m T (nI 1) k2 (A2.1, A2.2.1, A2.2.2.1, A2.2.2.2.1, A2.2.2.2.2.1, A2.2.2.2.2.2.1, A2.2.2.2.2.2.2.1, A2.2.2.2.2.2.2.2.1, upd (upd A2.2.2.2.2.2.2.2.2.1 0 (mcl A2 b t251 ca)) 1 st.2.2.1, A2.2.2.2.2.2.2.2.2.2.1, A2.2.2.2.2.2.2.2.2.2.2) := (hq2.s20 (upd A2.2.2.2.2.2.2.2.2.1 0 (mcl A2 b t251 ca))).s20 (upd (upd A2.2.2.2.2.2.2.2.2.1 0 (mcl A2 b t251 ca)) 1 st.2.2.1)
                    refine o_aload_n hC dX8_makeGroup_314 (by rfl) ?_
                    refine o_iload_n hC dX8_makeGroup_315 (by rfl) ?_
                    refine o_sipush (v := nI 1360) hC dX8_makeGroup_316 (by decide +kernel) ?_
                    refine o_callV2 hC rl_BW_good rl_Ns_nw (by exact hB.2.2.2.2.2) YX8_comes IX8_comes VX8_comes (mX8_178 hC) (by rw [hB.1]; exact cf_X8_comes1 l D ids H0 _ _ m T _ _ _ a 1360 hq5.rf rfl) (by exact hq5.1.1) rfl rfl (Nat.le_of_ble_eq_true rfl) (by rw [hB.2.1]; first | exact Nat.le_of_ble_eq_true rfl | (dsimp only; omega)) (by rw [hB.2.1]; first | exact Nat.le_of_ble_eq_true rfl | (dsimp only; omega)) (by rw [hB.2.1]; first | exact Nat.le_of_ble_eq_true rfl | (dsimp only; omega)) (by rw [hB.2.1]; first | exact Nat.le_of_ble_eq_true rfl | (dsimp only; omega)) dX8_makeGroup_319 (fun v h_319 n_319 p_319 => ?_)
                    obtain ⟨rfl, rfl, rfl⟩ := p_319
                    try dsimp only [Option.toList, List.cons_append, List.nil_append]
                    refine o_iinc hC dX8_makeGroup_322 (by rfl) (rl_inc _) (Nat.le_of_ble_eq_true rfl) ?_
                    refine o_goto (tgt := 52) hC dX8_makeGroup_325 (by decide) ?_
                    refine ih (s + 1) _ _ _ _ none _ _ _ _ _ _ _ (by omega) (by omega) hq5 (hop2.tr ⟨fun _ _ => rfl, fun _ _ => rfl, rfl, fun _ _ _ => rfl, fun _ _ _ => ⟨rfl, rfl⟩, rfl⟩) (Or.inr ⟨rfl, rfl⟩) hTW2 hG2 ?_
                    rw [he]
                    show ((fwf s g ns g.length 0 [(0, 0)]).bind (aput tab1 _)).bind _ = _
                    rw [z3]
                    rfl
                · refine o_iload hC dX8_makeGroup_291 (by rfl) ?_
                  refine o_goto (tgt := 313) hC dX8_makeGroup_293 (by decide) ?_
                  refine o_iastN (t0 := 0) hC rfl dX8_makeGroup_313 (by repeat (first | with_reducible assumption | (rw [rl_u_s]; done) | (rw [rl_u_s]; rfl) | rw [rl_u_n (by first | with_reducible assumption | omega)])) (by omega) (by decide) ?_
                  have hq5 : mf ids h _ m T (nI 1) k2 (A2.1, A2.2.1, A2.2.2.1, A2.2.2.2.1, A2.2.2.2.2.1, A2.2.2.2.2.2.1, A2.2.2.2.2.2.2.1, A2.2.2.2.2.2.2.2.1, upd (upd A2.2.2.2.2.2.2.2.2.1 0 (mcl A2 b t251 ca)) 1 st.2.1, A2.2.2.2.2.2.2.2.2.2.1, A2.2.2.2.2.2.2.2.2.2.2) := (hq2.s20 (upd A2.2.2.2.2.2.2.2.2.1 0 (mcl A2 b t251 ca))).s20 (upd (upd A2.2.2.2.2.2.2.2.2.1 0 (mcl A2 b t251 ca)) 1 st.2.1)
                  refine o_aload_n hC dX8_makeGroup_314 (by rfl) ?_
                  refine o_iload_n hC dX8_makeGroup_315 (by rfl) ?_
                  refine o_sipush (v := nI 1360) hC dX8_makeGroup_316 (by decide +kernel) ?_
                  refine o_callV2 hC rl_BW_good rl_Ns_nw (by exact hB.2.2.2.2.2) YX8_comes IX8_comes VX8_comes (mX8_178 hC) (by rw [hB.1]; exact cf_X8_comes1 l D ids H0 _ _ m T _ _ _ a 1360 hq5.rf rfl) (by exact hq5.1.1) rfl rfl (Nat.le_of_ble_eq_true rfl) (by rw [hB.2.1]; first | exact Nat.le_of_ble_eq_true rfl | (dsimp only; omega)) (by rw [hB.2.1]; first | exact Nat.le_of_ble_eq_true rfl | (dsimp only; omega)) (by rw [hB.2.1]; first | exact Nat.le_of_ble_eq_true rfl | (dsimp only; omega)) (by rw [hB.2.1]; first | exact Nat.le_of_ble_eq_true rfl | (dsimp only; omega)) dX8_makeGroup_319 (fun v h_319 n_319 p_319 => ?_)
                  obtain ⟨rfl, rfl, rfl⟩ := p_319
                  try dsimp only [Option.toList, List.cons_append, List.nil_append]
                  refine o_iinc hC dX8_makeGroup_322 (by rfl) (rl_inc _) (Nat.le_of_ble_eq_true rfl) ?_
                  refine o_goto (tgt := 52) hC dX8_makeGroup_325 (by decide) ?_
                  refine ih (s + 1) _ _ _ _ none _ _ _ _ _ _ _ (by omega) (by omega) hq5 (hop2.tr ⟨fun _ _ => rfl, fun _ _ => rfl, rfl, fun _ _ _ => rfl, fun _ _ _ => ⟨rfl, rfl⟩, rfl⟩) (Or.inr ⟨rfl, rfl⟩) hTW2 hG2 ?_
                  rw [he]
                  show ((fwf s g ns g.length 0 [(0, 0)]).bind (aput tab1 _)).bind _ = _
                  rw [z3]
                  rfl
              · refine o_iload hC dX8_makeGroup_276 (by rfl) ?_
                refine o_goto (tgt := 313) hC dX8_makeGroup_278 (by decide) ?_
                refine o_iastN (t0 := 0) hC rfl dX8_makeGroup_313 (by repeat (first | with_reducible assumption | (rw [rl_u_s]; done) | (rw [rl_u_s]; rfl) | rw [rl_u_n (by first | with_reducible assumption | omega)])) (by omega) (by decide) ?_
                have hq5 : mf ids h _ m T (nI 1) k2 (A2.1, A2.2.1, A2.2.2.1, A2.2.2.2.1, A2.2.2.2.2.1, A2.2.2.2.2.2.1, A2.2.2.2.2.2.2.1, A2.2.2.2.2.2.2.2.1, upd (upd A2.2.2.2.2.2.2.2.2.1 0 (mcl A2 b t251 ca)) 1 (nI st.1), A2.2.2.2.2.2.2.2.2.2.1, A2.2.2.2.2.2.2.2.2.2.2) := (hq2.s20 (upd A2.2.2.2.2.2.2.2.2.1 0 (mcl A2 b t251 ca))).s20 (upd (upd A2.2.2.2.2.2.2.2.2.1 0 (mcl A2 b t251 ca)) 1 (nI st.1))
                refine o_aload_n hC dX8_makeGroup_314 (by rfl) ?_
                refine o_iload_n hC dX8_makeGroup_315 (by rfl) ?_
                refine o_sipush (v := nI 1360) hC dX8_makeGroup_316 (by decide +kernel) ?_
                refine o_callV2 hC rl_BW_good rl_Ns_nw (by exact hB.2.2.2.2.2) YX8_comes IX8_comes VX8_comes (mX8_178 hC) (by rw [hB.1]; exact cf_X8_comes1 l D ids H0 _ _ m T _ _ _ a 1360 hq5.rf rfl) (by exact hq5.1.1) rfl rfl (Nat.le_of_ble_eq_true rfl) (by rw [hB.2.1]; first | exact Nat.le_of_ble_eq_true rfl | (dsimp only; omega)) (by rw [hB.2.1]; first | exact Nat.le_of_ble_eq_true rfl | (dsimp only; omega)) (by rw [hB.2.1]; first | exact Nat.le_of_ble_eq_true rfl | (dsimp only; omega)) (by rw [hB.2.1]; first | exact Nat.le_of_ble_eq_true rfl | (dsimp only; omega)) dX8_makeGroup_319 (fun v h_319 n_319 p_319 => ?_)
                obtain ⟨rfl, rfl, rfl⟩ := p_319
                try dsimp only [Option.toList, List.cons_append, List.nil_append]
                refine o_iinc hC dX8_makeGroup_322 (by rfl) (rl_inc _) (Nat.le_of_ble_eq_true rfl) ?_
                refine o_goto (tgt := 52) hC dX8_makeGroup_325 (by decide) ?_
                refine ih (s + 1) _ _ _ _ none _ _ _ _ _ _ _ (by omega) (by omega) hq5 (hop2.tr ⟨fun _ _ => rfl, fun _ _ => rfl, rfl, fun _ _ _ => rfl, fun _ _ _ => ⟨rfl, rfl⟩, rfl⟩) (Or.inr ⟨rfl, rfl⟩) hTW2 hG2 ?_
                rw [he]
                show ((fwf s g ns g.length 0 [(0, 0)]).bind (aput tab1 _)).bind _ = _
                rw [z3]
                rfl
          have loop3 : ∀ (m3 i : Nat) (h2 : rl_H) (f2 : Int32) (k2 : Nat) (A2 : md_D) (st : fSt) (o10 o11 : Option Value), i + m3 = g.length → st.1 ≤ i → mf ids h h2 m T f2 k2 A2 → mro A1 A2 1360 → ((f2 = nI 0 ∧ ∃ W : List tT, mws A2 1360 W ∧ wok W ∧ fwf s g ns g.length 0 [(0, 0)] = fwf s g ns (g.length - i) i W ∧ ffn s cb g g.length 0 (0, 0, 0, 0) = ffn s cb g (g.length - i) i st) ∨ (f2 = nI 1 ∧ fwf s g ns g.length 0 [(0, 0)] = none)) → rl_G X (rl_e D ids H0) 89 [some (.ref m), some (.int (nI a)), some (.int (nI b)), some (.int (nI g.length)), some (.int (nI s)), some (.int (nI st.1)), some (.int st.2.1), some (.int st.2.2.1), some (.int st.2.2.2), some (.int (nI i)), o10, o11] [] h2 n_71 0 0 := by
            intro m3
            induction m3 with
            | zero =>
              intro i h2 f2 k2 A2 st o10 o11 hm3 hsti hq2 hro hst2
              obtain ⟨hm0, g12, g13, g14, g15, g16, g17, g18, g19, g20, g21, g22⟩ := id hq2
              have g0 := hm0.1
              have gk := hm0.2.1
              refine o_iload hC dX8_makeGroup_89 (by rfl) ?_
              refine o_iload_n hC dX8_makeGroup_91 (by rfl) ?_
              refine o_icmp_ge (tgt := 239) hC dX8_makeGroup_92 (by decide) (fun c_92 => ?_) (fun c_92 => ?_)
              · refine fin _ _ _ A2 st _ _ _ hq2 hro ?_
                rcases hst2 with ⟨e1, W, z1, z2, z3, z4⟩ | ⟨e1, z3⟩
                · rw [show g.length - i = 0 by omega] at z3 z4
                  exact Or.inl ⟨e1, W, z1, z2, z3, z4⟩
                · exact Or.inr ⟨e1, z3⟩
              · exact absurd (nI_le (by omega) (by omega)) c_92
            | succ m3 ih3 =>
              intro i h2 f2 k2 A2 st o10 o11 hm3 hsti hq2 hro hst2
              have hop2 : mop A A2 a := hop.tr (hro.op (by omega))
              have hTb := hop2.tb hwb6 hbk.2.2 (by omega) hbt hba
              have hG2 : mgr A2 tb g := fun j h1 h2 => by
                obtain ⟨i, e1, e2, e3⟩ := hG j h1 h2
                exact ⟨i, e1, (congrFun (congrArg (fun z => z.2.1) hro.2.2.2.2.2) j).trans e2, e3⟩
              have hs1 := hq2.1.sa hs
              obtain ⟨hm0, g12, g13, g14, g15, g16, g17, g18, g19, g20, g21, g22⟩ := id hq2
              have g0 := hm0.1
              have gk := hm0.2.1
              obtain ⟨a1, a2, a3, a4, a5, a6, a7, a8, a9, a10, a11⟩ := id hs1
              refine o_iload hC dX8_makeGroup_89 (by rfl) ?_
              refine o_iload_n hC dX8_makeGroup_91 (by rfl) ?_
              refine o_icmp_ge (tgt := 239) hC dX8_makeGroup_92 (by decide) (fun c_92 => ?_) (fun c_92 => ?_)
              · exact absurd c_92 (nI_ge (by omega) (by omega))
              · refine o_aload_n hC dX8_makeGroup_95 (by rfl) ?_
                refine o_getf hC (fX8_91 hC rfl) dX8_makeGroup_96 (by repeat (first | with_reducible assumption | (rw [rl_u_s]; done) | (rw [rl_u_s]; rfl) | rw [rl_u_n (by first | with_reducible assumption | omega)])) (by first | rfl | with_reducible assumption) ?_
                refine o_if_ne (tgt := 239) hC dX8_makeGroup_99 (by decide) (fun c_99 => ?_) (fun c_99 => ?_)
                · refine fin _ _ _ A2 st _ _ _ hq2 hro ?_
                  rcases hst2 with ⟨rfl, W, z1, z2, z3, z4⟩ | ⟨e1, z3⟩
                  · exact absurd rfl c_99
                  · exact Or.inr ⟨e1, z3⟩
                · rcases hst2 with ⟨rfl, W, z1, z2, z3, z4⟩ | ⟨rfl, z3⟩
                  rotate_left
                  · exact absurd c_99 (by decide +kernel)
                  have e3m : g.length - i = m3 + 1 := by omega
                  rw [e3m] at z3 z4
                  have e3n : g.length - (i + 1) = m3 := by omega
                  have aft : ∀ (h3 : rl_H) (f3 : Int32) (k3 : Nat) (A3 : md_D) (z10 : Int32) (o11 : Option Value), z10 = (if inS s i then nI 1 else nI 0) → mf ids h h3 m T f3 k3 A3 → mro A2 A3 1360 → wre A3 1360 (nI 0) f3 (wst (tbo W (fnw s g ns i))) → rl_G X (rl_e D ids H0) 156 [some (.ref m), some (.int (nI a)), some (.int (nI b)), some (.int (nI g.length)), some (.int (nI s)), some (.int (nI st.1)), some (.int st.2.1), some (.int st.2.2.1), some (.int st.2.2.2), some (.int (nI i)), some (.int z10), o11] [] h3 n_71 0 0 := by
                    intro h3 f3 k3 A3 z10 o11 hz hq3 hro3 w3
                    have hop3 : mop A A3 a := hop2.tr (hro3.op (by omega))
                    have hTb3 := hop3.tb hwb6 hbk.2.2 (by omega) hbt hba
                    have hG3 : mgr A3 tb g := fun j h1 h2 => by
                      obtain ⟨i, e1, e2, e3⟩ := hG2 j h1 h2
                      exact ⟨i, e1, (congrFun (congrArg (fun z => z.2.1) hro3.2.2.2.2.2) j).trans e2, e3⟩
                    have nst : ∀ st' : fSt, fstep st (inS s i) (acg (ark g i) cb) = st' → ((f3 = nI 0 ∧ ∃ W : List tT, mws A3 1360 W ∧ wok W ∧ fwf s g ns g.length 0 [(0, 0)] = fwf s g ns (g.length - (i + 1)) (i + 1) W ∧ ffn s cb g g.length 0 (0, 0, 0, 0) = ffn s cb g (g.length - (i + 1)) (i + 1) st') ∨ (f3 = nI 1 ∧ fwf s g ns g.length 0 [(0, 0)] = none)) := fun st' hst' => by
                      rcases w3 with ⟨W3, y1, y2, y3⟩ | ⟨y1, y2, -⟩
                      · refine Or.inl ⟨y2, W3, y3, wst_ok y1, ?_, ?_⟩
                        · rw [z3, e3n, fwf, y1]
                          rfl
                        · rw [z4, e3n, ffn, hst']
                      · refine Or.inr ⟨y2, ?_⟩
                        rw [z3, fwf, y1]
                        rfl
                    have hs1 := hq3.1.sa hs
                    obtain ⟨hm0, g12, g13, g14, g15, g16, g17, g18, g19, g20, g21, g22⟩ := id hq3
                    have g0 := hm0.1
                    have gk := hm0.2.1
                    obtain ⟨a1, a2, a3, a4, a5, a6, a7, a8, a9, a10, a11⟩ := id hs1
                    refine o_aload_n hC dX8_makeGroup_156 (by rfl) ?_
                    refine o_iload_n hC dX8_makeGroup_157 (by rfl) ?_
                    refine o_aload_n hC dX8_makeGroup_158 (by rfl) ?_
                    refine o_getf hC (fX8_72 hC rfl) dX8_makeGroup_159 (by repeat (first | with_reducible assumption | (rw [rl_u_s]; done) | (rw [rl_u_s]; rfl) | rw [rl_u_n (by first | with_reducible assumption | omega)])) (by first | rfl | with_reducible assumption) ?_
                    refine o_iload hC dX8_makeGroup_162 (by rfl) ?_
                    obtain ⟨t164, ht164, et164, ea164⟩ := hG3 i (by omega) (by omega)
                    refine o_ialdN (t0 := 0) (k := i) hC rfl dX8_makeGroup_164 (by repeat (first | with_reducible assumption | (rw [rl_u_s]; done) | (rw [rl_u_s]; rfl) | rw [rl_u_n (by first | with_reducible assumption | omega)])) (by omega) (by decide) ?_
                    rw [et164]
                    refine o_aload_n hC dX8_makeGroup_165 (by rfl) ?_
                    refine o_getf hC (fX8_31 hC rfl) dX8_makeGroup_166 (by repeat (first | with_reducible assumption | (rw [rl_u_s]; done) | (rw [rl_u_s]; rfl) | rw [rl_u_n (by first | with_reducible assumption | omega)])) (by first | rfl | with_reducible assumption) ?_
                    refine o_iload_n hC dX8_makeGroup_169 (by rfl) ?_
                    refine o_ialdN (t0 := 0) (k := a) hC rfl dX8_makeGroup_170 (by repeat (first | with_reducible assumption | (rw [rl_u_s]; done) | (rw [rl_u_s]; rfl) | rw [rl_u_n (by first | with_reducible assumption | omega)])) (by omega) (by decide) ?_
                    rw [hnB]
                    refine o_callV3 hC rl_BW_good rl_Ns_nw (by exact hB.2.2.2.2.2) YX8_cellAt IX8_cellAt VX8_cellAt (mX8_138 hC) (by rw [hB.1]; exact cf_X8_cellAt l D ids H0 _ _ m T _ _ _ b t164 cb hq3.rf (by omega)) (by exact hq3.rf.1.1) rfl rfl (Nat.le_of_ble_eq_true rfl) (by rw [hB.2.1]; first | exact Nat.le_of_ble_eq_true rfl | (dsimp only; omega)) (by rw [hB.2.1]; first | exact Nat.le_of_ble_eq_true rfl | (dsimp only; omega)) (by rw [hB.2.1]; first | exact Nat.le_of_ble_eq_true rfl | (dsimp only; omega)) (by rw [hB.2.1]; first | exact Nat.le_of_ble_eq_true rfl | (dsimp only; omega)) dX8_makeGroup_171 (fun v h_171 n_171 p_171 => ?_)
                    obtain ⟨rfl, rfl, rfl⟩ := p_171
                    try dsimp only [Option.toList, List.cons_append, List.nil_append]
                    refine o_istore hC dX8_makeGroup_174 (Nat.le_of_ble_eq_true rfl) ?_
                    refine o_iload hC dX8_makeGroup_176 (by rfl) ?_
                    refine o_if_eq (tgt := 233) hC dX8_makeGroup_178 (by decide) (fun c_178 => ?_) (fun c_178 => ?_)
                    · refine o_iinc hC dX8_makeGroup_233 (by rfl) (rl_inc _) (Nat.le_of_ble_eq_true rfl) ?_
                      refine o_goto (tgt := 89) hC dX8_makeGroup_236 (by decide) ?_
                      have hin : inS s i = false := by
                        cases e : inS s i with
                        | false => rfl
                        | true => rw [e] at hz; exact absurd (hz.symm.trans c_178) (by decide +kernel)
                      exact ih3 (i + 1) _ _ _ A3 st _ _ (by omega) (by omega) hq3 (hro.tr hro3) (nst _ (by rw [hin]; rfl))
                    · refine o_iload hC dX8_makeGroup_181 (by rfl) ?_
                      refine o_if_eq (tgt := 193) hC dX8_makeGroup_183 (by decide) (fun c_183 => ?_) (fun c_183 => ?_)
                      · refine o_iload hC dX8_makeGroup_193 (by rfl) ?_
                        refine o_goto (tgt := 200) hC dX8_makeGroup_195 (by decide) ?_
                        refine o_istore hC dX8_makeGroup_200 (Nat.le_of_ble_eq_true rfl) ?_
                        refine o_iload hC dX8_makeGroup_202 (by rfl) ?_
                        refine o_if_eq (tgt := 214) hC dX8_makeGroup_204 (by decide) (fun c_204 => ?_) (fun c_204 => ?_)
                        · refine o_iload hC dX8_makeGroup_214 (by rfl) ?_
                          refine o_goto (tgt := 221) hC dX8_makeGroup_216 (by decide) ?_
                          refine o_istore hC dX8_makeGroup_221 (Nat.le_of_ble_eq_true rfl) ?_
                          refine o_iload hC dX8_makeGroup_223 (by rfl) ?_
                          refine o_iload hC dX8_makeGroup_225 (by rfl) ?_
                          refine o_iadd hC dX8_makeGroup_227 ?_
                          refine o_istore hC dX8_makeGroup_228 (Nat.le_of_ble_eq_true rfl) ?_
                          refine o_iinc (v := nI (st.1 + 1)) hC dX8_makeGroup_230 (by rfl) (rl_inc _) (Nat.le_of_ble_eq_true rfl) ?_
                          refine o_iinc hC dX8_makeGroup_233 (by rfl) (rl_inc _) (Nat.le_of_ble_eq_true rfl) ?_
                          refine o_goto (tgt := 89) hC dX8_makeGroup_236 (by decide) ?_
                          have hin : inS s i = true := by
                            cases e : inS s i with
                            | true => rfl
                            | false => rw [e] at hz; exact absurd hz c_178
                          have ex : (mcl A3 b t164 cb) = acg (ark g i) cb := by rw [(hTb3.2 t164 ht164).cg hcb, ea164]
                          first
                          | exact absurd c_183 c_204
                          | exact absurd c_204 c_183
                          | (have h0 : st.1 = 0 := (nI_inj2 (by omega) (by omega) (by first | exact c_183 | exact Classical.not_not.mp c_183)); (exact ih3 (i + 1) _ _ _ A3 (st.1 + 1, st.2.1 + (mcl A3 b t164 cb), (mcl A3 b t164 cb), (mcl A3 b t164 cb)) _ _ (by omega) (by dsimp only; omega) hq3 (hro.tr hro3) (nst _ (by rw [hin, ← ex]; unfold fstep; rw [if_pos rfl, if_pos h0, if_pos h0]))))
                          | (have h0 : st.1 ≠ 0 := fun e => c_183 (by rw [e]; rfl); (exact ih3 (i + 1) _ _ _ A3 (st.1 + 1, st.2.1 + (mcl A3 b t164 cb), (mcl A3 b t164 cb), (mcl A3 b t164 cb)) _ _ (by omega) (by dsimp only; omega) hq3 (hro.tr hro3) (nst _ (by rw [hin, ← ex]; unfold fstep; rw [if_pos rfl, if_neg h0, if_neg h0, if_pos (Int32.not_le.mp c_190), if_pos (Int32.not_le.mp c_211)]))))
                          | (have h0 : st.1 ≠ 0 := fun e => c_183 (by rw [e]; rfl); (exact ih3 (i + 1) _ _ _ A3 (st.1 + 1, st.2.1 + (mcl A3 b t164 cb), (mcl A3 b t164 cb), st.2.2.2) _ _ (by omega) (by dsimp only; omega) hq3 (hro.tr hro3) (nst _ (by rw [hin, ← ex]; unfold fstep; rw [if_pos rfl, if_neg h0, if_neg h0, if_pos (Int32.not_le.mp c_190), if_neg (Int32.not_lt.mpr c_211)]))))
                          | (have h0 : st.1 ≠ 0 := fun e => c_183 (by rw [e]; rfl); (exact ih3 (i + 1) _ _ _ A3 (st.1 + 1, st.2.1 + (mcl A3 b t164 cb), st.2.2.1, (mcl A3 b t164 cb)) _ _ (by omega) (by dsimp only; omega) hq3 (hro.tr hro3) (nst _ (by rw [hin, ← ex]; unfold fstep; rw [if_pos rfl, if_neg h0, if_neg h0, if_neg (Int32.not_lt.mpr c_190), if_pos (Int32.not_le.mp c_211)]))))
                          | (have h0 : st.1 ≠ 0 := fun e => c_183 (by rw [e]; rfl); (exact ih3 (i + 1) _ _ _ A3 (st.1 + 1, st.2.1 + (mcl A3 b t164 cb), st.2.2.1, st.2.2.2) _ _ (by omega) (by dsimp only; omega) hq3 (hro.tr hro3) (nst _ (by rw [hin, ← ex]; unfold fstep; rw [if_pos rfl, if_neg h0, if_neg h0, if_neg (Int32.not_lt.mpr c_190), if_neg (Int32.not_lt.mpr c_211)]))))
                        · refine o_iload hC dX8_makeGroup_207 (by rfl) ?_
                          refine o_iload hC dX8_makeGroup_209 (by rfl) ?_
                          refine o_icmp_le (tgt := 219) hC dX8_makeGroup_211 (by decide) (fun c_211 => ?_) (fun c_211 => ?_)
                          · refine o_iload hC dX8_makeGroup_219 (by rfl) ?_
                            refine o_istore hC dX8_makeGroup_221 (Nat.le_of_ble_eq_true rfl) ?_
                            refine o_iload hC dX8_makeGroup_223 (by rfl) ?_
                            refine o_iload hC dX8_makeGroup_225 (by rfl) ?_
                            refine o_iadd hC dX8_makeGroup_227 ?_
                            refine o_istore hC dX8_makeGroup_228 (Nat.le_of_ble_eq_true rfl) ?_
                            refine o_iinc (v := nI (st.1 + 1)) hC dX8_makeGroup_230 (by rfl) (rl_inc _) (Nat.le_of_ble_eq_true rfl) ?_
                            refine o_iinc hC dX8_makeGroup_233 (by rfl) (rl_inc _) (Nat.le_of_ble_eq_true rfl) ?_
                            refine o_goto (tgt := 89) hC dX8_makeGroup_236 (by decide) ?_
                            have hin : inS s i = true := by
                              cases e : inS s i with
                              | true => rfl
                              | false => rw [e] at hz; exact absurd hz c_178
                            have ex : (mcl A3 b t164 cb) = acg (ark g i) cb := by rw [(hTb3.2 t164 ht164).cg hcb, ea164]
                            first
                            | exact absurd c_183 c_204
                            | exact absurd c_204 c_183
                            | (have h0 : st.1 = 0 := (nI_inj2 (by omega) (by omega) (by first | exact c_183 | exact Classical.not_not.mp c_183)); (exact ih3 (i + 1) _ _ _ A3 (st.1 + 1, st.2.1 + (mcl A3 b t164 cb), (mcl A3 b t164 cb), (mcl A3 b t164 cb)) _ _ (by omega) (by dsimp only; omega) hq3 (hro.tr hro3) (nst _ (by rw [hin, ← ex]; unfold fstep; rw [if_pos rfl, if_pos h0, if_pos h0]))))
                            | (have h0 : st.1 ≠ 0 := fun e => c_183 (by rw [e]; rfl); (exact ih3 (i + 1) _ _ _ A3 (st.1 + 1, st.2.1 + (mcl A3 b t164 cb), (mcl A3 b t164 cb), (mcl A3 b t164 cb)) _ _ (by omega) (by dsimp only; omega) hq3 (hro.tr hro3) (nst _ (by rw [hin, ← ex]; unfold fstep; rw [if_pos rfl, if_neg h0, if_neg h0, if_pos (Int32.not_le.mp c_190), if_pos (Int32.not_le.mp c_211)]))))
                            | (have h0 : st.1 ≠ 0 := fun e => c_183 (by rw [e]; rfl); (exact ih3 (i + 1) _ _ _ A3 (st.1 + 1, st.2.1 + (mcl A3 b t164 cb), (mcl A3 b t164 cb), st.2.2.2) _ _ (by omega) (by dsimp only; omega) hq3 (hro.tr hro3) (nst _ (by rw [hin, ← ex]; unfold fstep; rw [if_pos rfl, if_neg h0, if_neg h0, if_pos (Int32.not_le.mp c_190), if_neg (Int32.not_lt.mpr c_211)]))))
                            | (have h0 : st.1 ≠ 0 := fun e => c_183 (by rw [e]; rfl); (exact ih3 (i + 1) _ _ _ A3 (st.1 + 1, st.2.1 + (mcl A3 b t164 cb), st.2.2.1, (mcl A3 b t164 cb)) _ _ (by omega) (by dsimp only; omega) hq3 (hro.tr hro3) (nst _ (by rw [hin, ← ex]; unfold fstep; rw [if_pos rfl, if_neg h0, if_neg h0, if_neg (Int32.not_lt.mpr c_190), if_pos (Int32.not_le.mp c_211)]))))
                            | (have h0 : st.1 ≠ 0 := fun e => c_183 (by rw [e]; rfl); (exact ih3 (i + 1) _ _ _ A3 (st.1 + 1, st.2.1 + (mcl A3 b t164 cb), st.2.2.1, st.2.2.2) _ _ (by omega) (by dsimp only; omega) hq3 (hro.tr hro3) (nst _ (by rw [hin, ← ex]; unfold fstep; rw [if_pos rfl, if_neg h0, if_neg h0, if_neg (Int32.not_lt.mpr c_190), if_neg (Int32.not_lt.mpr c_211)]))))
                          · refine o_iload hC dX8_makeGroup_214 (by rfl) ?_
                            refine o_goto (tgt := 221) hC dX8_makeGroup_216 (by decide) ?_
                            refine o_istore hC dX8_makeGroup_221 (Nat.le_of_ble_eq_true rfl) ?_
                            refine o_iload hC dX8_makeGroup_223 (by rfl) ?_
                            refine o_iload hC dX8_makeGroup_225 (by rfl) ?_
                            refine o_iadd hC dX8_makeGroup_227 ?_
                            refine o_istore hC dX8_makeGroup_228 (Nat.le_of_ble_eq_true rfl) ?_
                            refine o_iinc (v := nI (st.1 + 1)) hC dX8_makeGroup_230 (by rfl) (rl_inc _) (Nat.le_of_ble_eq_true rfl) ?_
                            refine o_iinc hC dX8_makeGroup_233 (by rfl) (rl_inc _) (Nat.le_of_ble_eq_true rfl) ?_
                            refine o_goto (tgt := 89) hC dX8_makeGroup_236 (by decide) ?_
                            have hin : inS s i = true := by
                              cases e : inS s i with
                              | true => rfl
                              | false => rw [e] at hz; exact absurd hz c_178
                            have ex : (mcl A3 b t164 cb) = acg (ark g i) cb := by rw [(hTb3.2 t164 ht164).cg hcb, ea164]
                            first
                            | exact absurd c_183 c_204
                            | exact absurd c_204 c_183
                            | (have h0 : st.1 = 0 := (nI_inj2 (by omega) (by omega) (by first | exact c_183 | exact Classical.not_not.mp c_183)); (exact ih3 (i + 1) _ _ _ A3 (st.1 + 1, st.2.1 + (mcl A3 b t164 cb), (mcl A3 b t164 cb), (mcl A3 b t164 cb)) _ _ (by omega) (by dsimp only; omega) hq3 (hro.tr hro3) (nst _ (by rw [hin, ← ex]; unfold fstep; rw [if_pos rfl, if_pos h0, if_pos h0]))))
                            | (have h0 : st.1 ≠ 0 := fun e => c_183 (by rw [e]; rfl); (exact ih3 (i + 1) _ _ _ A3 (st.1 + 1, st.2.1 + (mcl A3 b t164 cb), (mcl A3 b t164 cb), (mcl A3 b t164 cb)) _ _ (by omega) (by dsimp only; omega) hq3 (hro.tr hro3) (nst _ (by rw [hin, ← ex]; unfold fstep; rw [if_pos rfl, if_neg h0, if_neg h0, if_pos (Int32.not_le.mp c_190), if_pos (Int32.not_le.mp c_211)]))))
                            | (have h0 : st.1 ≠ 0 := fun e => c_183 (by rw [e]; rfl); (exact ih3 (i + 1) _ _ _ A3 (st.1 + 1, st.2.1 + (mcl A3 b t164 cb), (mcl A3 b t164 cb), st.2.2.2) _ _ (by omega) (by dsimp only; omega) hq3 (hro.tr hro3) (nst _ (by rw [hin, ← ex]; unfold fstep; rw [if_pos rfl, if_neg h0, if_neg h0, if_pos (Int32.not_le.mp c_190), if_neg (Int32.not_lt.mpr c_211)]))))
                            | (have h0 : st.1 ≠ 0 := fun e => c_183 (by rw [e]; rfl); (exact ih3 (i + 1) _ _ _ A3 (st.1 + 1, st.2.1 + (mcl A3 b t164 cb), st.2.2.1, (mcl A3 b t164 cb)) _ _ (by omega) (by dsimp only; omega) hq3 (hro.tr hro3) (nst _ (by rw [hin, ← ex]; unfold fstep; rw [if_pos rfl, if_neg h0, if_neg h0, if_neg (Int32.not_lt.mpr c_190), if_pos (Int32.not_le.mp c_211)]))))
                            | (have h0 : st.1 ≠ 0 := fun e => c_183 (by rw [e]; rfl); (exact ih3 (i + 1) _ _ _ A3 (st.1 + 1, st.2.1 + (mcl A3 b t164 cb), st.2.2.1, st.2.2.2) _ _ (by omega) (by dsimp only; omega) hq3 (hro.tr hro3) (nst _ (by rw [hin, ← ex]; unfold fstep; rw [if_pos rfl, if_neg h0, if_neg h0, if_neg (Int32.not_lt.mpr c_190), if_neg (Int32.not_lt.mpr c_211)]))))
                      · refine o_iload hC dX8_makeGroup_186 (by rfl) ?_
                        refine o_iload hC dX8_makeGroup_188 (by rfl) ?_
                        refine o_icmp_ge (tgt := 198) hC dX8_makeGroup_190 (by decide) (fun c_190 => ?_) (fun c_190 => ?_)
                        · refine o_iload hC dX8_makeGroup_198 (by rfl) ?_
                          refine o_istore hC dX8_makeGroup_200 (Nat.le_of_ble_eq_true rfl) ?_
                          refine o_iload hC dX8_makeGroup_202 (by rfl) ?_
                          refine o_if_eq (tgt := 214) hC dX8_makeGroup_204 (by decide) (fun c_204 => ?_) (fun c_204 => ?_)
                          · refine o_iload hC dX8_makeGroup_214 (by rfl) ?_
                            refine o_goto (tgt := 221) hC dX8_makeGroup_216 (by decide) ?_
                            refine o_istore hC dX8_makeGroup_221 (Nat.le_of_ble_eq_true rfl) ?_
                            refine o_iload hC dX8_makeGroup_223 (by rfl) ?_
                            refine o_iload hC dX8_makeGroup_225 (by rfl) ?_
                            refine o_iadd hC dX8_makeGroup_227 ?_
                            refine o_istore hC dX8_makeGroup_228 (Nat.le_of_ble_eq_true rfl) ?_
                            refine o_iinc (v := nI (st.1 + 1)) hC dX8_makeGroup_230 (by rfl) (rl_inc _) (Nat.le_of_ble_eq_true rfl) ?_
                            refine o_iinc hC dX8_makeGroup_233 (by rfl) (rl_inc _) (Nat.le_of_ble_eq_true rfl) ?_
                            refine o_goto (tgt := 89) hC dX8_makeGroup_236 (by decide) ?_
                            have hin : inS s i = true := by
                              cases e : inS s i with
                              | true => rfl
                              | false => rw [e] at hz; exact absurd hz c_178
                            have ex : (mcl A3 b t164 cb) = acg (ark g i) cb := by rw [(hTb3.2 t164 ht164).cg hcb, ea164]
                            first
                            | exact absurd c_183 c_204
                            | exact absurd c_204 c_183
                            | (have h0 : st.1 = 0 := (nI_inj2 (by omega) (by omega) (by first | exact c_183 | exact Classical.not_not.mp c_183)); (exact ih3 (i + 1) _ _ _ A3 (st.1 + 1, st.2.1 + (mcl A3 b t164 cb), (mcl A3 b t164 cb), (mcl A3 b t164 cb)) _ _ (by omega) (by dsimp only; omega) hq3 (hro.tr hro3) (nst _ (by rw [hin, ← ex]; unfold fstep; rw [if_pos rfl, if_pos h0, if_pos h0]))))
                            | (have h0 : st.1 ≠ 0 := fun e => c_183 (by rw [e]; rfl); (exact ih3 (i + 1) _ _ _ A3 (st.1 + 1, st.2.1 + (mcl A3 b t164 cb), (mcl A3 b t164 cb), (mcl A3 b t164 cb)) _ _ (by omega) (by dsimp only; omega) hq3 (hro.tr hro3) (nst _ (by rw [hin, ← ex]; unfold fstep; rw [if_pos rfl, if_neg h0, if_neg h0, if_pos (Int32.not_le.mp c_190), if_pos (Int32.not_le.mp c_211)]))))
                            | (have h0 : st.1 ≠ 0 := fun e => c_183 (by rw [e]; rfl); (exact ih3 (i + 1) _ _ _ A3 (st.1 + 1, st.2.1 + (mcl A3 b t164 cb), (mcl A3 b t164 cb), st.2.2.2) _ _ (by omega) (by dsimp only; omega) hq3 (hro.tr hro3) (nst _ (by rw [hin, ← ex]; unfold fstep; rw [if_pos rfl, if_neg h0, if_neg h0, if_pos (Int32.not_le.mp c_190), if_neg (Int32.not_lt.mpr c_211)]))))
                            | (have h0 : st.1 ≠ 0 := fun e => c_183 (by rw [e]; rfl); (exact ih3 (i + 1) _ _ _ A3 (st.1 + 1, st.2.1 + (mcl A3 b t164 cb), st.2.2.1, (mcl A3 b t164 cb)) _ _ (by omega) (by dsimp only; omega) hq3 (hro.tr hro3) (nst _ (by rw [hin, ← ex]; unfold fstep; rw [if_pos rfl, if_neg h0, if_neg h0, if_neg (Int32.not_lt.mpr c_190), if_pos (Int32.not_le.mp c_211)]))))
                            | (have h0 : st.1 ≠ 0 := fun e => c_183 (by rw [e]; rfl); (exact ih3 (i + 1) _ _ _ A3 (st.1 + 1, st.2.1 + (mcl A3 b t164 cb), st.2.2.1, st.2.2.2) _ _ (by omega) (by dsimp only; omega) hq3 (hro.tr hro3) (nst _ (by rw [hin, ← ex]; unfold fstep; rw [if_pos rfl, if_neg h0, if_neg h0, if_neg (Int32.not_lt.mpr c_190), if_neg (Int32.not_lt.mpr c_211)]))))
                          · refine o_iload hC dX8_makeGroup_207 (by rfl) ?_
                            refine o_iload hC dX8_makeGroup_209 (by rfl) ?_
                            refine o_icmp_le (tgt := 219) hC dX8_makeGroup_211 (by decide) (fun c_211 => ?_) (fun c_211 => ?_)
                            · refine o_iload hC dX8_makeGroup_219 (by rfl) ?_
                              refine o_istore hC dX8_makeGroup_221 (Nat.le_of_ble_eq_true rfl) ?_
                              refine o_iload hC dX8_makeGroup_223 (by rfl) ?_
                              refine o_iload hC dX8_makeGroup_225 (by rfl) ?_
                              refine o_iadd hC dX8_makeGroup_227 ?_
                              refine o_istore hC dX8_makeGroup_228 (Nat.le_of_ble_eq_true rfl) ?_
                              refine o_iinc (v := nI (st.1 + 1)) hC dX8_makeGroup_230 (by rfl) (rl_inc _) (Nat.le_of_ble_eq_true rfl) ?_
                              refine o_iinc hC dX8_makeGroup_233 (by rfl) (rl_inc _) (Nat.le_of_ble_eq_true rfl) ?_
                              refine o_goto (tgt := 89) hC dX8_makeGroup_236 (by decide) ?_
                              have hin : inS s i = true := by
                                cases e : inS s i with
                                | true => rfl
                                | false => rw [e] at hz; exact absurd hz c_178
                              have ex : (mcl A3 b t164 cb) = acg (ark g i) cb := by rw [(hTb3.2 t164 ht164).cg hcb, ea164]
                              first
                              | exact absurd c_183 c_204
                              | exact absurd c_204 c_183
                              | (have h0 : st.1 = 0 := (nI_inj2 (by omega) (by omega) (by first | exact c_183 | exact Classical.not_not.mp c_183)); (exact ih3 (i + 1) _ _ _ A3 (st.1 + 1, st.2.1 + (mcl A3 b t164 cb), (mcl A3 b t164 cb), (mcl A3 b t164 cb)) _ _ (by omega) (by dsimp only; omega) hq3 (hro.tr hro3) (nst _ (by rw [hin, ← ex]; unfold fstep; rw [if_pos rfl, if_pos h0, if_pos h0]))))
                              | (have h0 : st.1 ≠ 0 := fun e => c_183 (by rw [e]; rfl); (exact ih3 (i + 1) _ _ _ A3 (st.1 + 1, st.2.1 + (mcl A3 b t164 cb), (mcl A3 b t164 cb), (mcl A3 b t164 cb)) _ _ (by omega) (by dsimp only; omega) hq3 (hro.tr hro3) (nst _ (by rw [hin, ← ex]; unfold fstep; rw [if_pos rfl, if_neg h0, if_neg h0, if_pos (Int32.not_le.mp c_190), if_pos (Int32.not_le.mp c_211)]))))
                              | (have h0 : st.1 ≠ 0 := fun e => c_183 (by rw [e]; rfl); (exact ih3 (i + 1) _ _ _ A3 (st.1 + 1, st.2.1 + (mcl A3 b t164 cb), (mcl A3 b t164 cb), st.2.2.2) _ _ (by omega) (by dsimp only; omega) hq3 (hro.tr hro3) (nst _ (by rw [hin, ← ex]; unfold fstep; rw [if_pos rfl, if_neg h0, if_neg h0, if_pos (Int32.not_le.mp c_190), if_neg (Int32.not_lt.mpr c_211)]))))
                              | (have h0 : st.1 ≠ 0 := fun e => c_183 (by rw [e]; rfl); (exact ih3 (i + 1) _ _ _ A3 (st.1 + 1, st.2.1 + (mcl A3 b t164 cb), st.2.2.1, (mcl A3 b t164 cb)) _ _ (by omega) (by dsimp only; omega) hq3 (hro.tr hro3) (nst _ (by rw [hin, ← ex]; unfold fstep; rw [if_pos rfl, if_neg h0, if_neg h0, if_neg (Int32.not_lt.mpr c_190), if_pos (Int32.not_le.mp c_211)]))))
                              | (have h0 : st.1 ≠ 0 := fun e => c_183 (by rw [e]; rfl); (exact ih3 (i + 1) _ _ _ A3 (st.1 + 1, st.2.1 + (mcl A3 b t164 cb), st.2.2.1, st.2.2.2) _ _ (by omega) (by dsimp only; omega) hq3 (hro.tr hro3) (nst _ (by rw [hin, ← ex]; unfold fstep; rw [if_pos rfl, if_neg h0, if_neg h0, if_neg (Int32.not_lt.mpr c_190), if_neg (Int32.not_lt.mpr c_211)]))))
                            · refine o_iload hC dX8_makeGroup_214 (by rfl) ?_
                              refine o_goto (tgt := 221) hC dX8_makeGroup_216 (by decide) ?_
                              refine o_istore hC dX8_makeGroup_221 (Nat.le_of_ble_eq_true rfl) ?_
                              refine o_iload hC dX8_makeGroup_223 (by rfl) ?_
                              refine o_iload hC dX8_makeGroup_225 (by rfl) ?_
                              refine o_iadd hC dX8_makeGroup_227 ?_
                              refine o_istore hC dX8_makeGroup_228 (Nat.le_of_ble_eq_true rfl) ?_
                              refine o_iinc (v := nI (st.1 + 1)) hC dX8_makeGroup_230 (by rfl) (rl_inc _) (Nat.le_of_ble_eq_true rfl) ?_
                              refine o_iinc hC dX8_makeGroup_233 (by rfl) (rl_inc _) (Nat.le_of_ble_eq_true rfl) ?_
                              refine o_goto (tgt := 89) hC dX8_makeGroup_236 (by decide) ?_
                              have hin : inS s i = true := by
                                cases e : inS s i with
                                | true => rfl
                                | false => rw [e] at hz; exact absurd hz c_178
                              have ex : (mcl A3 b t164 cb) = acg (ark g i) cb := by rw [(hTb3.2 t164 ht164).cg hcb, ea164]
                              first
                              | exact absurd c_183 c_204
                              | exact absurd c_204 c_183
                              | (have h0 : st.1 = 0 := (nI_inj2 (by omega) (by omega) (by first | exact c_183 | exact Classical.not_not.mp c_183)); (exact ih3 (i + 1) _ _ _ A3 (st.1 + 1, st.2.1 + (mcl A3 b t164 cb), (mcl A3 b t164 cb), (mcl A3 b t164 cb)) _ _ (by omega) (by dsimp only; omega) hq3 (hro.tr hro3) (nst _ (by rw [hin, ← ex]; unfold fstep; rw [if_pos rfl, if_pos h0, if_pos h0]))))
                              | (have h0 : st.1 ≠ 0 := fun e => c_183 (by rw [e]; rfl); (exact ih3 (i + 1) _ _ _ A3 (st.1 + 1, st.2.1 + (mcl A3 b t164 cb), (mcl A3 b t164 cb), (mcl A3 b t164 cb)) _ _ (by omega) (by dsimp only; omega) hq3 (hro.tr hro3) (nst _ (by rw [hin, ← ex]; unfold fstep; rw [if_pos rfl, if_neg h0, if_neg h0, if_pos (Int32.not_le.mp c_190), if_pos (Int32.not_le.mp c_211)]))))
                              | (have h0 : st.1 ≠ 0 := fun e => c_183 (by rw [e]; rfl); (exact ih3 (i + 1) _ _ _ A3 (st.1 + 1, st.2.1 + (mcl A3 b t164 cb), (mcl A3 b t164 cb), st.2.2.2) _ _ (by omega) (by dsimp only; omega) hq3 (hro.tr hro3) (nst _ (by rw [hin, ← ex]; unfold fstep; rw [if_pos rfl, if_neg h0, if_neg h0, if_pos (Int32.not_le.mp c_190), if_neg (Int32.not_lt.mpr c_211)]))))
                              | (have h0 : st.1 ≠ 0 := fun e => c_183 (by rw [e]; rfl); (exact ih3 (i + 1) _ _ _ A3 (st.1 + 1, st.2.1 + (mcl A3 b t164 cb), st.2.2.1, (mcl A3 b t164 cb)) _ _ (by omega) (by dsimp only; omega) hq3 (hro.tr hro3) (nst _ (by rw [hin, ← ex]; unfold fstep; rw [if_pos rfl, if_neg h0, if_neg h0, if_neg (Int32.not_lt.mpr c_190), if_pos (Int32.not_le.mp c_211)]))))
                              | (have h0 : st.1 ≠ 0 := fun e => c_183 (by rw [e]; rfl); (exact ih3 (i + 1) _ _ _ A3 (st.1 + 1, st.2.1 + (mcl A3 b t164 cb), st.2.2.1, st.2.2.2) _ _ (by omega) (by dsimp only; omega) hq3 (hro.tr hro3) (nst _ (by rw [hin, ← ex]; unfold fstep; rw [if_pos rfl, if_neg h0, if_neg h0, if_neg (Int32.not_lt.mpr c_190), if_neg (Int32.not_lt.mpr c_211)]))))
                        · refine o_iload hC dX8_makeGroup_193 (by rfl) ?_
                          refine o_goto (tgt := 200) hC dX8_makeGroup_195 (by decide) ?_
                          refine o_istore hC dX8_makeGroup_200 (Nat.le_of_ble_eq_true rfl) ?_
                          refine o_iload hC dX8_makeGroup_202 (by rfl) ?_
                          refine o_if_eq (tgt := 214) hC dX8_makeGroup_204 (by decide) (fun c_204 => ?_) (fun c_204 => ?_)
                          · refine o_iload hC dX8_makeGroup_214 (by rfl) ?_
                            refine o_goto (tgt := 221) hC dX8_makeGroup_216 (by decide) ?_
                            refine o_istore hC dX8_makeGroup_221 (Nat.le_of_ble_eq_true rfl) ?_
                            refine o_iload hC dX8_makeGroup_223 (by rfl) ?_
                            refine o_iload hC dX8_makeGroup_225 (by rfl) ?_
                            refine o_iadd hC dX8_makeGroup_227 ?_
                            refine o_istore hC dX8_makeGroup_228 (Nat.le_of_ble_eq_true rfl) ?_
                            refine o_iinc (v := nI (st.1 + 1)) hC dX8_makeGroup_230 (by rfl) (rl_inc _) (Nat.le_of_ble_eq_true rfl) ?_
                            refine o_iinc hC dX8_makeGroup_233 (by rfl) (rl_inc _) (Nat.le_of_ble_eq_true rfl) ?_
                            refine o_goto (tgt := 89) hC dX8_makeGroup_236 (by decide) ?_
                            have hin : inS s i = true := by
                              cases e : inS s i with
                              | true => rfl
                              | false => rw [e] at hz; exact absurd hz c_178
                            have ex : (mcl A3 b t164 cb) = acg (ark g i) cb := by rw [(hTb3.2 t164 ht164).cg hcb, ea164]
                            first
                            | exact absurd c_183 c_204
                            | exact absurd c_204 c_183
                            | (have h0 : st.1 = 0 := (nI_inj2 (by omega) (by omega) (by first | exact c_183 | exact Classical.not_not.mp c_183)); (exact ih3 (i + 1) _ _ _ A3 (st.1 + 1, st.2.1 + (mcl A3 b t164 cb), (mcl A3 b t164 cb), (mcl A3 b t164 cb)) _ _ (by omega) (by dsimp only; omega) hq3 (hro.tr hro3) (nst _ (by rw [hin, ← ex]; unfold fstep; rw [if_pos rfl, if_pos h0, if_pos h0]))))
                            | (have h0 : st.1 ≠ 0 := fun e => c_183 (by rw [e]; rfl); (exact ih3 (i + 1) _ _ _ A3 (st.1 + 1, st.2.1 + (mcl A3 b t164 cb), (mcl A3 b t164 cb), (mcl A3 b t164 cb)) _ _ (by omega) (by dsimp only; omega) hq3 (hro.tr hro3) (nst _ (by rw [hin, ← ex]; unfold fstep; rw [if_pos rfl, if_neg h0, if_neg h0, if_pos (Int32.not_le.mp c_190), if_pos (Int32.not_le.mp c_211)]))))
                            | (have h0 : st.1 ≠ 0 := fun e => c_183 (by rw [e]; rfl); (exact ih3 (i + 1) _ _ _ A3 (st.1 + 1, st.2.1 + (mcl A3 b t164 cb), (mcl A3 b t164 cb), st.2.2.2) _ _ (by omega) (by dsimp only; omega) hq3 (hro.tr hro3) (nst _ (by rw [hin, ← ex]; unfold fstep; rw [if_pos rfl, if_neg h0, if_neg h0, if_pos (Int32.not_le.mp c_190), if_neg (Int32.not_lt.mpr c_211)]))))
                            | (have h0 : st.1 ≠ 0 := fun e => c_183 (by rw [e]; rfl); (exact ih3 (i + 1) _ _ _ A3 (st.1 + 1, st.2.1 + (mcl A3 b t164 cb), st.2.2.1, (mcl A3 b t164 cb)) _ _ (by omega) (by dsimp only; omega) hq3 (hro.tr hro3) (nst _ (by rw [hin, ← ex]; unfold fstep; rw [if_pos rfl, if_neg h0, if_neg h0, if_neg (Int32.not_lt.mpr c_190), if_pos (Int32.not_le.mp c_211)]))))
                            | (have h0 : st.1 ≠ 0 := fun e => c_183 (by rw [e]; rfl); (exact ih3 (i + 1) _ _ _ A3 (st.1 + 1, st.2.1 + (mcl A3 b t164 cb), st.2.2.1, st.2.2.2) _ _ (by omega) (by dsimp only; omega) hq3 (hro.tr hro3) (nst _ (by rw [hin, ← ex]; unfold fstep; rw [if_pos rfl, if_neg h0, if_neg h0, if_neg (Int32.not_lt.mpr c_190), if_neg (Int32.not_lt.mpr c_211)]))))
                          · refine o_iload hC dX8_makeGroup_207 (by rfl) ?_
                            refine o_iload hC dX8_makeGroup_209 (by rfl) ?_
                            refine o_icmp_le (tgt := 219) hC dX8_makeGroup_211 (by decide) (fun c_211 => ?_) (fun c_211 => ?_)
                            · refine o_iload hC dX8_makeGroup_219 (by rfl) ?_
                              refine o_istore hC dX8_makeGroup_221 (Nat.le_of_ble_eq_true rfl) ?_
                              refine o_iload hC dX8_makeGroup_223 (by rfl) ?_
                              refine o_iload hC dX8_makeGroup_225 (by rfl) ?_
                              refine o_iadd hC dX8_makeGroup_227 ?_
                              refine o_istore hC dX8_makeGroup_228 (Nat.le_of_ble_eq_true rfl) ?_
                              refine o_iinc (v := nI (st.1 + 1)) hC dX8_makeGroup_230 (by rfl) (rl_inc _) (Nat.le_of_ble_eq_true rfl) ?_
                              refine o_iinc hC dX8_makeGroup_233 (by rfl) (rl_inc _) (Nat.le_of_ble_eq_true rfl) ?_
                              refine o_goto (tgt := 89) hC dX8_makeGroup_236 (by decide) ?_
                              have hin : inS s i = true := by
                                cases e : inS s i with
                                | true => rfl
                                | false => rw [e] at hz; exact absurd hz c_178
                              have ex : (mcl A3 b t164 cb) = acg (ark g i) cb := by rw [(hTb3.2 t164 ht164).cg hcb, ea164]
                              first
                              | exact absurd c_183 c_204
                              | exact absurd c_204 c_183
                              | (have h0 : st.1 = 0 := (nI_inj2 (by omega) (by omega) (by first | exact c_183 | exact Classical.not_not.mp c_183)); (exact ih3 (i + 1) _ _ _ A3 (st.1 + 1, st.2.1 + (mcl A3 b t164 cb), (mcl A3 b t164 cb), (mcl A3 b t164 cb)) _ _ (by omega) (by dsimp only; omega) hq3 (hro.tr hro3) (nst _ (by rw [hin, ← ex]; unfold fstep; rw [if_pos rfl, if_pos h0, if_pos h0]))))
                              | (have h0 : st.1 ≠ 0 := fun e => c_183 (by rw [e]; rfl); (exact ih3 (i + 1) _ _ _ A3 (st.1 + 1, st.2.1 + (mcl A3 b t164 cb), (mcl A3 b t164 cb), (mcl A3 b t164 cb)) _ _ (by omega) (by dsimp only; omega) hq3 (hro.tr hro3) (nst _ (by rw [hin, ← ex]; unfold fstep; rw [if_pos rfl, if_neg h0, if_neg h0, if_pos (Int32.not_le.mp c_190), if_pos (Int32.not_le.mp c_211)]))))
                              | (have h0 : st.1 ≠ 0 := fun e => c_183 (by rw [e]; rfl); (exact ih3 (i + 1) _ _ _ A3 (st.1 + 1, st.2.1 + (mcl A3 b t164 cb), (mcl A3 b t164 cb), st.2.2.2) _ _ (by omega) (by dsimp only; omega) hq3 (hro.tr hro3) (nst _ (by rw [hin, ← ex]; unfold fstep; rw [if_pos rfl, if_neg h0, if_neg h0, if_pos (Int32.not_le.mp c_190), if_neg (Int32.not_lt.mpr c_211)]))))
                              | (have h0 : st.1 ≠ 0 := fun e => c_183 (by rw [e]; rfl); (exact ih3 (i + 1) _ _ _ A3 (st.1 + 1, st.2.1 + (mcl A3 b t164 cb), st.2.2.1, (mcl A3 b t164 cb)) _ _ (by omega) (by dsimp only; omega) hq3 (hro.tr hro3) (nst _ (by rw [hin, ← ex]; unfold fstep; rw [if_pos rfl, if_neg h0, if_neg h0, if_neg (Int32.not_lt.mpr c_190), if_pos (Int32.not_le.mp c_211)]))))
                              | (have h0 : st.1 ≠ 0 := fun e => c_183 (by rw [e]; rfl); (exact ih3 (i + 1) _ _ _ A3 (st.1 + 1, st.2.1 + (mcl A3 b t164 cb), st.2.2.1, st.2.2.2) _ _ (by omega) (by dsimp only; omega) hq3 (hro.tr hro3) (nst _ (by rw [hin, ← ex]; unfold fstep; rw [if_pos rfl, if_neg h0, if_neg h0, if_neg (Int32.not_lt.mpr c_190), if_neg (Int32.not_lt.mpr c_211)]))))
                            · refine o_iload hC dX8_makeGroup_214 (by rfl) ?_
                              refine o_goto (tgt := 221) hC dX8_makeGroup_216 (by decide) ?_
                              refine o_istore hC dX8_makeGroup_221 (Nat.le_of_ble_eq_true rfl) ?_
                              refine o_iload hC dX8_makeGroup_223 (by rfl) ?_
                              refine o_iload hC dX8_makeGroup_225 (by rfl) ?_
                              refine o_iadd hC dX8_makeGroup_227 ?_
                              refine o_istore hC dX8_makeGroup_228 (Nat.le_of_ble_eq_true rfl) ?_
                              refine o_iinc (v := nI (st.1 + 1)) hC dX8_makeGroup_230 (by rfl) (rl_inc _) (Nat.le_of_ble_eq_true rfl) ?_
                              refine o_iinc hC dX8_makeGroup_233 (by rfl) (rl_inc _) (Nat.le_of_ble_eq_true rfl) ?_
                              refine o_goto (tgt := 89) hC dX8_makeGroup_236 (by decide) ?_
                              have hin : inS s i = true := by
                                cases e : inS s i with
                                | true => rfl
                                | false => rw [e] at hz; exact absurd hz c_178
                              have ex : (mcl A3 b t164 cb) = acg (ark g i) cb := by rw [(hTb3.2 t164 ht164).cg hcb, ea164]
                              first
                              | exact absurd c_183 c_204
                              | exact absurd c_204 c_183
                              | (have h0 : st.1 = 0 := (nI_inj2 (by omega) (by omega) (by first | exact c_183 | exact Classical.not_not.mp c_183)); (exact ih3 (i + 1) _ _ _ A3 (st.1 + 1, st.2.1 + (mcl A3 b t164 cb), (mcl A3 b t164 cb), (mcl A3 b t164 cb)) _ _ (by omega) (by dsimp only; omega) hq3 (hro.tr hro3) (nst _ (by rw [hin, ← ex]; unfold fstep; rw [if_pos rfl, if_pos h0, if_pos h0]))))
                              | (have h0 : st.1 ≠ 0 := fun e => c_183 (by rw [e]; rfl); (exact ih3 (i + 1) _ _ _ A3 (st.1 + 1, st.2.1 + (mcl A3 b t164 cb), (mcl A3 b t164 cb), (mcl A3 b t164 cb)) _ _ (by omega) (by dsimp only; omega) hq3 (hro.tr hro3) (nst _ (by rw [hin, ← ex]; unfold fstep; rw [if_pos rfl, if_neg h0, if_neg h0, if_pos (Int32.not_le.mp c_190), if_pos (Int32.not_le.mp c_211)]))))
                              | (have h0 : st.1 ≠ 0 := fun e => c_183 (by rw [e]; rfl); (exact ih3 (i + 1) _ _ _ A3 (st.1 + 1, st.2.1 + (mcl A3 b t164 cb), (mcl A3 b t164 cb), st.2.2.2) _ _ (by omega) (by dsimp only; omega) hq3 (hro.tr hro3) (nst _ (by rw [hin, ← ex]; unfold fstep; rw [if_pos rfl, if_neg h0, if_neg h0, if_pos (Int32.not_le.mp c_190), if_neg (Int32.not_lt.mpr c_211)]))))
                              | (have h0 : st.1 ≠ 0 := fun e => c_183 (by rw [e]; rfl); (exact ih3 (i + 1) _ _ _ A3 (st.1 + 1, st.2.1 + (mcl A3 b t164 cb), st.2.2.1, (mcl A3 b t164 cb)) _ _ (by omega) (by dsimp only; omega) hq3 (hro.tr hro3) (nst _ (by rw [hin, ← ex]; unfold fstep; rw [if_pos rfl, if_neg h0, if_neg h0, if_neg (Int32.not_lt.mpr c_190), if_pos (Int32.not_le.mp c_211)]))))
                              | (have h0 : st.1 ≠ 0 := fun e => c_183 (by rw [e]; rfl); (exact ih3 (i + 1) _ _ _ A3 (st.1 + 1, st.2.1 + (mcl A3 b t164 cb), st.2.2.1, st.2.2.2) _ _ (by omega) (by dsimp only; omega) hq3 (hro.tr hro3) (nst _ (by rw [hin, ← ex]; unfold fstep; rw [if_pos rfl, if_neg h0, if_neg h0, if_neg (Int32.not_lt.mpr c_190), if_neg (Int32.not_lt.mpr c_211)]))))
                  refine o_iload hC dX8_makeGroup_102 (by rfl) ?_
                  refine o_iload hC dX8_makeGroup_104 (by rfl) ?_
                  refine o_ishr hC dX8_makeGroup_106 ?_
                  refine o_iconst (v := nI 1) hC dX8_makeGroup_107 (by decide +kernel) ?_
                  refine o_iand hC dX8_makeGroup_108 ?_
                  refine o_iconst (v := nI 1) hC dX8_makeGroup_109 (by decide +kernel) ?_
                  refine o_icmp_ne (tgt := 117) hC dX8_makeGroup_110 (by decide) (fun c_110 => ?_) (fun c_110 => ?_)
                  · refine o_iconst (v := nI 0) hC dX8_makeGroup_117 (by decide +kernel) ?_
                    refine o_istore hC dX8_makeGroup_118 (Nat.le_of_ble_eq_true rfl) ?_
                    have hin : inS s i = false := by
                      unfold inS
                      rw [decide_eq_true (show fbt s i = 0 from (fbt_or s (by omega) i (by omega)).resolve_right c_110)]
                      rfl
                    have hnw : mws A2 (1362 + i) (ns.getD i []) := by
                      refine hro.ws (by omega) ?_
                      rcases Nat.lt_or_ge 1 g.length with q | q
                      · exact hTW q i (by omega)
                      · obtain rfl : i = 0 := by omega
                        have e1 : g.length = 1 := by omega
                        have e2 : 2 ^ g.length = 2 := by rw [e1]
                        obtain rfl : s = 1 := by omega
                        rw [inS_1] at hin
                        cases hin
                    refine o_aload_n hC dX8_makeGroup_120 (by rfl) ?_
                    refine o_sipush (v := nI 1360) hC dX8_makeGroup_121 (by decide +kernel) ?_
                    refine o_sipush (v := nI 1360) hC dX8_makeGroup_124 (by decide +kernel) ?_
                    refine o_iload hC dX8_makeGroup_127 (by rfl) ?_
                    refine o_if_eq (tgt := 147) hC dX8_makeGroup_129 (by decide) (fun _ => ?_) (fun q => absurd rfl q)
                    refine o_sipush (v := nI 1362) hC dX8_makeGroup_147 (by decide +kernel) ?_
                    refine o_iload hC dX8_makeGroup_150 (by rfl) ?_
                    refine o_iadd hC dX8_makeGroup_152 ?_
                    try rw [nI_add]
                    refine o_callV3 hC rl_BW_good rl_Ns_nw (by exact hB.2.2.2.2.2) YX8_both IX8_both VX8_both (mX8_184 hC) (by rw [hB.1]; exact cf_X8_both l D ids H0 _ _ m T _ _ _ 1360 1360 (1362 + i) W (ns.getD i []) hq2.rf (by omega) (by omega) (by omega) z1 hnw) (by exact hq2.1.1) rfl rfl (Nat.le_of_ble_eq_true rfl) (by rw [hB.2.1]; first | exact Nat.le_of_ble_eq_true rfl | (dsimp only; omega)) (by rw [hB.2.1]; first | exact Nat.le_of_ble_eq_true rfl | (dsimp only; omega)) (by rw [hB.2.1]; first | exact Nat.le_of_ble_eq_true rfl | (dsimp only; omega)) (by rw [hB.2.1]; first | exact Nat.le_of_ble_eq_true rfl | (dsimp only; omega)) dX8_makeGroup_153 (fun v h_153 n_153 p_153 => ?_)
                    obtain ⟨f153, k153, A153, rfl, rfl, q153, r153, w153⟩ := p_153
                    try dsimp only [Option.toList, List.cons_append, List.nil_append]
                    exact aft _ _ _ A153 _ _ (by rw [hin]; rfl) (hq2.tr q153) r153 (by unfold fnw; rw [hin]; exact w153)
                  · refine o_iconst (v := nI 1) hC dX8_makeGroup_113 (by decide +kernel) ?_
                    refine o_goto (tgt := 118) hC dX8_makeGroup_114 (by decide) ?_
                    refine o_istore hC dX8_makeGroup_118 (Nat.le_of_ble_eq_true rfl) ?_
                    have hin : inS s i = true := by
                      unfold inS
                      rw [decide_eq_false (fun e : fbt s i = 0 => absurd ((show nI 1 = (0 : Int32) from (show fbt s i = nI 1 from by first | exact c_110 | exact Classical.not_not.mp c_110).symm.trans e)) (by decide +kernel))]
                      rfl
                    refine o_aload_n hC dX8_makeGroup_120 (by rfl) ?_
                    refine o_sipush (v := nI 1360) hC dX8_makeGroup_121 (by decide +kernel) ?_
                    refine o_sipush (v := nI 1360) hC dX8_makeGroup_124 (by decide +kernel) ?_
                    refine o_iload hC dX8_makeGroup_127 (by rfl) ?_
                    refine o_if_eq (tgt := 147) hC dX8_makeGroup_129 (by decide) (fun q => absurd q (by decide +kernel)) (fun c_129 => ?_)
                    refine o_bipush (v := nI 80) hC dX8_makeGroup_132 (by decide +kernel) ?_
                    refine o_iload_n hC dX8_makeGroup_134 (by rfl) ?_
                    refine o_imul hC dX8_makeGroup_135 ?_
                    try rw [nI_mul]
                    refine o_aload_n hC dX8_makeGroup_136 (by rfl) ?_
                    refine o_getf hC (fX8_72 hC rfl) dX8_makeGroup_137 (by repeat (first | with_reducible assumption | (rw [rl_u_s]; done) | (rw [rl_u_s]; rfl) | rw [rl_u_n (by first | with_reducible assumption | omega)])) (by first | rfl | with_reducible assumption) ?_
                    refine o_iload hC dX8_makeGroup_140 (by rfl) ?_
                    obtain ⟨t142, ht142, et142, ea142⟩ := hG2 i (by omega) (by omega)
                    refine o_ialdN (t0 := 0) (k := i) hC rfl dX8_makeGroup_142 (by repeat (first | with_reducible assumption | (rw [rl_u_s]; done) | (rw [rl_u_s]; rfl) | rw [rl_u_n (by first | with_reducible assumption | omega)])) (by omega) (by decide) ?_
                    rw [et142]
                    refine o_iadd hC dX8_makeGroup_143 ?_
                    try rw [nI_add]
                    refine o_goto (tgt := 153) hC dX8_makeGroup_144 (by decide) ?_
                    refine o_callV3 hC rl_BW_good rl_Ns_nw (by exact hB.2.2.2.2.2) YX8_both IX8_both VX8_both (mX8_184 hC) (by rw [hB.1]; exact cf_X8_both l D ids H0 _ _ m T _ _ _ 1360 1360 (80 * b + t142) W (ark g i).2 hq2.rf (by omega) (by omega) (by omega) z1 (ea142 ▸ (hTb.2 t142 ht142).2)) (by exact hq2.1.1) rfl rfl (Nat.le_of_ble_eq_true rfl) (by rw [hB.2.1]; first | exact Nat.le_of_ble_eq_true rfl | (dsimp only; omega)) (by rw [hB.2.1]; first | exact Nat.le_of_ble_eq_true rfl | (dsimp only; omega)) (by rw [hB.2.1]; first | exact Nat.le_of_ble_eq_true rfl | (dsimp only; omega)) (by rw [hB.2.1]; first | exact Nat.le_of_ble_eq_true rfl | (dsimp only; omega)) dX8_makeGroup_153 (fun v h_153 n_153 p_153 => ?_)
                    obtain ⟨f153, k153, A153, rfl, rfl, q153, r153, w153⟩ := p_153
                    try dsimp only [Option.toList, List.cons_append, List.nil_append]
                    exact aft _ _ _ A153 _ _ (by rw [hin]; rfl) (hq2.tr q153) r153 (by unfold fnw; rw [hin]; exact w153)
          exact loop3 g.length 0 _ _ _ (A1.1, A1.2.1, A1.2.2.1, upd A1.2.2.2.1 1360 (nI 1), vp_updL A1.2.2.2.2.1 (12 * 1360) 0, vp_updL A1.2.2.2.2.2.1 (12 * 1360) 0, A1.2.2.2.2.2.2.1, A1.2.2.2.2.2.2.2.1, A1.2.2.2.2.2.2.2.2.1, A1.2.2.2.2.2.2.2.2.2.1, A1.2.2.2.2.2.2.2.2.2.2) (0, 0, 0, 0) _ _ (by omega) (Nat.le_refl _) (hq1.tr q71) ⟨rfl, rfl, rfl, fun q hq => if_neg hq, fun q hq => ⟨up_ne (by omega), up_ne (by omega)⟩, rfl⟩ (Or.inl ⟨rfl, [(0, 0)], mws_s (upd_at (f := A1.2.2.2.1) (k := 1360) (x := nI 1)) (up_at (f := A1.2.2.2.2.1) (k := 16320) (x := 0)) (up_at (f := A1.2.2.2.2.2.1) (k := 16320) (x := 0)), wok_s 0, rfl, rfl⟩)
  have loop1 : 1 < g.length → ∀ (mm i : Nat) (h1 : rl_H) (f1 : Int32) (k1 : Nat) (A1 : md_D), i + mm = g.length → mf ids h h1 m T f1 k1 A1 → mop A A1 a → mtb A1 a w tab → mgr A1 tb g → ((f1 = nI 0 ∧ ∃ ns : List (List tT), ns.length = i ∧ (∀ j : Nat, j < i → mws A1 (1362 + j) (ns.getD j [])) ∧ fnf g g.length 0 [] = fnf g mm i ns) ∨ (f1 = nI 1 ∧ fnf g g.length 0 [] = none)) → rl_G X (rl_e D ids H0) 3 [some (.ref m), some (.int (nI a)), some (.int (nI b)), some (.int (nI g.length)), some (.int (nI i)), none, none, none, none, none, none, none] [] h1 n 0 0 := by
    intro h1k mm
    induction mm with
    | zero =>
      intro i h1 f1 k1 A1 hm hq1 hop ht1 hG hst
      obtain ⟨hm0, g12, g13, g14, g15, g16, g17, g18, g19, g20, g21, g22⟩ := id hq1
      have g0 := hm0.1
      have gk := hm0.2.1
      refine o_iload hC dX8_makeGroup_3 (by rfl) ?_
      refine o_iload_n hC dX8_makeGroup_5 (by rfl) ?_
      refine o_icmp_ge (tgt := 49) hC dX8_makeGroup_6 (by decide) (fun c_6 => ?_) (fun c_6 => ?_)
      · refine o_iconst (v := nI 1) hC dX8_makeGroup_49 (by decide +kernel) ?_
        refine o_istore hC dX8_makeGroup_50 (Nat.le_of_ble_eq_true rfl) ?_
        have hfn : fnn g = fnf g g.length 0 [] := if_pos h1k
        rcases hst with ⟨rfl, ns, hl, hw9, hn9⟩ | ⟨rfl, hn9⟩
        · exact loop2 ns (by rw [hfn, hn9]; rfl) (2 ^ g.length - 1) 1 _ _ _ A1 (some tab) _ _ _ _ _ _ _ (by have := (pw_16 hk4).1; omega) (Nat.le_refl _) hq1 hop (Or.inl ⟨tab, rfl, rfl, ht1, hok⟩) (fun _ j hj => hw9 j (by omega)) hG rfl
        · obtain ⟨hm0, g12, g13, g14, g15, g16, g17, g18, g19, g20, g21, g22⟩ := id hq1
          have g0 := hm0.1
          have gk := hm0.2.1
          refine o_iload hC dX8_makeGroup_52 (by rfl) ?_
          refine o_iconst (v := nI 1) hC dX8_makeGroup_54 (by decide +kernel) ?_
          refine o_iload_n hC dX8_makeGroup_55 (by rfl) ?_
          refine o_ishl hC dX8_makeGroup_56 ?_
          rw [sh_1k hk4]
          refine o_icmp_ge (tgt := 328) hC dX8_makeGroup_57 (by decide) (fun c_57 => ?_) (fun c_57 => ?_)
          · refine o_vret hC hB dX8_makeGroup_328 (Nat.le_of_ble_eq_true rfl) (Nat.le_of_ble_eq_true rfl) ?_
            refine ⟨_, k1, A1, rfl, rfl, hq1, hop, Or.inr ⟨?_, rfl⟩⟩
            rw [hfn, hn9]
            rfl
          · refine o_aload_n hC dX8_makeGroup_60 (by rfl) ?_
            refine o_getf hC (fX8_91 hC rfl) dX8_makeGroup_61 (by repeat (first | with_reducible assumption | (rw [rl_u_s]; done) | (rw [rl_u_s]; rfl) | rw [rl_u_n (by first | with_reducible assumption | omega)])) (by first | rfl | with_reducible assumption) ?_
            refine o_if_ne (tgt := 328) hC dX8_makeGroup_64 (by decide) (fun c_64 => ?_) (fun c_64 => ?_)
            · refine o_vret hC hB dX8_makeGroup_328 (Nat.le_of_ble_eq_true rfl) (Nat.le_of_ble_eq_true rfl) ?_
              refine ⟨_, k1, A1, rfl, rfl, hq1, hop, Or.inr ⟨?_, rfl⟩⟩
              rw [hfn, hn9]
              rfl
            · exact absurd (show nI 1 = 0 from c_64) (by decide +kernel)
      · exact absurd (nI_le (by omega) (by omega)) c_6
    | succ mm ih =>
      intro i h1 f1 k1 A1 hm hq1 hop ht1 hG hst
      have hTb := hop.tb hwb6 hbk.2.2 (by omega) hbt hba
      obtain ⟨hm0, g12, g13, g14, g15, g16, g17, g18, g19, g20, g21, g22⟩ := id hq1
      have g0 := hm0.1
      have gk := hm0.2.1
      refine o_iload hC dX8_makeGroup_3 (by rfl) ?_
      refine o_iload_n hC dX8_makeGroup_5 (by rfl) ?_
      refine o_icmp_ge (tgt := 49) hC dX8_makeGroup_6 (by decide) (fun c_6 => ?_) (fun c_6 => ?_)
      · refine o_iconst (v := nI 1) hC dX8_makeGroup_49 (by decide +kernel) ?_
        refine o_istore hC dX8_makeGroup_50 (Nat.le_of_ble_eq_true rfl) ?_
        exact absurd c_6 (nI_ge (by omega) (by omega))
      · refine o_aload_n hC dX8_makeGroup_9 (by rfl) ?_
        refine o_getf hC (fX8_91 hC rfl) dX8_makeGroup_10 (by repeat (first | with_reducible assumption | (rw [rl_u_s]; done) | (rw [rl_u_s]; rfl) | rw [rl_u_n (by first | with_reducible assumption | omega)])) (by first | rfl | with_reducible assumption) ?_
        refine o_if_ne (tgt := 49) hC dX8_makeGroup_13 (by decide) (fun c_13 => ?_) (fun c_13 => ?_)
        · refine o_iconst (v := nI 1) hC dX8_makeGroup_49 (by decide +kernel) ?_
          refine o_istore hC dX8_makeGroup_50 (Nat.le_of_ble_eq_true rfl) ?_
          have hfn : fnn g = fnf g g.length 0 [] := if_pos h1k
          rcases hst with ⟨rfl, ns, hl, hw9, hn9⟩ | ⟨rfl, hn9⟩
          · exact absurd rfl c_13
          · obtain ⟨hm0, g12, g13, g14, g15, g16, g17, g18, g19, g20, g21, g22⟩ := id hq1
            have g0 := hm0.1
            have gk := hm0.2.1
            refine o_iload hC dX8_makeGroup_52 (by rfl) ?_
            refine o_iconst (v := nI 1) hC dX8_makeGroup_54 (by decide +kernel) ?_
            refine o_iload_n hC dX8_makeGroup_55 (by rfl) ?_
            refine o_ishl hC dX8_makeGroup_56 ?_
            rw [sh_1k hk4]
            refine o_icmp_ge (tgt := 328) hC dX8_makeGroup_57 (by decide) (fun c_57 => ?_) (fun c_57 => ?_)
            · refine o_vret hC hB dX8_makeGroup_328 (Nat.le_of_ble_eq_true rfl) (Nat.le_of_ble_eq_true rfl) ?_
              refine ⟨_, k1, A1, rfl, rfl, hq1, hop, Or.inr ⟨?_, rfl⟩⟩
              rw [hfn, hn9]
              rfl
            · refine o_aload_n hC dX8_makeGroup_60 (by rfl) ?_
              refine o_getf hC (fX8_91 hC rfl) dX8_makeGroup_61 (by repeat (first | with_reducible assumption | (rw [rl_u_s]; done) | (rw [rl_u_s]; rfl) | rw [rl_u_n (by first | with_reducible assumption | omega)])) (by first | rfl | with_reducible assumption) ?_
              refine o_if_ne (tgt := 328) hC dX8_makeGroup_64 (by decide) (fun c_64 => ?_) (fun c_64 => ?_)
              · refine o_vret hC hB dX8_makeGroup_328 (Nat.le_of_ble_eq_true rfl) (Nat.le_of_ble_eq_true rfl) ?_
                refine ⟨_, k1, A1, rfl, rfl, hq1, hop, Or.inr ⟨?_, rfl⟩⟩
                rw [hfn, hn9]
                rfl
              · exact absurd (show nI 1 = 0 from c_64) (by decide +kernel)
        · rcases hst with ⟨rfl, ns, hl, hw9, hn9⟩ | ⟨rfl, hn9⟩
          rotate_left
          · exact absurd c_13 (by decide +kernel)
          refine o_iload_n hC dX8_makeGroup_16 (by rfl) ?_
          refine o_iconst (v := nI 1) hC dX8_makeGroup_17 (by decide +kernel) ?_
          refine o_icmp_le (tgt := 43) hC dX8_makeGroup_18 (by decide) (fun c_18 => ?_) (fun c_18 => ?_)
          · refine o_iinc hC dX8_makeGroup_43 (by rfl) (rl_inc _) (Nat.le_of_ble_eq_true rfl) ?_
            refine o_goto (tgt := 3) hC dX8_makeGroup_46 (by decide) ?_
            exact absurd c_18 (nI_ge (by omega) (by omega))
          · refine o_aload_n hC dX8_makeGroup_21 (by rfl) ?_
            refine o_sipush (v := nI 1362) hC dX8_makeGroup_22 (by decide +kernel) ?_
            refine o_iload hC dX8_makeGroup_25 (by rfl) ?_
            refine o_iadd hC dX8_makeGroup_27 ?_
            try rw [nI_add]
            refine o_bipush (v := nI 80) hC dX8_makeGroup_28 (by decide +kernel) ?_
            refine o_iload_n hC dX8_makeGroup_30 (by rfl) ?_
            refine o_imul hC dX8_makeGroup_31 ?_
            try rw [nI_mul]
            refine o_aload_n hC dX8_makeGroup_32 (by rfl) ?_
            refine o_getf hC (fX8_72 hC rfl) dX8_makeGroup_33 (by repeat (first | with_reducible assumption | (rw [rl_u_s]; done) | (rw [rl_u_s]; rfl) | rw [rl_u_n (by first | with_reducible assumption | omega)])) (by first | rfl | with_reducible assumption) ?_
            refine o_iload hC dX8_makeGroup_36 (by rfl) ?_
            obtain ⟨t38, ht38, et38, ea38⟩ := hG i (by omega) (by omega)
            refine o_ialdN (t0 := 0) (k := i) hC rfl dX8_makeGroup_38 (by repeat (first | with_reducible assumption | (rw [rl_u_s]; done) | (rw [rl_u_s]; rfl) | rw [rl_u_n (by first | with_reducible assumption | omega)])) (by omega) (by decide) ?_
            rw [et38]
            refine o_iadd hC dX8_makeGroup_39 ?_
            try rw [nI_add]
            refine o_callV2 hC rl_BW_good rl_Ns_nw (by exact hB.2.2.2.2.2) YX8_not IX8_not VX8_not (mX8_187 hC) (by rw [hB.1]; exact cf_X8_not l D ids H0 _ _ m T _ _ _ (1362 + i) (80 * b + t38) (ark g i).2 hq1.rf (by omega) (by omega) (by omega) (ea38 ▸ (hTb.2 t38 ht38).2) rfl) (by exact hq1.1.1) rfl rfl (Nat.le_of_ble_eq_true rfl) (by rw [hB.2.1]; first | exact Nat.le_of_ble_eq_true rfl | (dsimp only; omega)) (by rw [hB.2.1]; first | exact Nat.le_of_ble_eq_true rfl | (dsimp only; omega)) (by rw [hB.2.1]; first | exact Nat.le_of_ble_eq_true rfl | (dsimp only; omega)) (by rw [hB.2.1]; first | exact Nat.le_of_ble_eq_true rfl | (dsimp only; omega)) dX8_makeGroup_40 (fun v h_40 n_40 p_40 => ?_)
            obtain ⟨f40, k40, A40, rfl, rfl, q40, r40, w40⟩ := p_40
            try dsimp only [Option.toList, List.cons_append, List.nil_append]
            refine o_iinc hC dX8_makeGroup_43 (by rfl) (rl_inc _) (Nat.le_of_ble_eq_true rfl) ?_
            refine o_goto (tgt := 3) hC dX8_makeGroup_46 (by decide) ?_
            refine ih (i + 1) _ f40 k40 A40 (by omega) (hq1.tr q40) (hop.tr (r40.op (by omega))) (ht1.rw hw6 hok.2.2 (by omega) r40 (by omega)) (fun j h1 h2 => ?_) ?_
            · obtain ⟨i2, e1, e2, e3⟩ := hG j h1 h2
              exact ⟨i2, e1, (congrFun (congrArg (fun z => z.2.1) r40.2.2.2.2.2) j).trans e2, e3⟩
            · rcases w40 with ⟨W, y1, y2, y3, y4⟩ | ⟨y1, y2⟩
              · refine Or.inl ⟨y2, ns ++ [W], by rw [List.length_append, hl]; rfl, fun j hj => ?_, by rw [hn9, fnf, y1]; rfl⟩
                by_cases e : j = i
                · rw [e, ← hl, getD_app_r, hl]
                  exact y3
                · rw [getD_app_l (by omega)]
                  exact r40.ws (by omega) (hw9 j (by omega))
              · exact Or.inr ⟨y2, by rw [hn9, fnf, y1]; rfl⟩
  have few : ¬ 1 < g.length → ∀ (mm i : Nat), i + mm = g.length → rl_G X (rl_e D ids H0) 3 [some (.ref m), some (.int (nI a)), some (.int (nI b)), some (.int (nI g.length)), some (.int (nI i)), none, none, none, none, none, none, none] [] h n 0 0 := by
    intro h1k mm
    induction mm with
    | zero =>
      intro i hm
      obtain ⟨hm0, g12, g13, g14, g15, g16, g17, g18, g19, g20, g21, g22⟩ := id hq
      have g0 := hm0.1
      have gk := hm0.2.1
      have b13 := hq.b13
      have b15 := hq.b15
      have b21 := hq.b21
      refine o_iload hC dX8_makeGroup_3 (by rfl) ?_
      refine o_iload_n hC dX8_makeGroup_5 (by rfl) ?_
      refine o_icmp_ge (tgt := 49) hC dX8_makeGroup_6 (by decide) (fun c_6 => ?_) (fun c_6 => ?_)
      · refine o_iconst (v := nI 1) hC dX8_makeGroup_49 (by decide +kernel) ?_
        refine o_istore hC dX8_makeGroup_50 (Nat.le_of_ble_eq_true rfl) ?_
        exact loop2 [] (if_neg h1k) (2 ^ g.length - 1) 1 _ _ _ A (some tab) _ _ _ _ _ _ _ (by have := (pw_16 hk4).1; omega) (Nat.le_refl _) hq mop.rf (Or.inl ⟨tab, rfl, hf0, hat, hok⟩) (fun q => absurd q h1k) hgr rfl
      · exact absurd (nI_le (by omega) (by omega)) c_6
    | succ mm ih =>
      intro i hm
      obtain ⟨hm0, g12, g13, g14, g15, g16, g17, g18, g19, g20, g21, g22⟩ := id hq
      have g0 := hm0.1
      have gk := hm0.2.1
      have b13 := hq.b13
      have b15 := hq.b15
      have b21 := hq.b21
      refine o_iload hC dX8_makeGroup_3 (by rfl) ?_
      refine o_iload_n hC dX8_makeGroup_5 (by rfl) ?_
      refine o_icmp_ge (tgt := 49) hC dX8_makeGroup_6 (by decide) (fun c_6 => ?_) (fun c_6 => ?_)
      · refine o_iconst (v := nI 1) hC dX8_makeGroup_49 (by decide +kernel) ?_
        refine o_istore hC dX8_makeGroup_50 (Nat.le_of_ble_eq_true rfl) ?_
        exact absurd c_6 (nI_ge (by omega) (by omega))
      · refine o_aload_n hC dX8_makeGroup_9 (by rfl) ?_
        refine o_getf hC (fX8_91 hC rfl) dX8_makeGroup_10 (by repeat (first | with_reducible assumption | (rw [rl_u_s]; done) | (rw [rl_u_s]; rfl) | rw [rl_u_n (by first | with_reducible assumption | omega)])) (by first | rfl | with_reducible assumption) ?_
        refine o_if_ne (tgt := 49) hC dX8_makeGroup_13 (by decide) (fun c_13 => ?_) (fun c_13 => ?_)
        · refine o_iconst (v := nI 1) hC dX8_makeGroup_49 (by decide +kernel) ?_
          refine o_istore hC dX8_makeGroup_50 (Nat.le_of_ble_eq_true rfl) ?_
          exact absurd hf0 c_13
        · refine o_iload_n hC dX8_makeGroup_16 (by rfl) ?_
          refine o_iconst (v := nI 1) hC dX8_makeGroup_17 (by decide +kernel) ?_
          refine o_icmp_le (tgt := 43) hC dX8_makeGroup_18 (by decide) (fun c_18 => ?_) (fun c_18 => ?_)
          · refine o_iinc hC dX8_makeGroup_43 (by rfl) (rl_inc _) (Nat.le_of_ble_eq_true rfl) ?_
            refine o_goto (tgt := 3) hC dX8_makeGroup_46 (by decide) ?_
            exact ih (i + 1) (by omega)
          · exact absurd (nI_le (by omega) (by decide)) c_18
  show rl_G X (rl_e D ids H0) 0 [some (.ref m), some (.int (nI a)), some (.int (nI b)), some (.int (nI g.length)), none, none, none, none, none, none, none, none] [] h n 0 0
  refine o_iconst (v := nI 0) hC dX8_makeGroup_0 (by decide +kernel) ?_
  refine o_istore hC dX8_makeGroup_1 (Nat.le_of_ble_eq_true rfl) ?_
  by_cases h1k : 1 < g.length
  · exact loop1 h1k g.length 0 _ _ _ A (by omega) hq mop.rf hat hgr (Or.inl ⟨hf0, [], rfl, fun j hj => absurd hj (by omega), rfl⟩)
  · exact few h1k g.length 0 (by omega)
