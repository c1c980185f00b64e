/-! THE MODEL, functionally: run -/
/-- node a as the model has it written down -/
def mnr (S : md_A) (N : Nat → Nat → Int32) (a : Nat) : Prop := S.2.2.2.1 a = N a 0 ∧ S.2.2.2.2.2.2.2.2.2.2 a = N a 1 ∧ mnd S a (iN (N a 0)) (N a 2) (N a 3) (N a 4) (N a 5) (N a 6) (N a 7)
/-- the model's sources and nodes beside the class's -/
def mrl (S : md_A) (sf : Nat → Int32) (cf : Nat → Nat → Int32) (N : Nat → Nat → Int32) (z : sh_S) : Prop := (∀ r : Nat, r < z.2.2.1 → S.2.1 r = sf r ∧ ∀ c : Nat, c < 4 → S.2.2.1 (4 * r + c) = cf r c) ∧ ∀ a : Nat, a < z.2.2.2.1 → cl_f N a ∧ mnr S N a
/-- the model's RESULT -/
def mrs (A : md_D) (T : md_T) (res : List arow) (rw : Nat) : Prop := mtb A 16 rw res ∧ aok rw res ∧ rw ≤ 6 ∧ (res ≠ [] → T.2.2.2.2.2.1 = nI rw)
theorem bl_1 : vp_nar .boolean (nI 1) = nI 1 := by decide +kernel
theorem bl_0 : vp_nar .boolean (nI 0) = nI 0 := by decide +kernel

set_option maxHeartbeats 4000000 in
set_option maxRecDepth 100000 in
theorem cf_X8_run (l : Launch) (D : va_G) (ids : Nat → ClassId) (H0 : Heap) (h : rl_H) (n : Nat) (m : Nat) (T : md_T) (fu : Int32) (k : Nat) (S : md_A) (z : sh_S) (A : md_D) (sf : Nat → Int32) (cf : Nat → Nat → Int32) (N : Nat → Nat → Int32) (res : List arow) (rw : Nat) (q : Int32) (hu : md_un ids h m T fu k S z) (hq : mf ids h h m T fu k A) (hl : mrl S sf cf N z) (hr : mrs A T res rw) : rl_Met l (rl_e D ids H0) rl_BW rl_Ns yX8_run cX8_run 4 (some .int) ({ frames := 7, cells := 0, slots := 0, locals := 178 }) [.ref m, .int q] h n (fun v h' n' => ∃ (r : Int32) (T' : md_T) (fu' : Int32) (k' : Nat) (A' : md_D) (res' : List arow) (rw' : Nat), v = some (.int r) ∧ n' = n ∧ mf ids h h' m T' fu' k' A' ∧ md_un ids h' m T' fu' k' S z ∧ mrs A' T' res' rw' ∧ ((¬ (∃ j : Nat, j < z.2.2.2.1 ∧ q = nI j) ∧ r = -1 ∧ res' = res ∧ rw' = rw) ∨ ∃ j : Nat, j < z.2.2.2.1 ∧ q = nI j ∧ ((sem sf cf z.2.2.1 N j = none ∧ r = -4 ∧ res' = res ∧ rw' = rw) ∨ ∃ tab : List arow, sem sf cf z.2.2.1 N j = some tab ∧ r = nI tab.length ∧ res' = tab ∧ N j 1 = nI rw'))) := by
  obtain ⟨-, hs, ⟨hsc, hsc4⟩, hwf, ⟨hrr, hr36⟩, ⟨hnc, hn16⟩, hnw, hpr, -, hwv, wrc, hrc6, hrc⟩ := id hu
  have hq0 := hq.ob (nI 0, T.2) fu k hq.1.2.1
  have g0 := hq.1.1
  have gk := hq.1.2.1
  refine rl_Met.of (by decide +kernel) (Nat.le_of_ble_eq_true rfl) ?_
  intro X hC hB
  show rl_G X (rl_e D ids H0) 0 [some (.ref m), some (.int q), none, none] [] h n 0 0
  refine o_aload_n hC dX8_run_0 (by rfl) ?_
  refine o_iconst (v := nI 0) hC dX8_run_1 (by decide +kernel) ?_
  refine o_putf hC (fX8_78 hC rfl) (fwX8 rfl rfl rfl (Or.inl rfl)) dX8_run_2 (by repeat (first | with_reducible assumption | (rw [rl_u_s]; done) | (rw [rl_u_s]; rfl) | rw [rl_u_n (by first | with_reducible assumption | omega)])) (Nat.le_of_ble_eq_true rfl) ?_
  try simp only [List.set_cons_zero, List.set_cons_succ]
  refine o_aload_n hC dX8_run_5 (by rfl) ?_
  refine o_iload_n hC dX8_run_6 (by rfl) ?_
  refine o_callV1 hC rl_BW_good rl_Ns_nw (by exact hB.2.2.2.2.2) YX8_isNode IX8_isNode VX8_isNode (mX8_126 hC) (by rw [hB.1]; exact ct_X8_isNode l D ids H0 _ _ m _ _ _ (by repeat (first | with_reducible assumption | (rw [rl_u_s]; done) | (rw [rl_u_s]; rfl) | rw [rl_u_n (by first | with_reducible assumption | omega)])) rfl) (by repeat (first | with_reducible assumption | (rw [rl_u_s]; done) | (rw [rl_u_s]; rfl) | rw [rl_u_n (by first | with_reducible assumption | omega)])) rfl rfl (Nat.le_of_ble_eq_true rfl) (by rw [hB.2.1]; first | exact Nat.le_of_ble_eq_true rfl | (dsimp only; omega)) (by rw [hB.2.1]; first | exact Nat.le_of_ble_eq_true rfl | (dsimp only; omega)) (by rw [hB.2.1]; first | exact Nat.le_of_ble_eq_true rfl | (dsimp only; omega)) (by rw [hB.2.1]; first | exact Nat.le_of_ble_eq_true rfl | (dsimp only; omega)) dX8_run_7 (fun v h_7 n_7 p_7 => ?_)
  obtain ⟨rfl, rfl, rfl⟩ := p_7
  try dsimp only [Option.toList, List.cons_append, List.nil_append]
  by_cases hr0 : q < 0 ∨ T.2.2.2.2.1 ≤ q
  · rw [if_pos hr0]
    refine o_if_ne (tgt := 15) hC dX8_run_10 (by decide) (fun c_10 => ?_) (fun c_10 => ?_)
    · exact absurd rfl c_10
    · refine o_iconst (v := (-1 : Int32)) hC dX8_run_13 (by decide +kernel) ?_
      refine o_iret hC hB dX8_run_14 (Nat.le_of_ble_eq_true rfl) (Nat.le_of_ble_eq_true rfl) ?_
      exact ⟨_, _, _, _, A, res, rw, rfl, rfl, hq0, hu.dp hq0.1 rfl rfl rfl rfl ⟨wrc, hrc6, hrc⟩, hr, Or.inl ⟨fun ⟨j, hj, e⟩ => hr0.elim (fun u => absurd u (by rw [e]; exact nI_pos (by omega))) (fun u => absurd u (by rw [hnc, e]; exact nI_ge hj (by omega))), rfl, rfl, rfl⟩⟩
  · rw [if_neg hr0]
    obtain ⟨j, hj, rfl⟩ := nI_of_lt (k := z.2.2.2.1) (by omega) (fun e => hr0 (Or.inl e)) (fun e => hr0 (Or.inr (by rw [hnc]; exact e)))
    have hnj := (hl.2 j hj).2.2.1
    refine o_if_ne (tgt := 15) hC dX8_run_10 (by decide) (fun c_10 => ?_) (fun c_10 => ?_)
    · refine o_aload_n hC dX8_run_15 (by rfl) ?_
      refine o_iconst (v := nI 0) hC dX8_run_16 (by decide +kernel) ?_
      refine o_putf hC (fX8_91 hC rfl) (fwX8 rfl rfl rfl (Or.inl rfl)) dX8_run_17 (by repeat (first | with_reducible assumption | (rw [rl_u_s]; done) | (rw [rl_u_s]; rfl) | rw [rl_u_n (by first | with_reducible assumption | omega)])) (Nat.le_of_ble_eq_true rfl) ?_
      try simp only [List.set_cons_zero, List.set_cons_succ]
      refine o_iconst (v := nI 0) hC dX8_run_20 (by decide +kernel) ?_
      refine o_istore_n hC dX8_run_21 (Nat.le_of_ble_eq_true rfl) ?_
      have loop4 : ∀ (w : Nat) (tab : List arow), w ≤ 6 → aok w tab → sem sf cf z.2.2.1 N j = some tab → N j 1 = nI w → ∀ (mm t : Nat) (h1 : rl_H) (f1 : Int32) (k1 : Nat) (A1 : md_D) (o3 : Option Value), t + mm = tab.length → mf ids h h1 m (nI 0, T.2.1, T.2.2.1, T.2.2.2.1, T.2.2.2.2.1, nI w, T.2.2.2.2.2.2) f1 k1 A1 → mtb A1 j w tab → A1.2.1 16 = nI tab.length → (∀ i : Nat, i < t → mrw A1 16 w i (ark tab i)) → rl_G X (rl_e D ids H0) 201 [some (.ref m), some (.int (nI j)), some (.int (nI t)), o3] [] h1 n_7 0 0 := by
        intro w tab hw6 hok hsem hNw mm
        have tl80 := hok.2.2
        induction mm with
        | zero =>
          intro t h1 f1 k1 A1 o3 hm hq1 hTj h16 hrow
          have hs1 := hq1.1.sa hs
          obtain ⟨hm0, g12, g13, g14, g15, g16, g17, g18, g19, g20, g21, g22⟩ := id hq1
          have g0 := hm0.1
          have gk := hm0.2.1
          obtain ⟨a1, a2, a3, a4, a5, a6, a7, a8, a9, a10, a11⟩ := id hs1
          refine o_iload_n hC dX8_run_201 (by rfl) ?_
          refine o_aload_n hC dX8_run_202 (by rfl) ?_
          refine o_getf hC (fX8_46 hC rfl) dX8_run_203 (by repeat (first | with_reducible assumption | (rw [rl_u_s]; done) | (rw [rl_u_s]; rfl) | rw [rl_u_n (by first | with_reducible assumption | omega)])) (by first | rfl | with_reducible assumption) ?_
          refine o_iload_n hC dX8_run_206 (by rfl) ?_
          refine o_ialdN (t0 := 0) (k := j) hC rfl dX8_run_207 (by repeat (first | with_reducible assumption | (rw [rl_u_s]; done) | (rw [rl_u_s]; rfl) | rw [rl_u_n (by first | with_reducible assumption | omega)])) (by omega) (by decide) ?_
          rw [hTj.1]
          refine o_icmp_ge (tgt := 268) hC dX8_run_208 (by decide) (fun c_208 => ?_) (fun c_208 => ?_)
          · refine o_aload_n hC dX8_run_268 (by rfl) ?_
            refine o_getf hC (fX8_46 hC rfl) dX8_run_269 (by repeat (first | with_reducible assumption | (rw [rl_u_s]; done) | (rw [rl_u_s]; rfl) | rw [rl_u_n (by first | with_reducible assumption | omega)])) (by first | rfl | with_reducible assumption) ?_
            refine o_iload_n hC dX8_run_272 (by rfl) ?_
            refine o_ialdN (t0 := 0) (k := j) hC rfl dX8_run_273 (by repeat (first | with_reducible assumption | (rw [rl_u_s]; done) | (rw [rl_u_s]; rfl) | rw [rl_u_n (by first | with_reducible assumption | omega)])) (by omega) (by decide) ?_
            rw [hTj.1]
            refine o_iret hC hB dX8_run_274 (Nat.le_of_ble_eq_true rfl) (Nat.le_of_ble_eq_true rfl) ?_
            exact ⟨_, _, _, _, A1, tab, w, rfl, rfl, hq1, hu.dp hq1.1 rfl rfl rfl rfl ⟨w, hw6, rfl⟩, ⟨⟨h16, fun i hi => hrow i (by omega)⟩, hok, hw6, fun _ => rfl⟩, Or.inr ⟨j, hj, rfl, Or.inr ⟨tab, hsem, rfl, rfl, hNw⟩⟩⟩
          · exact absurd (nI_le (by omega) (by omega)) c_208
        | succ mm ih =>
          intro t h1 f1 k1 A1 o3 hm hq1 hTj h16 hrow
          have hrt := hTj.2 t (by omega)
          have loop5 : ∀ (m2 c : Nat) (h2 : rl_H) (c2 : Nat → Int32), c + m2 = 6 → mf ids h h2 m (nI 0, T.2.1, T.2.2.1, T.2.2.2.1, T.2.2.2.2.1, nI w, T.2.2.2.2.2.2) f1 k1 (c2, A1.2.1, A1.2.2.1, A1.2.2.2.1, A1.2.2.2.2.1, A1.2.2.2.2.2.1, A1.2.2.2.2.2.2.1, A1.2.2.2.2.2.2.2.1, A1.2.2.2.2.2.2.2.2.1, A1.2.2.2.2.2.2.2.2.2.1, A1.2.2.2.2.2.2.2.2.2.2) → (∀ q : Nat, c2 q = if (1280 + t) * 6 ≤ q ∧ q < (1280 + t) * 6 + c then A1.1 ((80 * j + t) * 6 + (q - (1280 + t) * 6)) else A1.1 q) → rl_G X (rl_e D ids H0) 213 [some (.ref m), some (.int (nI j)), some (.int (nI t)), some (.int (nI c))] [] h2 n_7 0 0 := by
            intro m2
            induction m2 with
            | zero =>
              intro c h2 c2 hm2 hq2 hc2
              have ec : c = 6 := by omega
              subst ec
              obtain ⟨hm0, g12, g13, g14, g15, g16, g17, g18, g19, g20, g21, g22⟩ := id hq2
              have g0 := hm0.1
              have gk := hm0.2.1
              refine o_iload_n hC dX8_run_213 (by rfl) ?_
              refine o_bipush (v := nI 6) hC dX8_run_214 (by decide +kernel) ?_
              refine o_icmp_ge (tgt := 247) hC dX8_run_216 (by decide) (fun c_216 => ?_) (fun c_216 => ?_)
              · refine o_aload_n hC dX8_run_247 (by rfl) ?_
                refine o_sipush (v := nI 1280) hC dX8_run_248 (by decide +kernel) ?_
                refine o_iload_n hC dX8_run_251 (by rfl) ?_
                refine o_iadd hC dX8_run_252 ?_
                try rw [nI_add]
                refine o_bipush (v := nI 80) hC dX8_run_253 (by decide +kernel) ?_
                refine o_iload_n hC dX8_run_255 (by rfl) ?_
                refine o_imul hC dX8_run_256 ?_
                try rw [nI_mul]
                refine o_iload_n hC dX8_run_257 (by rfl) ?_
                refine o_iadd hC dX8_run_258 ?_
                try rw [nI_add]
                refine o_callV2 hC rl_BW_good rl_Ns_nw (by exact hB.2.2.2.2.2) YX8_copy IX8_copy VX8_copy (mX8_153 hC) (by rw [hB.1]; exact cf_X8_copy l D ids H0 _ _ m _ _ _ _ (1280 + t) (80 * j + t) (ark tab t).2 hq2.rf (by omega) (by omega) (by omega) hrt.2) (by exact hq2.1.1) rfl rfl (Nat.le_of_ble_eq_true rfl) (by rw [hB.2.1]; first | exact Nat.le_of_ble_eq_true rfl | (dsimp only; omega)) (by rw [hB.2.1]; first | exact Nat.le_of_ble_eq_true rfl | (dsimp only; omega)) (by rw [hB.2.1]; first | exact Nat.le_of_ble_eq_true rfl | (dsimp only; omega)) (by rw [hB.2.1]; first | exact Nat.le_of_ble_eq_true rfl | (dsimp only; omega)) dX8_run_259 (fun v h_259 n_259 p_259 => ?_)
                obtain ⟨A3, rfl, rfl, q259, r259, u259⟩ := p_259
                try dsimp only [Option.toList, List.cons_append, List.nil_append]
                refine o_iinc hC dX8_run_262 (by rfl) (rl_inc _) (Nat.le_of_ble_eq_true rfl) ?_
                refine o_goto (tgt := 201) hC dX8_run_265 (by decide) ?_
                have keep : ∀ (b i : Nat), b < 17 → i < 80 → (b = 16 → i ≠ t) → mrw A1 b w i (ark tab i) → mrw A3 b w i (ark tab i) := fun b i hb hi hbt H => by
                  refine H.of hw6 (fun q q1 q2 => ?_) (fun H => r259.ws (by omega) H)
                  rw [show A3.1 = c2 from r259.1, hc2 q]
                  exact if_neg (by omega)
                refine ih (t + 1) _ _ _ A3 _ (by omega) (hq2.tr q259) ⟨?_, fun i hi => keep j i (by omega) (by omega) (by omega) (hTj.2 i hi)⟩ ?_ (fun i hi => ?_)
                · rw [show A3.2.1 = A1.2.1 from r259.2.1]
                  exact hTj.1
                · rw [show A3.2.1 = A1.2.1 from r259.2.1]
                  exact h16
                · by_cases e : i = t
                  · subst e
                    refine ⟨?_, u259⟩
                    rw [← hrt.1]
                    refine rsg_eq (fun c _ hcw => ?_)
                    show A3.1 ((80 * 16 + i) * 6 + c) = A1.1 ((80 * j + i) * 6 + c)
                    rw [show A3.1 = c2 from r259.1, hc2, if_pos (by omega)]
                    exact congrArg A1.1 (by omega)
                  · exact keep 16 i (by omega) (by omega) (fun _ => e) (hrow i (by omega))
              · exact absurd (nI_le (by omega) (by omega)) c_216
            | succ m2 ih2 =>
              intro c h2 c2 hm2 hq2 hc2
              obtain ⟨hm0, g12, g13, g14, g15, g16, g17, g18, g19, g20, g21, g22⟩ := id hq2
              have g0 := hm0.1
              have gk := hm0.2.1
              refine o_iload_n hC dX8_run_213 (by rfl) ?_
              refine o_bipush (v := nI 6) hC dX8_run_214 (by decide +kernel) ?_
              refine o_icmp_ge (tgt := 247) hC dX8_run_216 (by decide) (fun c_216 => ?_) (fun c_216 => ?_)
              · exact absurd c_216 (nI_ge (by omega) (by omega))
              · refine o_aload_n hC dX8_run_219 (by rfl) ?_
                refine o_getf hC (fX8_43 hC rfl) dX8_run_220 (by repeat (first | with_reducible assumption | (rw [rl_u_s]; done) | (rw [rl_u_s]; rfl) | rw [rl_u_n (by first | with_reducible assumption | omega)])) (by first | rfl | with_reducible assumption) ?_
                refine o_sipush (v := nI 1280) hC dX8_run_223 (by decide +kernel) ?_
                refine o_iload_n hC dX8_run_226 (by rfl) ?_
                refine o_iadd hC dX8_run_227 ?_
                try rw [nI_add]
                refine o_bipush (v := nI 6) hC dX8_run_228 (by decide +kernel) ?_
                refine o_imul hC dX8_run_230 ?_
                try rw [nI_mul]
                refine o_iload_n hC dX8_run_231 (by rfl) ?_
                refine o_iadd hC dX8_run_232 ?_
                try rw [nI_add]
                refine o_aload_n hC dX8_run_233 (by rfl) ?_
                refine o_iload_n hC dX8_run_234 (by rfl) ?_
                refine o_iload_n hC dX8_run_235 (by rfl) ?_
                refine o_iload_n hC dX8_run_236 (by rfl) ?_
                refine o_callV3 hC rl_BW_good rl_Ns_nw (by exact hB.2.2.2.2.2) YX8_cellAt IX8_cellAt VX8_cellAt (mX8_138 hC) (by rw [hB.1]; exact cf_X8_cellAt l D ids H0 _ _ m _ _ _ _ j t c hq2.rf (by omega)) (by exact hq2.rf.1.1) rfl rfl (Nat.le_of_ble_eq_true rfl) (by rw [hB.2.1]; first | exact Nat.le_of_ble_eq_true rfl | (dsimp only; omega)) (by rw [hB.2.1]; first | exact Nat.le_of_ble_eq_true rfl | (dsimp only; omega)) (by rw [hB.2.1]; first | exact Nat.le_of_ble_eq_true rfl | (dsimp only; omega)) (by rw [hB.2.1]; first | exact Nat.le_of_ble_eq_true rfl | (dsimp only; omega)) dX8_run_237 (fun v h_237 n_237 p_237 => ?_)
                obtain ⟨rfl, rfl, rfl⟩ := p_237
                try dsimp only [Option.toList, List.cons_append, List.nil_append]
                refine o_iastN (t0 := 0) hC rfl dX8_run_240 (by repeat (first | with_reducible assumption | (rw [rl_u_s]; done) | (rw [rl_u_s]; rfl) | rw [rl_u_n (by first | with_reducible assumption | omega)])) (by omega) (by decide) ?_
                refine o_iinc hC dX8_run_241 (by rfl) (rl_inc _) (Nat.le_of_ble_eq_true rfl) ?_
                refine o_goto (tgt := 213) hC dX8_run_244 (by decide) ?_
                refine ih2 (c + 1) _ _ (by omega) (hq2.s12 _) (fun q => ?_)
                by_cases e : q = (1280 + t) * 6 + c
                · subst e
                  rw [if_pos (by omega)]
                  refine (if_pos rfl).trans ?_
                  show c2 ((80 * j + t) * 6 + c) = _
                  rw [hc2, if_neg (by omega)]
                  exact congrArg A1.1 (by omega)
                · refine (if_neg e).trans ((hc2 q).trans ?_)
                  by_cases e2 : (1280 + t) * 6 ≤ q ∧ q < (1280 + t) * 6 + c
                  · rw [if_pos e2, if_pos (by omega)]
                  · rw [if_neg e2, if_neg (by omega)]
          have hs1 := hq1.1.sa hs
          obtain ⟨hm0, g12, g13, g14, g15, g16, g17, g18, g19, g20, g21, g22⟩ := id hq1
          have g0 := hm0.1
          have gk := hm0.2.1
          obtain ⟨a1, a2, a3, a4, a5, a6, a7, a8, a9, a10, a11⟩ := id hs1
          refine o_iload_n hC dX8_run_201 (by rfl) ?_
          refine o_aload_n hC dX8_run_202 (by rfl) ?_
          refine o_getf hC (fX8_46 hC rfl) dX8_run_203 (by repeat (first | with_reducible assumption | (rw [rl_u_s]; done) | (rw [rl_u_s]; rfl) | rw [rl_u_n (by first | with_reducible assumption | omega)])) (by first | rfl | with_reducible assumption) ?_
          refine o_iload_n hC dX8_run_206 (by rfl) ?_
          refine o_ialdN (t0 := 0) (k := j) hC rfl dX8_run_207 (by repeat (first | with_reducible assumption | (rw [rl_u_s]; done) | (rw [rl_u_s]; rfl) | rw [rl_u_n (by first | with_reducible assumption | omega)])) (by omega) (by decide) ?_
          rw [hTj.1]
          refine o_icmp_ge (tgt := 268) hC dX8_run_208 (by decide) (fun c_208 => ?_) (fun c_208 => ?_)
          · exact absurd c_208 (nI_ge (by omega) (by omega))
          · refine o_iconst (v := nI 0) hC dX8_run_211 (by decide +kernel) ?_
            refine o_istore_n hC dX8_run_212 (Nat.le_of_ble_eq_true rfl) ?_
            exact loop5 6 0 _ A1.1 (by omega) hq1 (fun q => (if_neg (by omega)).symm)
      have loop3 : ∀ (im : Nat → Int32), (im j ≠ nI 0) → (∀ k : Nat, k ≤ j → im k ≠ nI 0 → ∀ i : Nat, i < k → (N k 2 = nI i ∨ N k 3 = nI i) → im i ≠ nI 0) → (∀ k : Nat, k ≤ j → im k ≠ nI 0 → sem sf cf z.2.2.1 N k = none → sem sf cf z.2.2.1 N j = none) → ∀ (mm t : Nat) (h1 : rl_H) (f1 : Int32) (k1 : Nat) (A1 : md_D) (o3 : Option Value), t + mm = j + 1 → mf ids h h1 m (nI 0, T.2) f1 k1 A1 → A1.2.2.1 = im → mtb A1 16 rw res → ((f1 = nI 0 ∧ (∀ i : Nat, i < t → im i ≠ nI 0 → ∃ (tab : List arow) (w : Nat), w ≤ 6 ∧ N i 1 = nI w ∧ sem sf cf z.2.2.1 N i = some tab ∧ mtb A1 i w tab ∧ aok w tab)) ∨ (f1 = nI 1 ∧ sem sf cf z.2.2.1 N j = none)) → rl_G X (rl_e D ids H0) 134 [some (.ref m), some (.int (nI j)), some (.int (nI t)), o3] [] h1 n_7 0 0 := by
        intro im hi1 hi2 hi3 mm
        have finF : ∀ (h1 : rl_H) (k1 : Nat) (A1 : md_D) (o2 o3 : Option Value), mf ids h h1 m (nI 0, T.2) (nI 1) k1 A1 → mtb A1 16 rw res → sem sf cf z.2.2.1 N j = none → rl_G X (rl_e D ids H0) 166 [some (.ref m), some (.int (nI j)), o2, o3] [] h1 n_7 0 0 := by
          intro h1 k1 A1 o2 o3 hq1 h16 hn
          have hs1 := hq1.1.sa hs
          obtain ⟨hm0, g12, g13, g14, g15, g16, g17, g18, g19, g20, g21, g22⟩ := id hq1
          have g0 := hm0.1
          have gk := hm0.2.1
          obtain ⟨a1, a2, a3, a4, a5, a6, a7, a8, a9, a10, a11⟩ := id hs1
          refine o_aload_n hC dX8_run_166 (by rfl) ?_
          refine o_getf hC (fX8_91 hC rfl) dX8_run_167 (by repeat (first | with_reducible assumption | (rw [rl_u_s]; done) | (rw [rl_u_s]; rfl) | rw [rl_u_n (by first | with_reducible assumption | omega)])) (by first | rfl | with_reducible assumption) ?_
          refine o_if_eq (tgt := 176) hC dX8_run_170 (by decide) (fun c_170 => ?_) (fun c_170 => ?_)
          · exact absurd c_170 (by decide +kernel)
          · refine o_bipush (v := (-4 : Int32)) hC dX8_run_173 (by decide +kernel) ?_
            refine o_iret hC hB dX8_run_175 (Nat.le_of_ble_eq_true rfl) (Nat.le_of_ble_eq_true rfl) ?_
            exact ⟨_, _, _, _, A1, res, rw, rfl, rfl, hq1, hu.dp hq1.1 rfl rfl rfl rfl ⟨wrc, hrc6, hrc⟩, ⟨h16, hr.2.1, hr.2.2.1, hr.2.2.2⟩, Or.inr ⟨j, hj, rfl, Or.inl ⟨hn, rfl, rfl, rfl⟩⟩⟩
        induction mm with
        | zero =>
          intro t h1 f1 k1 A1 o3 hm hq1 him h16 hst
          have hs1 := hq1.1.sa hs
          obtain ⟨hm0, g12, g13, g14, g15, g16, g17, g18, g19, g20, g21, g22⟩ := id hq1
          have g0 := hm0.1
          have gk := hm0.2.1
          obtain ⟨a1, a2, a3, a4, a5, a6, a7, a8, a9, a10, a11⟩ := id hs1
          refine o_iload_n hC dX8_run_134 (by rfl) ?_
          refine o_iload_n hC dX8_run_135 (by rfl) ?_
          refine o_icmp_gt (tgt := 166) hC dX8_run_136 (by decide) (fun c_136 => ?_) (fun c_136 => ?_)
          · rcases hst with ⟨rfl, hTB⟩ | ⟨rfl, hn⟩
            rotate_left
            · exact finF _ _ A1 _ _ hq1 h16 hn
            obtain ⟨tab, w, hw6, hNw, hsem, hTj, hok⟩ := hTB j (by omega) hi1
            have tl80 := hok.2.2
            refine o_aload_n hC dX8_run_166 (by rfl) ?_
            refine o_getf hC (fX8_91 hC rfl) dX8_run_167 (by repeat (first | with_reducible assumption | (rw [rl_u_s]; done) | (rw [rl_u_s]; rfl) | rw [rl_u_n (by first | with_reducible assumption | omega)])) (by first | rfl | with_reducible assumption) ?_
            refine o_if_eq (tgt := 176) hC dX8_run_170 (by decide) (fun c_170 => ?_) (fun c_170 => ?_)
            · refine o_aload_n hC dX8_run_176 (by rfl) ?_
              refine o_getf hC (fX8_46 hC rfl) dX8_run_177 (by repeat (first | with_reducible assumption | (rw [rl_u_s]; done) | (rw [rl_u_s]; rfl) | rw [rl_u_n (by first | with_reducible assumption | omega)])) (by first | rfl | with_reducible assumption) ?_
              refine o_bipush (v := nI 16) hC dX8_run_180 (by decide +kernel) ?_
              refine o_aload_n hC dX8_run_182 (by rfl) ?_
              refine o_getf hC (fX8_46 hC rfl) dX8_run_183 (by repeat (first | with_reducible assumption | (rw [rl_u_s]; done) | (rw [rl_u_s]; rfl) | rw [rl_u_n (by first | with_reducible assumption | omega)])) (by first | rfl | with_reducible assumption) ?_
              refine o_iload_n hC dX8_run_186 (by rfl) ?_
              refine o_ialdN (t0 := 0) (k := j) hC rfl dX8_run_187 (by repeat (first | with_reducible assumption | (rw [rl_u_s]; done) | (rw [rl_u_s]; rfl) | rw [rl_u_n (by first | with_reducible assumption | omega)])) (by omega) (by decide) ?_
              rw [hTj.1]
              refine o_iastN (t0 := 0) hC rfl dX8_run_188 (by repeat (first | with_reducible assumption | (rw [rl_u_s]; done) | (rw [rl_u_s]; rfl) | rw [rl_u_n (by first | with_reducible assumption | omega)])) (by omega) (by decide) ?_
              refine o_aload_n hC dX8_run_189 (by rfl) ?_
              refine o_aload_n hC dX8_run_190 (by rfl) ?_
              refine o_getf hC (fX8_40 hC rfl) dX8_run_191 (by repeat (first | with_reducible assumption | (rw [rl_u_s]; done) | (rw [rl_u_s]; rfl) | rw [rl_u_n (by first | with_reducible assumption | omega)])) (by first | rfl | with_reducible assumption) ?_
              refine o_iload_n hC dX8_run_194 (by rfl) ?_
              refine o_ialdN (t0 := 0) (k := j) hC rfl dX8_run_195 (by repeat (first | with_reducible assumption | (rw [rl_u_s]; done) | (rw [rl_u_s]; rfl) | rw [rl_u_n (by first | with_reducible assumption | omega)])) (by omega) (by decide) ?_
              rw [(hnj.trans hNw)]
              refine o_putf hC (fX8_196 hC rfl) (fwX8 rfl rfl rfl (Or.inl rfl)) dX8_run_196 (by repeat (first | with_reducible assumption | (rw [rl_u_s]; done) | (rw [rl_u_s]; rfl) | rw [rl_u_n (by first | with_reducible assumption | omega)])) (Nat.le_of_ble_eq_true rfl) ?_
              try simp only [List.set_cons_zero, List.set_cons_succ]
              refine o_iconst (v := nI 0) hC dX8_run_199 (by decide +kernel) ?_
              refine o_istore_n hC dX8_run_200 (Nat.le_of_ble_eq_true rfl) ?_
              have keepj : mtb (A1.1, upd A1.2.1 16 (nI tab.length), A1.2.2.1, A1.2.2.2.1, A1.2.2.2.2.1, A1.2.2.2.2.2.1, A1.2.2.2.2.2.2.1, A1.2.2.2.2.2.2.2.1, A1.2.2.2.2.2.2.2.2.1, A1.2.2.2.2.2.2.2.2.2.1, A1.2.2.2.2.2.2.2.2.2.2) j w tab := ⟨(upd_lt (by omega)).trans hTj.1, hTj.2⟩
              exact loop4 w tab hw6 hok hsem hNw tab.length 0 _ _ _ (A1.1, upd A1.2.1 16 (nI tab.length), A1.2.2.1, A1.2.2.2.1, A1.2.2.2.2.1, A1.2.2.2.2.2.1, A1.2.2.2.2.2.2.1, A1.2.2.2.2.2.2.2.1, A1.2.2.2.2.2.2.2.2.1, A1.2.2.2.2.2.2.2.2.2.1, A1.2.2.2.2.2.2.2.2.2.2) _ (by omega) ((hq1.s13 _ (md_bd hq1.b13 ⟨tab.length, tl80, rfl⟩)).ob (nI 0, T.2.1, T.2.2.1, T.2.2.2.1, T.2.2.2.2.1, nI w, T.2.2.2.2.2.2) (nI 0) k1 hq1.1.2.1) keepj (show upd A1.2.1 16 (nI tab.length) 16 = nI tab.length from upd_at) (fun i hi => absurd hi (by omega))
            · exact absurd rfl c_170
          · exact absurd (nI_lt (by omega) (by omega)) c_136
        | succ mm ih =>
          intro t h1 f1 k1 A1 o3 hm hq1 him h16 hst
          have hs1 := hq1.1.sa hs
          obtain ⟨hm0, g12, g13, g14, g15, g16, g17, g18, g19, g20, g21, g22⟩ := id hq1
          have g0 := hm0.1
          have gk := hm0.2.1
          obtain ⟨a1, a2, a3, a4, a5, a6, a7, a8, a9, a10, a11⟩ := id hs1
          refine o_iload_n hC dX8_run_134 (by rfl) ?_
          refine o_iload_n hC dX8_run_135 (by rfl) ?_
          refine o_icmp_gt (tgt := 166) hC dX8_run_136 (by decide) (fun c_136 => ?_) (fun c_136 => ?_)
          · exact absurd c_136 (nI_nlt (by omega) (by omega))
          · refine o_aload_n hC dX8_run_139 (by rfl) ?_
            refine o_getf hC (fX8_91 hC rfl) dX8_run_140 (by repeat (first | with_reducible assumption | (rw [rl_u_s]; done) | (rw [rl_u_s]; rfl) | rw [rl_u_n (by first | with_reducible assumption | omega)])) (by first | rfl | with_reducible assumption) ?_
            refine o_if_ne (tgt := 166) hC dX8_run_143 (by decide) (fun c_143 => ?_) (fun c_143 => ?_)
            · rcases hst with ⟨rfl, hTB⟩ | ⟨rfl, hn⟩
              · exact absurd rfl c_143
              · exact finF _ _ A1 _ _ hq1 h16 hn
            · rcases hst with ⟨rfl, hTB⟩ | ⟨rfl, hn⟩
              rotate_left
              · exact absurd c_143 (by decide +kernel)
              refine o_aload_n hC dX8_run_146 (by rfl) ?_
              refine o_getf hC (fX8_49 hC rfl) dX8_run_147 (by repeat (first | with_reducible assumption | (rw [rl_u_s]; done) | (rw [rl_u_s]; rfl) | rw [rl_u_n (by first | with_reducible assumption | omega)])) (by first | rfl | with_reducible assumption) ?_
              refine o_iload_n hC dX8_run_150 (by rfl) ?_
              refine o_zaldN (t0 := 2) (k := t) hC rfl dX8_run_151 (by repeat (first | with_reducible assumption | (rw [rl_u_s]; done) | (rw [rl_u_s]; rfl) | rw [rl_u_n (by first | with_reducible assumption | omega)])) (by omega) (by decide) ?_
              rw [him]
              refine o_if_eq (tgt := 160) hC dX8_run_152 (by decide) (fun c_152 => ?_) (fun c_152 => ?_)
              · refine o_iinc hC dX8_run_160 (by rfl) (rl_inc _) (Nat.le_of_ble_eq_true rfl) ?_
                refine o_goto (tgt := 134) hC dX8_run_163 (by decide) ?_
                refine ih (t + 1) _ _ _ A1 _ (by omega) hq1 him h16 (Or.inl ⟨rfl, fun i hi hb => ?_⟩)
                by_cases e : i = t
                · subst e
                  exact absurd c_152 hb
                · exact hTB i (by omega) hb
              · obtain ⟨⟨op, w, w1, w2, a1, a2, a4, a5, a6, a8, a9⟩, n1, n2, n3⟩ := hl.2 t (by omega)
                have op6 := a4.1
                have w6 := a4.2.2.1
                have hbit : im t ≠ nI 0 := c_152
                rw [a1, iN_nI (by omega)] at n3
                have P1 : ∃ T1 : List arow, ((1 ≤ op) → (∃ b : Nat, b < t ∧ N t 2 = nI b ∧ S.2.2.2.2.2.2.2.2.2.2 b = nI w1 ∧ mtb A1 b w1 T1 ∧ aok w1 T1) ∧ ∃ i : Nat, i < t ∧ N t 2 = nI i ∧ sem sf cf z.2.2.1 N i = some T1) ∧ (¬ (1 ≤ op) → T1 = []) := by
                  by_cases q : (1 ≤ op)
                  · obtain ⟨i, i1, i2, i3⟩ := a5 q
                    obtain ⟨tab, w', g0, g1, g2, g3, g4⟩ := hTB i i1 (hi2 t (by omega) hbit i i1 (Or.inl i2))
                    have e9 : w' = w1 := nI_inj2 (by omega) (by have := (a4.2.2.2.1); have := a4.2.2.2.2.1; omega) (g1.symm.trans i3)
                    subst e9
                    obtain ⟨-, -, u2, -⟩ := hl.2 i (by omega)
                    exact ⟨tab, fun _ => ⟨⟨i, i1, i2, u2.trans g1, g3, g4⟩, i, i1, i2, g2⟩, fun u => absurd q u⟩
                  · exact ⟨[], fun u => absurd u q, fun _ => rfl⟩
                have P2 : ∃ T2 : List arow, ((is2 op = true) → (∃ b : Nat, b < t ∧ N t 3 = nI b ∧ S.2.2.2.2.2.2.2.2.2.2 b = nI w2 ∧ mtb A1 b w2 T2 ∧ aok w2 T2) ∧ ∃ i : Nat, i < t ∧ N t 3 = nI i ∧ sem sf cf z.2.2.1 N i = some T2) ∧ (¬ (is2 op = true) → T2 = []) := by
                  by_cases q : (is2 op = true)
                  · obtain ⟨i, i1, i2, i3⟩ := a6 q
                    obtain ⟨tab, w', g0, g1, g2, g3, g4⟩ := hTB i i1 (hi2 t (by omega) hbit i i1 (Or.inr i2))
                    have e9 : w' = w2 := nI_inj2 (by omega) (by have := (a4.2.2.2.1); have := a4.2.2.2.2.1; omega) (g1.symm.trans i3)
                    subst e9
                    obtain ⟨-, -, u2, -⟩ := hl.2 i (by omega)
                    exact ⟨tab, fun _ => ⟨⟨i, i1, i2, u2.trans g1, g3, g4⟩, i, i1, i2, g2⟩, fun u => absurd q u⟩
                  · exact ⟨[], fun u => absurd u q, fun _ => rfl⟩
                obtain ⟨T1, B1, E1⟩ := P1
                obtain ⟨T2, B2, E2⟩ := P2
                have esv : sem sf cf z.2.2.1 N t = nfn sf cf z.2.2.1 op w (N t 4) (N t 5) (N t 6) (N t 7) T1 T2 := sem_val _ _ _ _ a1 a2 op6 w6 (by omega) (fun q => (B1 q).2) (fun q => (B2 q).2) (fun q => E1 (by omega)) (fun q => E2 (by rw [q]; decide))
                refine o_aload_n hC dX8_run_155 (by rfl) ?_
                refine o_iload_n hC dX8_run_156 (by rfl) ?_
                refine o_callV1 hC rl_BW_good rl_Ns_nw (by exact hB.2.2.2.2.2) YX8_make IX8_make VX8_make (mX8_193 hC) (by rw [hB.1]; exact cf_X8_make l D ids H0 _ _ m _ _ _ _ S t z.2.2.1 op w w1 w2 T1 T2 sf cf _ _ _ _ _ _ hq1.rf hs1 (by omega) (n1.trans a1) (n2.trans a2) a4 hrr hr36 rfl n3 hl.1 (fun q => (B1 q).1) (fun q => (B2 (decide_eq_true q)).1)) (by exact hq1.1.1) rfl rfl (Nat.le_of_ble_eq_true rfl) (by rw [hB.2.1]; first | exact Nat.le_of_ble_eq_true rfl | (dsimp only; omega)) (by rw [hB.2.1]; first | exact Nat.le_of_ble_eq_true rfl | (dsimp only; omega)) (by rw [hB.2.1]; first | exact Nat.le_of_ble_eq_true rfl | (dsimp only; omega)) (by rw [hB.2.1]; first | exact Nat.le_of_ble_eq_true rfl | (dsimp only; omega)) dX8_run_157 (fun v h_157 n_157 p_157 => ?_)
                obtain ⟨f157, k157, A4, rfl, rfl, q157, r157, u157⟩ := p_157
                rw [← esv] at u157
                try dsimp only [Option.toList, List.cons_append, List.nil_append]
                refine o_iinc hC dX8_run_160 (by rfl) (rl_inc _) (Nat.le_of_ble_eq_true rfl) ?_
                refine o_goto (tgt := 134) hC dX8_run_163 (by decide) ?_
                have h16b := r157.tb hr.2.2.1 hr.2.1.2.2 (by omega) h16 (by omega)
                refine ih (t + 1) _ f157 k157 A4 _ (by omega) (hq1.tr q157) (r157.2.2.1.trans him) h16b ?_
                rcases u157 with ⟨tab, g1, g2, g3, g4⟩ | ⟨g1, g2⟩
                · refine Or.inl ⟨g2, fun i hi hb => ?_⟩
                  by_cases e : i = t
                  · subst e
                    exact ⟨tab, w, w6, a2, g1, g3, g4⟩
                  · obtain ⟨tab', w', e0, e1, e2, e3, e4⟩ := hTB i (by omega) hb
                    exact ⟨tab', w', e0, e1, e2, r157.tb e0 e4.2.2 (by omega) e3 e, e4⟩
                · exact Or.inr ⟨g2, hi3 t (by omega) hbit g1⟩
      have loop2 : ∀ (t : Nat) (h1 : rl_H) (im : Nat → Int32) (o3 : Option Value), t ≤ j + 1 → mf ids h h1 m (nI 0, T.2) (nI 0) k (A.1, A.2.1, im, A.2.2.2.1, A.2.2.2.2.1, A.2.2.2.2.2.1, A.2.2.2.2.2.2.1, A.2.2.2.2.2.2.2.1, A.2.2.2.2.2.2.2.2.1, A.2.2.2.2.2.2.2.2.2.1, A.2.2.2.2.2.2.2.2.2.2) → im j ≠ nI 0 → (∀ k : Nat, t ≤ k → k ≤ j → im k ≠ nI 0 → ∀ i : Nat, i < k → (N k 2 = nI i ∨ N k 3 = nI i) → im i ≠ nI 0) → (∀ k : Nat, k ≤ j → im k ≠ nI 0 → sem sf cf z.2.2.1 N k = none → sem sf cf z.2.2.1 N j = none) → rl_G X (rl_e D ids H0) 50 [some (.ref m), some (.int (nI j)), some (.int (nI t + Int32.ofInt (-1))), o3] [] h1 n_7 0 0 := by
        intro t
        induction t with
        | zero =>
          intro h1 im o3 ht hq1 hi1 hi2 hi3
          refine o_iload_n hC dX8_run_50 (by rfl) ?_
          refine o_if_lt (tgt := 132) hC dX8_run_51 (by decide) (fun c_51 => ?_) (fun c_51 => ?_)
          · refine o_iconst (v := nI 0) hC dX8_run_132 (by decide +kernel) ?_
            refine o_istore_n hC dX8_run_133 (Nat.le_of_ble_eq_true rfl) ?_
            exact loop3 im hi1 (fun k hk => hi2 k (Nat.zero_le _) hk) hi3 (j + 1) 0 _ _ _ (A.1, A.2.1, im, A.2.2.2.1, A.2.2.2.2.1, A.2.2.2.2.2.1, A.2.2.2.2.2.2.1, A.2.2.2.2.2.2.2.1, A.2.2.2.2.2.2.2.2.1, A.2.2.2.2.2.2.2.2.2.1, A.2.2.2.2.2.2.2.2.2.2) _ (by omega) hq1 rfl (show mtb (A.1, A.2.1, im, A.2.2.2.1, A.2.2.2.2.1, A.2.2.2.2.2.1, A.2.2.2.2.2.2.1, A.2.2.2.2.2.2.2.1, A.2.2.2.2.2.2.2.2.1, A.2.2.2.2.2.2.2.2.2.1, A.2.2.2.2.2.2.2.2.2.2) 16 rw res from hr.1) (Or.inl ⟨rfl, fun i hi => absurd hi (by omega)⟩)
          · exact absurd (by decide +kernel) c_51
        | succ t ih =>
          intro h1 im o3 ht hq1 hi1 hi2 hi3
          rw [rl_dec t]
          have hs1 := hq1.1.sa hs
          obtain ⟨hm0, g12, g13, g14, g15, g16, g17, g18, g19, g20, g21, g22⟩ := id hq1
          have g0 := hm0.1
          have gk := hm0.2.1
          obtain ⟨a1, a2, a3, a4, a5, a6, a7, a8, a9, a10, a11⟩ := id hs1
          obtain ⟨cft, n1, n2, n3⟩ := hl.2 t (by omega)
          obtain ⟨op, w, w1, w2, a1, a2, a4, a5, a6, a8, a9⟩ := id cft
          have op6 := a4.1
          rw [a1, iN_nI (by omega)] at n3
          have hop := n1.trans a1
          have tb16 : ∀ b : Nat, b < t → b < 16 := fun b hb => by omega
          refine o_iload_n hC dX8_run_50 (by rfl) ?_
          refine o_if_lt (tgt := 132) hC dX8_run_51 (by decide) (fun c_51 => ?_) (fun c_51 => ?_)
          · exact absurd c_51 (nI_pos (by omega))
          · refine o_aload_n hC dX8_run_54 (by rfl) ?_
            refine o_getf hC (fX8_49 hC rfl) dX8_run_55 (by repeat (first | with_reducible assumption | (rw [rl_u_s]; done) | (rw [rl_u_s]; rfl) | rw [rl_u_n (by first | with_reducible assumption | omega)])) (by first | rfl | with_reducible assumption) ?_
            refine o_iload_n hC dX8_run_58 (by rfl) ?_
            refine o_zaldN (t0 := 2) hC rfl dX8_run_59 (by repeat (first | with_reducible assumption | (rw [rl_u_s]; done) | (rw [rl_u_s]; rfl) | rw [rl_u_n (by first | with_reducible assumption | omega)])) (by omega) (by decide) ?_
            refine o_if_eq (tgt := 126) hC dX8_run_60 (by decide) (fun c_60 => ?_) (fun c_60 => ?_)
            · refine o_iinc hC dX8_run_126 (by rfl) rfl (Nat.le_of_ble_eq_true rfl) ?_
              refine o_goto (tgt := 50) hC dX8_run_129 (by decide) ?_
              refine ih _ im _ (by omega) hq1 hi1 (fun k k1 k2 hb => ?_) hi3
              by_cases e : k = t
              · subst e
                exact absurd c_60 hb
              · exact hi2 k (by omega) k2 hb
            · refine o_aload_n hC dX8_run_63 (by rfl) ?_
              refine o_getf hC (fX8_19 hC rfl) dX8_run_64 (by repeat (first | with_reducible assumption | (rw [rl_u_s]; done) | (rw [rl_u_s]; rfl) | rw [rl_u_n (by first | with_reducible assumption | omega)])) (by first | rfl | with_reducible assumption) ?_
              refine o_iload_n hC dX8_run_67 (by rfl) ?_
              refine o_ialdN (t0 := 0) (k := t) hC rfl dX8_run_68 (by repeat (first | with_reducible assumption | (rw [rl_u_s]; done) | (rw [rl_u_s]; rfl) | rw [rl_u_n (by first | with_reducible assumption | omega)])) (by omega) (by decide) ?_
              rw [hop]
              refine o_if_eq (tgt := 126) hC dX8_run_69 (by decide) (fun c_69 => ?_) (fun c_69 => ?_)
              · refine o_iinc hC dX8_run_126 (by rfl) rfl (Nat.le_of_ble_eq_true rfl) ?_
                refine o_goto (tgt := 50) hC dX8_run_129 (by decide) ?_
                refine ih _ im _ (by omega) hq1 hi1 (fun k k1 k2 hb => ?_) hi3
                by_cases e : k = t
                · subst e
                  have op0 : op = 0 := nI_inj2 (by omega) (by decide) c_69
                  intro i hi hp
                  rcases hp with hp | hp
                  · exact absurd (hp.symm.trans (a8 op0)) (nI_m1 (by omega))
                  · exact absurd (hp.symm.trans (a9 (by rw [op0]; decide))) (nI_m1 (by omega))
                · exact hi2 k (by omega) k2 hb
              · have op1 : 1 ≤ op := Nat.pos_of_ne_zero (fun e => c_69 (by rw [e]; rfl))
                obtain ⟨b, b1, b2, -⟩ := a5 op1
                have b16 := tb16 b b1
                have hfi := (n3.2.1 op1).trans b2
                refine o_aload_n hC dX8_run_72 (by rfl) ?_
                refine o_getf hC (fX8_49 hC rfl) dX8_run_73 (by repeat (first | with_reducible assumption | (rw [rl_u_s]; done) | (rw [rl_u_s]; rfl) | rw [rl_u_n (by first | with_reducible assumption | omega)])) (by first | rfl | with_reducible assumption) ?_
                refine o_aload_n hC dX8_run_76 (by rfl) ?_
                refine o_getf hC (fX8_22 hC rfl) dX8_run_77 (by repeat (first | with_reducible assumption | (rw [rl_u_s]; done) | (rw [rl_u_s]; rfl) | rw [rl_u_n (by first | with_reducible assumption | omega)])) (by first | rfl | with_reducible assumption) ?_
                refine o_iload_n hC dX8_run_80 (by rfl) ?_
                refine o_ialdN (t0 := 0) (k := t) hC rfl dX8_run_81 (by repeat (first | with_reducible assumption | (rw [rl_u_s]; done) | (rw [rl_u_s]; rfl) | rw [rl_u_n (by first | with_reducible assumption | omega)])) (by omega) (by decide) ?_
                rw [hfi]
                refine o_iconst (v := nI 1) hC dX8_run_82 (by decide +kernel) ?_
                refine o_zastN (t0 := 2) hC rfl dX8_run_83 (by repeat (first | with_reducible assumption | (rw [rl_u_s]; done) | (rw [rl_u_s]; rfl) | rw [rl_u_n (by first | with_reducible assumption | omega)])) (by omega) (by decide) ?_
                refine o_aload_n hC dX8_run_84 (by rfl) ?_
                refine o_getf hC (fX8_19 hC rfl) dX8_run_85 (by repeat (first | with_reducible assumption | (rw [rl_u_s]; done) | (rw [rl_u_s]; rfl) | rw [rl_u_n (by first | with_reducible assumption | omega)])) (by first | rfl | with_reducible assumption) ?_
                refine o_iload_n hC dX8_run_88 (by rfl) ?_
                refine o_ialdN (t0 := 0) (k := t) hC rfl dX8_run_89 (by repeat (first | with_reducible assumption | (rw [rl_u_s]; done) | (rw [rl_u_s]; rfl) | rw [rl_u_n (by first | with_reducible assumption | omega)])) (by omega) (by decide) ?_
                rw [hop]
                refine o_iconst (v := nI 3) hC dX8_run_90 (by decide +kernel) ?_
                refine o_icmp_eq (tgt := 114) hC dX8_run_91 (by decide) (fun c_91 => ?_) (fun c_91 => ?_)
                · have o345 : op = 3 ∨ op = 4 ∨ op = 5 := by
                    first
                    | exact Or.inl (nI_inj2 (by omega) (by decide) c_91)
                    | exact Or.inr (Or.inl (nI_inj2 (by omega) (by decide) c_101))
                    | exact Or.inr (Or.inr (nI_inj2 (by omega) (by decide) (by first | exact c_111 | exact Classical.not_not.mp c_111)))
                  obtain ⟨d, d1, d2, -⟩ := a6 (decide_eq_true o345)
                  have d16 := tb16 d d1
                  have hse := (n3.2.2.1 o345).trans d2
                  refine o_aload_n hC dX8_run_114 (by rfl) ?_
                  refine o_getf hC (fX8_49 hC rfl) dX8_run_115 (by repeat (first | with_reducible assumption | (rw [rl_u_s]; done) | (rw [rl_u_s]; rfl) | rw [rl_u_n (by first | with_reducible assumption | omega)])) (by first | rfl | with_reducible assumption) ?_
                  refine o_aload_n hC dX8_run_118 (by rfl) ?_
                  refine o_getf hC (fX8_25 hC rfl) dX8_run_119 (by repeat (first | with_reducible assumption | (rw [rl_u_s]; done) | (rw [rl_u_s]; rfl) | rw [rl_u_n (by first | with_reducible assumption | omega)])) (by first | rfl | with_reducible assumption) ?_
                  refine o_iload_n hC dX8_run_122 (by rfl) ?_
                  refine o_ialdN (t0 := 0) (k := t) hC rfl dX8_run_123 (by repeat (first | with_reducible assumption | (rw [rl_u_s]; done) | (rw [rl_u_s]; rfl) | rw [rl_u_n (by first | with_reducible assumption | omega)])) (by omega) (by decide) ?_
                  rw [hse]
                  refine o_iconst (v := nI 1) hC dX8_run_124 (by decide +kernel) ?_
                  refine o_zastN (t0 := 2) hC rfl dX8_run_125 (by repeat (first | with_reducible assumption | (rw [rl_u_s]; done) | (rw [rl_u_s]; rfl) | rw [rl_u_n (by first | with_reducible assumption | omega)])) (by omega) (by decide) ?_
                  refine o_iinc hC dX8_run_126 (by rfl) rfl (Nat.le_of_ble_eq_true rfl) ?_
                  refine o_goto (tgt := 50) hC dX8_run_129 (by decide) ?_
                  have v1 : vp_nar .boolean (nI 1) ≠ nI 0 := by rw [bl_1]; decide +kernel
                  have hQt := hi3 t (by omega) c_60
                  have new : ∀ i : Nat, (upd (upd im b (vp_nar .boolean (nI 1))) d (vp_nar .boolean (nI 1))) i ≠ nI 0 ↔ (i = b ∨ i = d ∨ im i ≠ nI 0) := fun i => by
                    unfold upd
                    by_cases e2 : i = d
                    · rw [if_pos e2]
                      exact ⟨fun _ => Or.inr (Or.inl e2), fun _ => v1⟩
                    · rw [if_neg e2]
                      by_cases e1 : i = b
                      · rw [if_pos e1]
                        exact ⟨fun _ => Or.inl e1, fun _ => v1⟩
                      · rw [if_neg e1]
                        exact ⟨fun h => Or.inr (Or.inr h), fun h => (h.resolve_left e1).resolve_left e2⟩
                  refine ih _ (upd (upd im b (vp_nar .boolean (nI 1))) d (vp_nar .boolean (nI 1))) _ (by omega) ((hq1.s14 _).s14 _) ((new _).mpr (Or.inr (Or.inr hi1))) (fun k k1 k2 hb => ?_) (fun k k2 hb => ?_)
                  · by_cases e : k = t
                    · subst e
                      intro i hi hp
                      rcases hp with hp | hp
                      · have := nI_inj2 (by omega) (by omega) (hp.symm.trans b2)
                        exact (new i).mpr (Or.inl this)
                      · have := nI_inj2 (by omega) (by omega) (hp.symm.trans d2)
                        exact (new i).mpr (Or.inr (Or.inl this))
                    · have hb0 : im k ≠ nI 0 := by
                        rcases (new k).mp hb with q | q | q
                        · omega
                        · omega
                        · exact q
                      exact fun i hi hp => (new _).mpr (Or.inr (Or.inr (hi2 k (by omega) k2 hb0 i hi hp)))
                  · rcases (new k).mp hb with q | q | q
                    · rw [q]
                      exact fun hn => hQt (sem_none _ _ _ _ cft (by omega) b1 (Or.inl b2) hn)
                    · rw [q]
                      exact fun hn => hQt (sem_none _ _ _ _ cft (by omega) d1 (Or.inr d2) hn)
                    · exact hi3 k k2 q
                · refine o_aload_n hC dX8_run_94 (by rfl) ?_
                  refine o_getf hC (fX8_19 hC rfl) dX8_run_95 (by repeat (first | with_reducible assumption | (rw [rl_u_s]; done) | (rw [rl_u_s]; rfl) | rw [rl_u_n (by first | with_reducible assumption | omega)])) (by first | rfl | with_reducible assumption) ?_
                  refine o_iload_n hC dX8_run_98 (by rfl) ?_
                  refine o_ialdN (t0 := 0) (k := t) hC rfl dX8_run_99 (by repeat (first | with_reducible assumption | (rw [rl_u_s]; done) | (rw [rl_u_s]; rfl) | rw [rl_u_n (by first | with_reducible assumption | omega)])) (by omega) (by decide) ?_
                  rw [hop]
                  refine o_iconst (v := nI 4) hC dX8_run_100 (by decide +kernel) ?_
                  refine o_icmp_eq (tgt := 114) hC dX8_run_101 (by decide) (fun c_101 => ?_) (fun c_101 => ?_)
                  · have o345 : op = 3 ∨ op = 4 ∨ op = 5 := by
                      first
                      | exact Or.inl (nI_inj2 (by omega) (by decide) c_91)
                      | exact Or.inr (Or.inl (nI_inj2 (by omega) (by decide) c_101))
                      | exact Or.inr (Or.inr (nI_inj2 (by omega) (by decide) (by first | exact c_111 | exact Classical.not_not.mp c_111)))
                    obtain ⟨d, d1, d2, -⟩ := a6 (decide_eq_true o345)
                    have d16 := tb16 d d1
                    have hse := (n3.2.2.1 o345).trans d2
                    refine o_aload_n hC dX8_run_114 (by rfl) ?_
                    refine o_getf hC (fX8_49 hC rfl) dX8_run_115 (by repeat (first | with_reducible assumption | (rw [rl_u_s]; done) | (rw [rl_u_s]; rfl) | rw [rl_u_n (by first | with_reducible assumption | omega)])) (by first | rfl | with_reducible assumption) ?_
                    refine o_aload_n hC dX8_run_118 (by rfl) ?_
                    refine o_getf hC (fX8_25 hC rfl) dX8_run_119 (by repeat (first | with_reducible assumption | (rw [rl_u_s]; done) | (rw [rl_u_s]; rfl) | rw [rl_u_n (by first | with_reducible assumption | omega)])) (by first | rfl | with_reducible assumption) ?_
                    refine o_iload_n hC dX8_run_122 (by rfl) ?_
                    refine o_ialdN (t0 := 0) (k := t) hC rfl dX8_run_123 (by repeat (first | with_reducible assumption | (rw [rl_u_s]; done) | (rw [rl_u_s]; rfl) | rw [rl_u_n (by first | with_reducible assumption | omega)])) (by omega) (by decide) ?_
                    rw [hse]
                    refine o_iconst (v := nI 1) hC dX8_run_124 (by decide +kernel) ?_
                    refine o_zastN (t0 := 2) hC rfl dX8_run_125 (by repeat (first | with_reducible assumption | (rw [rl_u_s]; done) | (rw [rl_u_s]; rfl) | rw [rl_u_n (by first | with_reducible assumption | omega)])) (by omega) (by decide) ?_
                    refine o_iinc hC dX8_run_126 (by rfl) rfl (Nat.le_of_ble_eq_true rfl) ?_
                    refine o_goto (tgt := 50) hC dX8_run_129 (by decide) ?_
                    have v1 : vp_nar .boolean (nI 1) ≠ nI 0 := by rw [bl_1]; decide +kernel
                    have hQt := hi3 t (by omega) c_60
                    have new : ∀ i : Nat, (upd (upd im b (vp_nar .boolean (nI 1))) d (vp_nar .boolean (nI 1))) i ≠ nI 0 ↔ (i = b ∨ i = d ∨ im i ≠ nI 0) := fun i => by
                      unfold upd
                      by_cases e2 : i = d
                      · rw [if_pos e2]
                        exact ⟨fun _ => Or.inr (Or.inl e2), fun _ => v1⟩
                      · rw [if_neg e2]
                        by_cases e1 : i = b
                        · rw [if_pos e1]
                          exact ⟨fun _ => Or.inl e1, fun _ => v1⟩
                        · rw [if_neg e1]
                          exact ⟨fun h => Or.inr (Or.inr h), fun h => (h.resolve_left e1).resolve_left e2⟩
                    refine ih _ (upd (upd im b (vp_nar .boolean (nI 1))) d (vp_nar .boolean (nI 1))) _ (by omega) ((hq1.s14 _).s14 _) ((new _).mpr (Or.inr (Or.inr hi1))) (fun k k1 k2 hb => ?_) (fun k k2 hb => ?_)
                    · by_cases e : k = t
                      · subst e
                        intro i hi hp
                        rcases hp with hp | hp
                        · have := nI_inj2 (by omega) (by omega) (hp.symm.trans b2)
                          exact (new i).mpr (Or.inl this)
                        · have := nI_inj2 (by omega) (by omega) (hp.symm.trans d2)
                          exact (new i).mpr (Or.inr (Or.inl this))
                      · have hb0 : im k ≠ nI 0 := by
                          rcases (new k).mp hb with q | q | q
                          · omega
                          · omega
                          · exact q
                        exact fun i hi hp => (new _).mpr (Or.inr (Or.inr (hi2 k (by omega) k2 hb0 i hi hp)))
                    · rcases (new k).mp hb with q | q | q
                      · rw [q]
                        exact fun hn => hQt (sem_none _ _ _ _ cft (by omega) b1 (Or.inl b2) hn)
                      · rw [q]
                        exact fun hn => hQt (sem_none _ _ _ _ cft (by omega) d1 (Or.inr d2) hn)
                      · exact hi3 k k2 q
                  · refine o_aload_n hC dX8_run_104 (by rfl) ?_
                    refine o_getf hC (fX8_19 hC rfl) dX8_run_105 (by repeat (first | with_reducible assumption | (rw [rl_u_s]; done) | (rw [rl_u_s]; rfl) | rw [rl_u_n (by first | with_reducible assumption | omega)])) (by first | rfl | with_reducible assumption) ?_
                    refine o_iload_n hC dX8_run_108 (by rfl) ?_
                    refine o_ialdN (t0 := 0) (k := t) hC rfl dX8_run_109 (by repeat (first | with_reducible assumption | (rw [rl_u_s]; done) | (rw [rl_u_s]; rfl) | rw [rl_u_n (by first | with_reducible assumption | omega)])) (by omega) (by decide) ?_
                    rw [hop]
                    refine o_iconst (v := nI 5) hC dX8_run_110 (by decide +kernel) ?_
                    refine o_icmp_ne (tgt := 126) hC dX8_run_111 (by decide) (fun c_111 => ?_) (fun c_111 => ?_)
                    · refine o_iinc hC dX8_run_126 (by rfl) rfl (Nat.le_of_ble_eq_true rfl) ?_
                      refine o_goto (tgt := 50) hC dX8_run_129 (by decide) ?_
                      have v1 : vp_nar .boolean (nI 1) ≠ nI 0 := by rw [bl_1]; decide +kernel
                      have hQt := hi3 t (by omega) c_60
                      have n345 : is2 op = false := decide_eq_false (fun q => by
                        rcases q with q | q | q
                        · exact c_91 (by rw [q])
                        · exact c_101 (by rw [q])
                        · exact c_111 (by rw [q]))
                      have new : ∀ i : Nat, (upd im b (vp_nar .boolean (nI 1))) i ≠ nI 0 ↔ (i = b ∨ im i ≠ nI 0) := fun i => by
                        unfold upd
                        by_cases e1 : i = b
                        · rw [if_pos e1]
                          exact ⟨fun _ => Or.inl e1, fun _ => v1⟩
                        · rw [if_neg e1]
                          exact ⟨fun h => Or.inr h, fun h => h.resolve_left e1⟩
                      refine ih _ (upd im b (vp_nar .boolean (nI 1))) _ (by omega) (hq1.s14 _) ((new _).mpr (Or.inr hi1)) (fun k k1 k2 hb => ?_) (fun k k2 hb => ?_)
                      · by_cases e : k = t
                        · subst e
                          intro i hi hp
                          rcases hp with hp | hp
                          · have := nI_inj2 (by omega) (by omega) (hp.symm.trans b2)
                            exact (new i).mpr (Or.inl this)
                          · exact absurd (hp.symm.trans (a9 n345)) (nI_m1 (by omega))
                        · have hb0 : im k ≠ nI 0 := by
                            rcases (new k).mp hb with q | q
                            · omega
                            · exact q
                          exact fun i hi hp => (new _).mpr (Or.inr (hi2 k (by omega) k2 hb0 i hi hp))
                      · rcases (new k).mp hb with q | q
                        · rw [q]
                          exact fun hn => hQt (sem_none _ _ _ _ cft (by omega) b1 (Or.inl b2) hn)
                        · exact hi3 k k2 q
                    · have o345 : op = 3 ∨ op = 4 ∨ op = 5 := by
                        first
                        | exact Or.inl (nI_inj2 (by omega) (by decide) c_91)
                        | exact Or.inr (Or.inl (nI_inj2 (by omega) (by decide) c_101))
                        | exact Or.inr (Or.inr (nI_inj2 (by omega) (by decide) (by first | exact c_111 | exact Classical.not_not.mp c_111)))
                      obtain ⟨d, d1, d2, -⟩ := a6 (decide_eq_true o345)
                      have d16 := tb16 d d1
                      have hse := (n3.2.2.1 o345).trans d2
                      refine o_aload_n hC dX8_run_114 (by rfl) ?_
                      refine o_getf hC (fX8_49 hC rfl) dX8_run_115 (by repeat (first | with_reducible assumption | (rw [rl_u_s]; done) | (rw [rl_u_s]; rfl) | rw [rl_u_n (by first | with_reducible assumption | omega)])) (by first | rfl | with_reducible assumption) ?_
                      refine o_aload_n hC dX8_run_118 (by rfl) ?_
                      refine o_getf hC (fX8_25 hC rfl) dX8_run_119 (by repeat (first | with_reducible assumption | (rw [rl_u_s]; done) | (rw [rl_u_s]; rfl) | rw [rl_u_n (by first | with_reducible assumption | omega)])) (by first | rfl | with_reducible assumption) ?_
                      refine o_iload_n hC dX8_run_122 (by rfl) ?_
                      refine o_ialdN (t0 := 0) (k := t) hC rfl dX8_run_123 (by repeat (first | with_reducible assumption | (rw [rl_u_s]; done) | (rw [rl_u_s]; rfl) | rw [rl_u_n (by first | with_reducible assumption | omega)])) (by omega) (by decide) ?_
                      rw [hse]
                      refine o_iconst (v := nI 1) hC dX8_run_124 (by decide +kernel) ?_
                      refine o_zastN (t0 := 2) hC rfl dX8_run_125 (by repeat (first | with_reducible assumption | (rw [rl_u_s]; done) | (rw [rl_u_s]; rfl) | rw [rl_u_n (by first | with_reducible assumption | omega)])) (by omega) (by decide) ?_
                      refine o_iinc hC dX8_run_126 (by rfl) rfl (Nat.le_of_ble_eq_true rfl) ?_
                      refine o_goto (tgt := 50) hC dX8_run_129 (by decide) ?_
                      have v1 : vp_nar .boolean (nI 1) ≠ nI 0 := by rw [bl_1]; decide +kernel
                      have hQt := hi3 t (by omega) c_60
                      have new : ∀ i : Nat, (upd (upd im b (vp_nar .boolean (nI 1))) d (vp_nar .boolean (nI 1))) i ≠ nI 0 ↔ (i = b ∨ i = d ∨ im i ≠ nI 0) := fun i => by
                        unfold upd
                        by_cases e2 : i = d
                        · rw [if_pos e2]
                          exact ⟨fun _ => Or.inr (Or.inl e2), fun _ => v1⟩
                        · rw [if_neg e2]
                          by_cases e1 : i = b
                          · rw [if_pos e1]
                            exact ⟨fun _ => Or.inl e1, fun _ => v1⟩
                          · rw [if_neg e1]
                            exact ⟨fun h => Or.inr (Or.inr h), fun h => (h.resolve_left e1).resolve_left e2⟩
                      refine ih _ (upd (upd im b (vp_nar .boolean (nI 1))) d (vp_nar .boolean (nI 1))) _ (by omega) ((hq1.s14 _).s14 _) ((new _).mpr (Or.inr (Or.inr hi1))) (fun k k1 k2 hb => ?_) (fun k k2 hb => ?_)
                      · by_cases e : k = t
                        · subst e
                          intro i hi hp
                          rcases hp with hp | hp
                          · have := nI_inj2 (by omega) (by omega) (hp.symm.trans b2)
                            exact (new i).mpr (Or.inl this)
                          · have := nI_inj2 (by omega) (by omega) (hp.symm.trans d2)
                            exact (new i).mpr (Or.inr (Or.inl this))
                        · have hb0 : im k ≠ nI 0 := by
                            rcases (new k).mp hb with q | q | q
                            · omega
                            · omega
                            · exact q
                          exact fun i hi hp => (new _).mpr (Or.inr (Or.inr (hi2 k (by omega) k2 hb0 i hi hp)))
                      · rcases (new k).mp hb with q | q | q
                        · rw [q]
                          exact fun hn => hQt (sem_none _ _ _ _ cft (by omega) b1 (Or.inl b2) hn)
                        · rw [q]
                          exact fun hn => hQt (sem_none _ _ _ _ cft (by omega) d1 (Or.inr d2) hn)
                        · exact hi3 k k2 q
      have loop1 : ∀ (mm i : Nat) (h1 : rl_H) (im : Nat → Int32) (o3 : Option Value), i + mm = 16 → mf ids h h1 m (nI 0, T.2) (nI 0) k (A.1, A.2.1, im, A.2.2.2.1, A.2.2.2.2.1, A.2.2.2.2.2.1, A.2.2.2.2.2.2.1, A.2.2.2.2.2.2.2.1, A.2.2.2.2.2.2.2.2.1, A.2.2.2.2.2.2.2.2.2.1, A.2.2.2.2.2.2.2.2.2.2) → (∀ q : Nat, q < i → im q = nI 0) → rl_G X (rl_e D ids H0) 22 [some (.ref m), some (.int (nI j)), some (.int (nI i)), o3] [] h1 n_7 0 0 := by
        intro mm
        induction mm with
        | zero =>
          intro i h1 im o3 hm hq1 hz
          obtain ⟨hm0, g12, g13, g14, g15, g16, g17, g18, g19, g20, g21, g22⟩ := id hq1
          have g0 := hm0.1
          have gk := hm0.2.1
          refine o_iload_n hC dX8_run_22 (by rfl) ?_
          refine o_bipush (v := nI 16) hC dX8_run_23 (by decide +kernel) ?_
          refine o_icmp_ge (tgt := 41) hC dX8_run_25 (by decide) (fun c_25 => ?_) (fun c_25 => ?_)
          · refine o_aload_n hC dX8_run_41 (by rfl) ?_
            refine o_getf hC (fX8_49 hC rfl) dX8_run_42 (by repeat (first | with_reducible assumption | (rw [rl_u_s]; done) | (rw [rl_u_s]; rfl) | rw [rl_u_n (by first | with_reducible assumption | omega)])) (by first | rfl | with_reducible assumption) ?_
            refine o_iload_n hC dX8_run_45 (by rfl) ?_
            refine o_iconst (v := nI 1) hC dX8_run_46 (by decide +kernel) ?_
            refine o_zastN (t0 := 2) hC rfl dX8_run_47 (by repeat (first | with_reducible assumption | (rw [rl_u_s]; done) | (rw [rl_u_s]; rfl) | rw [rl_u_n (by first | with_reducible assumption | omega)])) (by omega) (by decide) ?_
            refine o_iload_n hC dX8_run_48 (by rfl) ?_
            refine o_istore_n hC dX8_run_49 (Nat.le_of_ble_eq_true rfl) ?_
            have lp := loop2 (j + 1) _ (upd im j (vp_nar .boolean (nI 1))) o3 (Nat.le_refl _) (hq1.s14 _) (by rw [upd_at, bl_1]; decide +kernel) (fun k k1 k2 => absurd k1 (by omega)) (fun k k2 hb => ?_)
            · rw [rl_dec j] at lp
              exact lp
            · by_cases e : k = j
              · rw [e]
                exact id
              · exact absurd ((if_neg e).trans (hz k (by omega))) hb
          · exact absurd (nI_le (by omega) (by omega)) c_25
        | succ mm ih =>
          intro i h1 im o3 hm hq1 hz
          obtain ⟨hm0, g12, g13, g14, g15, g16, g17, g18, g19, g20, g21, g22⟩ := id hq1
          have g0 := hm0.1
          have gk := hm0.2.1
          refine o_iload_n hC dX8_run_22 (by rfl) ?_
          refine o_bipush (v := nI 16) hC dX8_run_23 (by decide +kernel) ?_
          refine o_icmp_ge (tgt := 41) hC dX8_run_25 (by decide) (fun c_25 => ?_) (fun c_25 => ?_)
          · exact absurd c_25 (nI_ge (by omega) (by omega))
          · refine o_aload_n hC dX8_run_28 (by rfl) ?_
            refine o_getf hC (fX8_49 hC rfl) dX8_run_29 (by repeat (first | with_reducible assumption | (rw [rl_u_s]; done) | (rw [rl_u_s]; rfl) | rw [rl_u_n (by first | with_reducible assumption | omega)])) (by first | rfl | with_reducible assumption) ?_
            refine o_iload_n hC dX8_run_32 (by rfl) ?_
            refine o_iconst (v := nI 0) hC dX8_run_33 (by decide +kernel) ?_
            refine o_zastN (t0 := 2) hC rfl dX8_run_34 (by repeat (first | with_reducible assumption | (rw [rl_u_s]; done) | (rw [rl_u_s]; rfl) | rw [rl_u_n (by first | with_reducible assumption | omega)])) (by omega) (by decide) ?_
            refine o_iinc hC dX8_run_35 (by rfl) (rl_inc _) (Nat.le_of_ble_eq_true rfl) ?_
            refine o_goto (tgt := 22) hC dX8_run_38 (by decide) ?_
            refine ih (i + 1) _ _ _ (by omega) (hq1.s14 _) (fun q hq => ?_)
            by_cases e : q = i
            · exact (if_pos e).trans bl_0
            · exact (if_neg e).trans (hz q (by omega))
      exact loop1 16 0 _ A.2.2.1 _ (by omega) (hq0.ob (nI 0, T.2) (nI 0) k hq.1.2.1) (fun q hq => absurd hq (by omega))
    · exact absurd c_10 (by decide +kernel)
