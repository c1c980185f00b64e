/-! THE MODEL: run -/

set_option maxHeartbeats 4000000 in
set_option maxRecDepth 100000 in
theorem cm_X8_run (l : Launch) (D : va_G) (ids : Nat → ClassId) (H0 : Heap) (h : rl_H) (n : Nat) (m : Nat) (T : md_T) (fu : Int32) (k : Nat) (S : md_A) (z : sh_S) (q : Int32) (hu : md_un ids h m T fu k S z) : rl_Met l (rl_e D ids H0) rl_BW rl_Ns yX8_run cX8_run 4 (some .int) ({ frames := 7, cells := 0, slots := 0, locals := 178 }) [.ref m, .int q] h n (fun v h' n' => ∃ r : Int32, v = some (.int r) ∧ n' = n ∧ md_ok ids h' m z ∧ rl_fr h h' m (m + 23)) := by
  obtain ⟨hq, hs, ⟨hsc, hsc4⟩, hwf, ⟨hrr, hr36⟩, ⟨hnc, hn16⟩, hnw, hpr, hnv, hwv, wrc, hrc6, hrc⟩ := id hu
  have hq0 := hq.ob (nI 0, T.2) fu k hq.2.1
  have g0 := hq.1
  refine rl_Met.of (by decide +kernel) (Nat.le_of_ble_eq_true rfl) ?_
  intro X hC hB
  show rl_G X (rl_e D ids H0) 0 [some (.ref m), some (.int q), none, none] [] h n 0 0
  refine o_aload_n hC dX8_run_0 (by rfl) ?_
  refine o_iconst (v := nI 0) hC dX8_run_1 (by decide +kernel) ?_
  refine o_putf hC (fX8_78 hC rfl) (fwX8 rfl rfl rfl (Or.inl rfl)) dX8_run_2 (by repeat (first | with_reducible assumption | (rw [rl_u_s]; done) | (rw [rl_u_s]; rfl) | rw [rl_u_n (by first | with_reducible assumption | omega)])) (Nat.le_of_ble_eq_true rfl) ?_
  try simp only [List.set_cons_zero, List.set_cons_succ]
  refine o_aload_n hC dX8_run_5 (by rfl) ?_
  refine o_iload_n hC dX8_run_6 (by rfl) ?_
  refine o_callV1 hC rl_BW_good rl_Ns_nw (by exact hB.2.2.2.2.2) YX8_isNode IX8_isNode VX8_isNode (mX8_126 hC) (by rw [hB.1]; exact ct_X8_isNode l D ids H0 _ _ m _ _ _ (by repeat (first | with_reducible assumption | (rw [rl_u_s]; done) | (rw [rl_u_s]; rfl) | rw [rl_u_n (by first | with_reducible assumption | omega)])) rfl) (by repeat (first | with_reducible assumption | (rw [rl_u_s]; done) | (rw [rl_u_s]; rfl) | rw [rl_u_n (by first | with_reducible assumption | omega)])) rfl rfl (Nat.le_of_ble_eq_true rfl) (by rw [hB.2.1]; first | exact Nat.le_of_ble_eq_true rfl | (dsimp only; omega)) (by rw [hB.2.1]; first | exact Nat.le_of_ble_eq_true rfl | (dsimp only; omega)) (by rw [hB.2.1]; first | exact Nat.le_of_ble_eq_true rfl | (dsimp only; omega)) (by rw [hB.2.1]; first | exact Nat.le_of_ble_eq_true rfl | (dsimp only; omega)) dX8_run_7 (fun v h_7 n_7 p_7 => ?_)
  obtain ⟨rfl, rfl, rfl⟩ := p_7
  try dsimp only [Option.toList, List.cons_append, List.nil_append]
  by_cases hr : q < 0 ∨ T.2.2.2.2.1 ≤ q
  · rw [if_pos hr]
    refine o_if_ne (tgt := 15) hC dX8_run_10 (by decide) (fun c_10 => ?_) (fun c_10 => ?_)
    · exact absurd rfl c_10
    · refine o_iconst (v := (-1 : Int32)) hC dX8_run_13 (by decide +kernel) ?_
      refine o_iret hC hB dX8_run_14 (Nat.le_of_ble_eq_true rfl) (Nat.le_of_ble_eq_true rfl) ?_
      exact ⟨_, rfl, rfl, ⟨_, _, _, S, hu.dp (hq0) rfl rfl rfl rfl ⟨wrc, hrc6, hrc⟩⟩, (hq0).fr⟩
  · rw [if_neg hr]
    obtain ⟨j, hj, rfl⟩ := nI_of_lt (k := z.2.2.2.1) (by omega) (fun e => hr (Or.inl e)) (fun e => hr (Or.inr (by rw [hnc]; exact e)))
    obtain ⟨op, w, -, hw1, hw6, -, hwj, -⟩ := hnv j hj
    refine o_if_ne (tgt := 15) hC dX8_run_10 (by decide) (fun c_10 => ?_) (fun c_10 => ?_)
    · refine o_aload_n hC dX8_run_15 (by rfl) ?_
      refine o_iconst (v := nI 0) hC dX8_run_16 (by decide +kernel) ?_
      refine o_putf hC (fX8_91 hC rfl) (fwX8 rfl rfl rfl (Or.inl rfl)) dX8_run_17 (by repeat (first | with_reducible assumption | (rw [rl_u_s]; done) | (rw [rl_u_s]; rfl) | rw [rl_u_n (by first | with_reducible assumption | omega)])) (Nat.le_of_ble_eq_true rfl) ?_
      try simp only [List.set_cons_zero, List.set_cons_succ]
      refine o_iconst (v := nI 0) hC dX8_run_20 (by decide +kernel) ?_
      refine o_istore_n hC dX8_run_21 (Nat.le_of_ble_eq_true rfl) ?_
      have loop4 : ∀ (mm t : Nat) (h1 : rl_H) (f1 : Int32) (k1 w : Nat) (o3 : Option Value), w ≤ 6 → t + mm = 80 → mq ids h h1 m (nI 0, T.2.1, T.2.2.1, T.2.2.2.1, T.2.2.2.2.1, nI w, T.2.2.2.2.2.2) f1 k1 → rl_G X (rl_e D ids H0) 201 [some (.ref m), some (.int (nI j)), some (.int (nI t)), o3] [] h1 n_7 0 0 := by
        intro mm
        induction mm with
        | zero =>
          intro t h1 f1 k1 w o3 hw6 hm hq1
          have hs1 := hq1.sa hs
          obtain ⟨g0, gk, ⟨⟨cl, g12⟩, ⟨tu, g13, b13⟩, ⟨im, g14⟩, ⟨te, g15, b15⟩, ⟨ne, g16⟩, ⟨la, g17⟩, ⟨hn, g18⟩, ⟨hl, g19⟩, ⟨tp, g20⟩, ⟨gr, g21, b21⟩, ⟨it, g22⟩⟩, gf⟩ := id hq1
          obtain ⟨a1, a2, a3, a4, a5, a6, a7, a8, a9, a10, a11⟩ := id hs1
          refine o_iload_n hC dX8_run_201 (by rfl) ?_
          refine o_aload_n hC dX8_run_202 (by rfl) ?_
          refine o_getf hC (fX8_46 hC rfl) dX8_run_203 (by repeat (first | with_reducible assumption | (rw [rl_u_s]; done) | (rw [rl_u_s]; rfl) | rw [rl_u_n (by first | with_reducible assumption | omega)])) (by first | rfl | with_reducible assumption) ?_
          refine o_iload_n hC dX8_run_206 (by rfl) ?_
          obtain ⟨t207, ht207, et207⟩ := b13 j (by omega)
          refine o_ialdN (t0 := 0) (k := j) hC rfl dX8_run_207 (by repeat (first | with_reducible assumption | (rw [rl_u_s]; done) | (rw [rl_u_s]; rfl) | rw [rl_u_n (by first | with_reducible assumption | omega)])) (by omega) (by decide) ?_
          rw [et207]
          refine o_icmp_ge (tgt := 268) hC dX8_run_208 (by decide) (fun c_208 => ?_) (fun c_208 => ?_)
          · refine o_aload_n hC dX8_run_268 (by rfl) ?_
            refine o_getf hC (fX8_46 hC rfl) dX8_run_269 (by repeat (first | with_reducible assumption | (rw [rl_u_s]; done) | (rw [rl_u_s]; rfl) | rw [rl_u_n (by first | with_reducible assumption | omega)])) (by first | rfl | with_reducible assumption) ?_
            refine o_iload_n hC dX8_run_272 (by rfl) ?_
            refine o_ialdN (t0 := 0) (k := j) hC rfl dX8_run_273 (by repeat (first | with_reducible assumption | (rw [rl_u_s]; done) | (rw [rl_u_s]; rfl) | rw [rl_u_n (by first | with_reducible assumption | omega)])) (by omega) (by decide) ?_
            rw [et207]
            refine o_iret hC hB dX8_run_274 (Nat.le_of_ble_eq_true rfl) (Nat.le_of_ble_eq_true rfl) ?_
            exact ⟨_, rfl, rfl, ⟨_, _, _, S, hu.dp (hq1) rfl rfl rfl rfl ⟨w, hw6, rfl⟩⟩, (hq1).fr⟩
          · exact absurd (nI_le (by omega) (by omega)) c_208
        | succ mm ih =>
          intro t h1 f1 k1 w o3 hw6 hm hq1
          have loop5 : ∀ (m2 c : Nat) (h2 : rl_H), c + m2 = 6 → mq ids h h2 m (nI 0, T.2.1, T.2.2.1, T.2.2.2.1, T.2.2.2.2.1, nI w, T.2.2.2.2.2.2) f1 k1 → rl_G X (rl_e D ids H0) 213 [some (.ref m), some (.int (nI j)), some (.int (nI t)), some (.int (nI c))] [] h2 n_7 0 0 := by
            intro m2
            induction m2 with
            | zero =>
              intro c h2 hm2 hq2
              obtain ⟨g0, gk, -, gf⟩ := id hq2
              refine o_iload_n hC dX8_run_213 (by rfl) ?_
              refine o_bipush (v := nI 6) hC dX8_run_214 (by decide +kernel) ?_
              refine o_icmp_ge (tgt := 247) hC dX8_run_216 (by decide) (fun c_216 => ?_) (fun c_216 => ?_)
              · refine o_aload_n hC dX8_run_247 (by rfl) ?_
                refine o_sipush (v := nI 1280) hC dX8_run_248 (by decide +kernel) ?_
                refine o_iload_n hC dX8_run_251 (by rfl) ?_
                refine o_iadd hC dX8_run_252 ?_
                try rw [nI_add]
                refine o_bipush (v := nI 80) hC dX8_run_253 (by decide +kernel) ?_
                refine o_iload_n hC dX8_run_255 (by rfl) ?_
                refine o_imul hC dX8_run_256 ?_
                try rw [nI_mul]
                refine o_iload_n hC dX8_run_257 (by rfl) ?_
                refine o_iadd hC dX8_run_258 ?_
                try rw [nI_add]
                refine o_callV2 hC rl_BW_good rl_Ns_nw (by exact hB.2.2.2.2.2) YX8_copy IX8_copy VX8_copy (mX8_153 hC) (by rw [hB.1]; exact cm_X8_copy l D ids H0 _ _ m _ _ _ (1280 + t) (80 * j + t) hq2.rf (by omega) (by omega)) (by exact hq2.1) rfl rfl (Nat.le_of_ble_eq_true rfl) (by rw [hB.2.1]; first | exact Nat.le_of_ble_eq_true rfl | (dsimp only; omega)) (by rw [hB.2.1]; first | exact Nat.le_of_ble_eq_true rfl | (dsimp only; omega)) (by rw [hB.2.1]; first | exact Nat.le_of_ble_eq_true rfl | (dsimp only; omega)) (by rw [hB.2.1]; first | exact Nat.le_of_ble_eq_true rfl | (dsimp only; omega)) dX8_run_259 (fun v h_259 n_259 p_259 => ?_)
                obtain ⟨rfl, rfl, q259, f259⟩ := p_259
                have gb259 := q259.1
                try dsimp only [Option.toList, List.cons_append, List.nil_append]
                refine o_iinc hC dX8_run_262 (by rfl) (rl_inc _) (Nat.le_of_ble_eq_true rfl) ?_
                refine o_goto (tgt := 201) hC dX8_run_265 (by decide) ?_
                exact ih (t + 1) _ _ _ w _ hw6 (by omega) (hq2.tr q259)
              · exact absurd (nI_le (by omega) (by omega)) c_216
            | succ m2 ih2 =>
              intro c h2 hm2 hq2
              obtain ⟨g0, gk, ⟨⟨cl, g12⟩, ⟨tu, g13, b13⟩, ⟨im, g14⟩, ⟨te, g15, b15⟩, ⟨ne, g16⟩, ⟨la, g17⟩, ⟨hn, g18⟩, ⟨hl, g19⟩, ⟨tp, g20⟩, ⟨gr, g21, b21⟩, ⟨it, g22⟩⟩, gf⟩ := id hq2
              refine o_iload_n hC dX8_run_213 (by rfl) ?_
              refine o_bipush (v := nI 6) hC dX8_run_214 (by decide +kernel) ?_
              refine o_icmp_ge (tgt := 247) hC dX8_run_216 (by decide) (fun c_216 => ?_) (fun c_216 => ?_)
              · exact absurd c_216 (nI_ge (by omega) (by omega))
              · refine o_aload_n hC dX8_run_219 (by rfl) ?_
                refine o_getf hC (fX8_43 hC rfl) dX8_run_220 (by repeat (first | with_reducible assumption | (rw [rl_u_s]; done) | (rw [rl_u_s]; rfl) | rw [rl_u_n (by first | with_reducible assumption | omega)])) (by first | rfl | with_reducible assumption) ?_
                refine o_sipush (v := nI 1280) hC dX8_run_223 (by decide +kernel) ?_
                refine o_iload_n hC dX8_run_226 (by rfl) ?_
                refine o_iadd hC dX8_run_227 ?_
                try rw [nI_add]
                refine o_bipush (v := nI 6) hC dX8_run_228 (by decide +kernel) ?_
                refine o_imul hC dX8_run_230 ?_
                try rw [nI_mul]
                refine o_iload_n hC dX8_run_231 (by rfl) ?_
                refine o_iadd hC dX8_run_232 ?_
                try rw [nI_add]
                refine o_aload_n hC dX8_run_233 (by rfl) ?_
                refine o_iload_n hC dX8_run_234 (by rfl) ?_
                refine o_iload_n hC dX8_run_235 (by rfl) ?_
                refine o_iload_n hC dX8_run_236 (by rfl) ?_
                refine o_callV3 hC rl_BW_good rl_Ns_nw (by exact hB.2.2.2.2.2) YX8_cellAt IX8_cellAt VX8_cellAt (mX8_138 hC) (by rw [hB.1]; exact cm_X8_cellAt l D ids H0 _ _ m _ _ _ j t c hq2.rf (by omega)) (by exact hq2.rf.1) rfl rfl (Nat.le_of_ble_eq_true rfl) (by rw [hB.2.1]; first | exact Nat.le_of_ble_eq_true rfl | (dsimp only; omega)) (by rw [hB.2.1]; first | exact Nat.le_of_ble_eq_true rfl | (dsimp only; omega)) (by rw [hB.2.1]; first | exact Nat.le_of_ble_eq_true rfl | (dsimp only; omega)) (by rw [hB.2.1]; first | exact Nat.le_of_ble_eq_true rfl | (dsimp only; omega)) dX8_run_237 (fun v h_237 n_237 p_237 => ?_)
                obtain ⟨r237, rfl, rfl, rfl⟩ := p_237
                try dsimp only [Option.toList, List.cons_append, List.nil_append]
                refine o_iastN (t0 := 0) hC rfl dX8_run_240 (by repeat (first | with_reducible assumption | (rw [rl_u_s]; done) | (rw [rl_u_s]; rfl) | rw [rl_u_n (by first | with_reducible assumption | omega)])) (by omega) (by decide) ?_
                refine o_iinc hC dX8_run_241 (by rfl) (rl_inc _) (Nat.le_of_ble_eq_true rfl) ?_
                refine o_goto (tgt := 213) hC dX8_run_244 (by decide) ?_
                exact ih2 (c + 1) _ (by omega) (hq2.s12 _)
          have hs1 := hq1.sa hs
          obtain ⟨g0, gk, ⟨⟨cl, g12⟩, ⟨tu, g13, b13⟩, ⟨im, g14⟩, ⟨te, g15, b15⟩, ⟨ne, g16⟩, ⟨la, g17⟩, ⟨hn, g18⟩, ⟨hl, g19⟩, ⟨tp, g20⟩, ⟨gr, g21, b21⟩, ⟨it, g22⟩⟩, gf⟩ := id hq1
          obtain ⟨a1, a2, a3, a4, a5, a6, a7, a8, a9, a10, a11⟩ := id hs1
          refine o_iload_n hC dX8_run_201 (by rfl) ?_
          refine o_aload_n hC dX8_run_202 (by rfl) ?_
          refine o_getf hC (fX8_46 hC rfl) dX8_run_203 (by repeat (first | with_reducible assumption | (rw [rl_u_s]; done) | (rw [rl_u_s]; rfl) | rw [rl_u_n (by first | with_reducible assumption | omega)])) (by first | rfl | with_reducible assumption) ?_
          refine o_iload_n hC dX8_run_206 (by rfl) ?_
          obtain ⟨t207, ht207, et207⟩ := b13 j (by omega)
          refine o_ialdN (t0 := 0) (k := j) hC rfl dX8_run_207 (by repeat (first | with_reducible assumption | (rw [rl_u_s]; done) | (rw [rl_u_s]; rfl) | rw [rl_u_n (by first | with_reducible assumption | omega)])) (by omega) (by decide) ?_
          rw [et207]
          refine o_icmp_ge (tgt := 268) hC dX8_run_208 (by decide) (fun c_208 => ?_) (fun c_208 => ?_)
          · refine o_aload_n hC dX8_run_268 (by rfl) ?_
            refine o_getf hC (fX8_46 hC rfl) dX8_run_269 (by repeat (first | with_reducible assumption | (rw [rl_u_s]; done) | (rw [rl_u_s]; rfl) | rw [rl_u_n (by first | with_reducible assumption | omega)])) (by first | rfl | with_reducible assumption) ?_
            refine o_iload_n hC dX8_run_272 (by rfl) ?_
            refine o_ialdN (t0 := 0) (k := j) hC rfl dX8_run_273 (by repeat (first | with_reducible assumption | (rw [rl_u_s]; done) | (rw [rl_u_s]; rfl) | rw [rl_u_n (by first | with_reducible assumption | omega)])) (by omega) (by decide) ?_
            rw [et207]
            refine o_iret hC hB dX8_run_274 (Nat.le_of_ble_eq_true rfl) (Nat.le_of_ble_eq_true rfl) ?_
            exact ⟨_, rfl, rfl, ⟨_, _, _, S, hu.dp (hq1) rfl rfl rfl rfl ⟨w, hw6, rfl⟩⟩, (hq1).fr⟩
          · refine o_iconst (v := nI 0) hC dX8_run_211 (by decide +kernel) ?_
            refine o_istore_n hC dX8_run_212 (Nat.le_of_ble_eq_true rfl) ?_
            exact loop5 6 0 _ (by omega) hq1
      have loop3 : ∀ (mm t : Nat) (h1 : rl_H) (f1 : Int32) (k1 : Nat) (o3 : Option Value), t + mm = j + 1 → mq ids h h1 m (nI 0, T.2) f1 k1 → rl_G X (rl_e D ids H0) 134 [some (.ref m), some (.int (nI j)), some (.int (nI t)), o3] [] h1 n_7 0 0 := by
        intro mm
        have fin : ∀ (h1 : rl_H) (f1 : Int32) (k1 : Nat) (o2 o3 : Option Value), mq ids h h1 m (nI 0, T.2) f1 k1 → rl_G X (rl_e D ids H0) 166 [some (.ref m), some (.int (nI j)), o2, o3] [] h1 n_7 0 0 := by
          intro h1 f1 k1 o2 o3 hq1
          have hs1 := hq1.sa hs
          obtain ⟨g0, gk, ⟨⟨cl, g12⟩, ⟨tu, g13, b13⟩, ⟨im, g14⟩, ⟨te, g15, b15⟩, ⟨ne, g16⟩, ⟨la, g17⟩, ⟨hn, g18⟩, ⟨hl, g19⟩, ⟨tp, g20⟩, ⟨gr, g21, b21⟩, ⟨it, g22⟩⟩, gf⟩ := id hq1
          obtain ⟨a1, a2, a3, a4, a5, a6, a7, a8, a9, a10, a11⟩ := id hs1
          refine o_aload_n hC dX8_run_166 (by rfl) ?_
          refine o_getf hC (fX8_91 hC rfl) dX8_run_167 (by repeat (first | with_reducible assumption | (rw [rl_u_s]; done) | (rw [rl_u_s]; rfl) | rw [rl_u_n (by first | with_reducible assumption | omega)])) (by first | rfl | with_reducible assumption) ?_
          refine o_if_eq (tgt := 176) hC dX8_run_170 (by decide) (fun c_170 => ?_) (fun c_170 => ?_)
          · refine o_aload_n hC dX8_run_176 (by rfl) ?_
            refine o_getf hC (fX8_46 hC rfl) dX8_run_177 (by repeat (first | with_reducible assumption | (rw [rl_u_s]; done) | (rw [rl_u_s]; rfl) | rw [rl_u_n (by first | with_reducible assumption | omega)])) (by first | rfl | with_reducible assumption) ?_
            refine o_bipush (v := nI 16) hC dX8_run_180 (by decide +kernel) ?_
            refine o_aload_n hC dX8_run_182 (by rfl) ?_
            refine o_getf hC (fX8_46 hC rfl) dX8_run_183 (by repeat (first | with_reducible assumption | (rw [rl_u_s]; done) | (rw [rl_u_s]; rfl) | rw [rl_u_n (by first | with_reducible assumption | omega)])) (by first | rfl | with_reducible assumption) ?_
            refine o_iload_n hC dX8_run_186 (by rfl) ?_
            obtain ⟨t187, ht187, et187⟩ := b13 j (by omega)
            refine o_ialdN (t0 := 0) (k := j) hC rfl dX8_run_187 (by repeat (first | with_reducible assumption | (rw [rl_u_s]; done) | (rw [rl_u_s]; rfl) | rw [rl_u_n (by first | with_reducible assumption | omega)])) (by omega) (by decide) ?_
            rw [et187]
            refine o_iastN (t0 := 0) hC rfl dX8_run_188 (by repeat (first | with_reducible assumption | (rw [rl_u_s]; done) | (rw [rl_u_s]; rfl) | rw [rl_u_n (by first | with_reducible assumption | omega)])) (by omega) (by decide) ?_
            refine o_aload_n hC dX8_run_189 (by rfl) ?_
            refine o_aload_n hC dX8_run_190 (by rfl) ?_
            refine o_getf hC (fX8_40 hC rfl) dX8_run_191 (by repeat (first | with_reducible assumption | (rw [rl_u_s]; done) | (rw [rl_u_s]; rfl) | rw [rl_u_n (by first | with_reducible assumption | omega)])) (by first | rfl | with_reducible assumption) ?_
            refine o_iload_n hC dX8_run_194 (by rfl) ?_
            refine o_ialdN (t0 := 0) (k := j) hC rfl dX8_run_195 (by repeat (first | with_reducible assumption | (rw [rl_u_s]; done) | (rw [rl_u_s]; rfl) | rw [rl_u_n (by first | with_reducible assumption | omega)])) (by omega) (by decide) ?_
            rw [hwj]
            refine o_putf hC (fX8_196 hC rfl) (fwX8 rfl rfl rfl (Or.inl rfl)) dX8_run_196 (by repeat (first | with_reducible assumption | (rw [rl_u_s]; done) | (rw [rl_u_s]; rfl) | rw [rl_u_n (by first | with_reducible assumption | omega)])) (Nat.le_of_ble_eq_true rfl) ?_
            try simp only [List.set_cons_zero, List.set_cons_succ]
            refine o_iconst (v := nI 0) hC dX8_run_199 (by decide +kernel) ?_
            refine o_istore_n hC dX8_run_200 (Nat.le_of_ble_eq_true rfl) ?_
            exact loop4 80 0 _ _ _ w _ hw6 (by omega) ((hq1.s13 _ (md_bd b13 ⟨t187, ht187, rfl⟩)).ob (nI 0, T.2.1, T.2.2.1, T.2.2.2.1, T.2.2.2.2.1, nI w, T.2.2.2.2.2.2) f1 k1 gk)
          · refine o_bipush (v := (-4 : Int32)) hC dX8_run_173 (by decide +kernel) ?_
            refine o_iret hC hB dX8_run_175 (Nat.le_of_ble_eq_true rfl) (Nat.le_of_ble_eq_true rfl) ?_
            exact ⟨_, rfl, rfl, ⟨_, _, _, S, hu.dp (hq1) rfl rfl rfl rfl ⟨wrc, hrc6, hrc⟩⟩, (hq1).fr⟩
        induction mm with
        | zero =>
          intro t h1 f1 k1 o3 hm hq1
          refine o_iload_n hC dX8_run_134 (by rfl) ?_
          refine o_iload_n hC dX8_run_135 (by rfl) ?_
          refine o_icmp_gt (tgt := 166) hC dX8_run_136 (by decide) (fun c_136 => ?_) (fun c_136 => ?_)
          · exact fin _ _ _ _ _ hq1
          · exact absurd (nI_lt (by omega) (by omega)) c_136
        | succ mm ih =>
          intro t h1 f1 k1 o3 hm hq1
          have hs1 := hq1.sa hs
          obtain ⟨g0, gk, ⟨⟨cl, g12⟩, ⟨tu, g13, b13⟩, ⟨im, g14⟩, ⟨te, g15, b15⟩, ⟨ne, g16⟩, ⟨la, g17⟩, ⟨hn, g18⟩, ⟨hl, g19⟩, ⟨tp, g20⟩, ⟨gr, g21, b21⟩, ⟨it, g22⟩⟩, gf⟩ := id hq1
          obtain ⟨a1, a2, a3, a4, a5, a6, a7, a8, a9, a10, a11⟩ := id hs1
          refine o_iload_n hC dX8_run_134 (by rfl) ?_
          refine o_iload_n hC dX8_run_135 (by rfl) ?_
          refine o_icmp_gt (tgt := 166) hC dX8_run_136 (by decide) (fun c_136 => ?_) (fun c_136 => ?_)
          · exact fin _ _ _ _ _ hq1
          · refine o_aload_n hC dX8_run_139 (by rfl) ?_
            refine o_getf hC (fX8_91 hC rfl) dX8_run_140 (by repeat (first | with_reducible assumption | (rw [rl_u_s]; done) | (rw [rl_u_s]; rfl) | rw [rl_u_n (by first | with_reducible assumption | omega)])) (by first | rfl | with_reducible assumption) ?_
            refine o_if_ne (tgt := 166) hC dX8_run_143 (by decide) (fun c_143 => ?_) (fun c_143 => ?_)
            · exact fin _ _ _ _ _ hq1
            · refine o_aload_n hC dX8_run_146 (by rfl) ?_
              refine o_getf hC (fX8_49 hC rfl) dX8_run_147 (by repeat (first | with_reducible assumption | (rw [rl_u_s]; done) | (rw [rl_u_s]; rfl) | rw [rl_u_n (by first | with_reducible assumption | omega)])) (by first | rfl | with_reducible assumption) ?_
              refine o_iload_n hC dX8_run_150 (by rfl) ?_
              refine o_zaldN (t0 := 2) hC rfl dX8_run_151 (by repeat (first | with_reducible assumption | (rw [rl_u_s]; done) | (rw [rl_u_s]; rfl) | rw [rl_u_n (by first | with_reducible assumption | omega)])) (by omega) (by decide) ?_
              refine o_if_eq (tgt := 160) hC dX8_run_152 (by decide) (fun c_152 => ?_) (fun c_152 => ?_)
              · refine o_iinc hC dX8_run_160 (by rfl) (rl_inc _) (Nat.le_of_ble_eq_true rfl) ?_
                refine o_goto (tgt := 134) hC dX8_run_163 (by decide) ?_
                first
                | exact ih (t + 1) _ _ _ _ (by omega) (hq1.tr q157)
                | exact ih (t + 1) _ _ _ _ (by omega) hq1
              · refine o_aload_n hC dX8_run_155 (by rfl) ?_
                refine o_iload_n hC dX8_run_156 (by rfl) ?_
                refine o_callV1 hC rl_BW_good rl_Ns_nw (by exact hB.2.2.2.2.2) YX8_make IX8_make VX8_make (mX8_193 hC) (by rw [hB.1]; exact cm_X8_make l D ids H0 _ _ m _ _ _ S t z.2.2.1 hq1.rf hs1 (by omega) (hnv t (by omega)) hrr hr36) (by exact hq1.1) rfl rfl (Nat.le_of_ble_eq_true rfl) (by rw [hB.2.1]; first | exact Nat.le_of_ble_eq_true rfl | (dsimp only; omega)) (by rw [hB.2.1]; first | exact Nat.le_of_ble_eq_true rfl | (dsimp only; omega)) (by rw [hB.2.1]; first | exact Nat.le_of_ble_eq_true rfl | (dsimp only; omega)) (by rw [hB.2.1]; first | exact Nat.le_of_ble_eq_true rfl | (dsimp only; omega)) dX8_run_157 (fun v h_157 n_157 p_157 => ?_)
                obtain ⟨rfl, rfl, f157, k157, q157⟩ := p_157
                try dsimp only [Option.toList, List.cons_append, List.nil_append]
                refine o_iinc hC dX8_run_160 (by rfl) (rl_inc _) (Nat.le_of_ble_eq_true rfl) ?_
                refine o_goto (tgt := 134) hC dX8_run_163 (by decide) ?_
                first
                | exact ih (t + 1) _ _ _ _ (by omega) (hq1.tr q157)
                | exact ih (t + 1) _ _ _ _ (by omega) hq1
      have loop2 : ∀ (t : Nat) (h1 : rl_H) (f1 : Int32) (k1 : Nat) (o3 : Option Value), t ≤ j + 1 → mq ids h h1 m (nI 0, T.2) f1 k1 → rl_G X (rl_e D ids H0) 50 [some (.ref m), some (.int (nI j)), some (.int (nI t + Int32.ofInt (-1))), o3] [] h1 n_7 0 0 := by
        intro t
        induction t with
        | zero =>
          intro h1 f1 k1 o3 ht hq1
          refine o_iload_n hC dX8_run_50 (by rfl) ?_
          refine o_if_lt (tgt := 132) hC dX8_run_51 (by decide) (fun c_51 => ?_) (fun c_51 => ?_)
          · refine o_iconst (v := nI 0) hC dX8_run_132 (by decide +kernel) ?_
            refine o_istore_n hC dX8_run_133 (Nat.le_of_ble_eq_true rfl) ?_
            exact loop3 (j + 1) 0 _ _ _ _ (by omega) hq1
          · exact absurd (by decide +kernel) c_51
        | succ t ih =>
          intro h1 f1 k1 o3 ht hq1
          rw [rl_dec t]
          have hs1 := hq1.sa hs
          obtain ⟨g0, gk, ⟨⟨cl, g12⟩, ⟨tu, g13, b13⟩, ⟨im, g14⟩, ⟨te, g15, b15⟩, ⟨ne, g16⟩, ⟨la, g17⟩, ⟨hn, g18⟩, ⟨hl, g19⟩, ⟨tp, g20⟩, ⟨gr, g21, b21⟩, ⟨it, g22⟩⟩, gf⟩ := id hq1
          obtain ⟨a1, a2, a3, a4, a5, a6, a7, a8, a9, a10, a11⟩ := id hs1
          obtain ⟨op, w0, h1_, h2_, h3_, h4_, h5_, h6_, -⟩ := hnv t (by omega)
          refine o_iload_n hC dX8_run_50 (by rfl) ?_
          refine o_if_lt (tgt := 132) hC dX8_run_51 (by decide) (fun c_51 => ?_) (fun c_51 => ?_)
          · exact absurd c_51 (nI_pos (by omega))
          · refine o_aload_n hC dX8_run_54 (by rfl) ?_
            refine o_getf hC (fX8_49 hC rfl) dX8_run_55 (by repeat (first | with_reducible assumption | (rw [rl_u_s]; done) | (rw [rl_u_s]; rfl) | rw [rl_u_n (by first | with_reducible assumption | omega)])) (by first | rfl | with_reducible assumption) ?_
            refine o_iload_n hC dX8_run_58 (by rfl) ?_
            refine o_zaldN (t0 := 2) hC rfl dX8_run_59 (by repeat (first | with_reducible assumption | (rw [rl_u_s]; done) | (rw [rl_u_s]; rfl) | rw [rl_u_n (by first | with_reducible assumption | omega)])) (by omega) (by decide) ?_
            refine o_if_eq (tgt := 126) hC dX8_run_60 (by decide) (fun c_60 => ?_) (fun c_60 => ?_)
            · refine o_iinc hC dX8_run_126 (by rfl) rfl (Nat.le_of_ble_eq_true rfl) ?_
              refine o_goto (tgt := 50) hC dX8_run_129 (by decide) ?_
              first
              | exact ih _ _ _ _ (by omega) ((hq1.s14 _).s14 _)
              | exact ih _ _ _ _ (by omega) (hq1.s14 _)
              | exact ih _ _ _ _ (by omega) hq1
            · refine o_aload_n hC dX8_run_63 (by rfl) ?_
              refine o_getf hC (fX8_19 hC rfl) dX8_run_64 (by repeat (first | with_reducible assumption | (rw [rl_u_s]; done) | (rw [rl_u_s]; rfl) | rw [rl_u_n (by first | with_reducible assumption | omega)])) (by first | rfl | with_reducible assumption) ?_
              refine o_iload_n hC dX8_run_67 (by rfl) ?_
              refine o_ialdN (t0 := 0) (k := t) hC rfl dX8_run_68 (by repeat (first | with_reducible assumption | (rw [rl_u_s]; done) | (rw [rl_u_s]; rfl) | rw [rl_u_n (by first | with_reducible assumption | omega)])) (by omega) (by decide) ?_
              rw [h4_]
              refine o_if_eq (tgt := 126) hC dX8_run_69 (by decide) (fun c_69 => ?_) (fun c_69 => ?_)
              · refine o_iinc hC dX8_run_126 (by rfl) rfl (Nat.le_of_ble_eq_true rfl) ?_
                refine o_goto (tgt := 50) hC dX8_run_129 (by decide) ?_
                first
                | exact ih _ _ _ _ (by omega) ((hq1.s14 _).s14 _)
                | exact ih _ _ _ _ (by omega) (hq1.s14 _)
                | exact ih _ _ _ _ (by omega) hq1
              · have op1 : 1 ≤ op := Nat.pos_of_ne_zero (fun e => c_69 (by rw [e]; rfl))
                obtain ⟨b, wb, i1, i2, i3, i4, i5⟩ := h6_ op1
                refine o_aload_n hC dX8_run_72 (by rfl) ?_
                refine o_getf hC (fX8_49 hC rfl) dX8_run_73 (by repeat (first | with_reducible assumption | (rw [rl_u_s]; done) | (rw [rl_u_s]; rfl) | rw [rl_u_n (by first | with_reducible assumption | omega)])) (by first | rfl | with_reducible assumption) ?_
                refine o_aload_n hC dX8_run_76 (by rfl) ?_
                refine o_getf hC (fX8_22 hC rfl) dX8_run_77 (by repeat (first | with_reducible assumption | (rw [rl_u_s]; done) | (rw [rl_u_s]; rfl) | rw [rl_u_n (by first | with_reducible assumption | omega)])) (by first | rfl | with_reducible assumption) ?_
                refine o_iload_n hC dX8_run_80 (by rfl) ?_
                refine o_ialdN (t0 := 0) (k := t) hC rfl dX8_run_81 (by repeat (first | with_reducible assumption | (rw [rl_u_s]; done) | (rw [rl_u_s]; rfl) | rw [rl_u_n (by first | with_reducible assumption | omega)])) (by omega) (by decide) ?_
                rw [i3]
                refine o_iconst (v := nI 1) hC dX8_run_82 (by decide +kernel) ?_
                refine o_zastN (t0 := 2) hC rfl dX8_run_83 (by repeat (first | with_reducible assumption | (rw [rl_u_s]; done) | (rw [rl_u_s]; rfl) | rw [rl_u_n (by first | with_reducible assumption | omega)])) (by omega) (by decide) ?_
                refine o_aload_n hC dX8_run_84 (by rfl) ?_
                refine o_getf hC (fX8_19 hC rfl) dX8_run_85 (by repeat (first | with_reducible assumption | (rw [rl_u_s]; done) | (rw [rl_u_s]; rfl) | rw [rl_u_n (by first | with_reducible assumption | omega)])) (by first | rfl | with_reducible assumption) ?_
                refine o_iload_n hC dX8_run_88 (by rfl) ?_
                refine o_ialdN (t0 := 0) (k := t) hC rfl dX8_run_89 (by repeat (first | with_reducible assumption | (rw [rl_u_s]; done) | (rw [rl_u_s]; rfl) | rw [rl_u_n (by first | with_reducible assumption | omega)])) (by omega) (by decide) ?_
                rw [h4_]
                refine o_iconst (v := nI 3) hC dX8_run_90 (by decide +kernel) ?_
                refine o_icmp_eq (tgt := 114) hC dX8_run_91 (by decide) (fun c_91 => ?_) (fun c_91 => ?_)
                · have o345 : op = 3 ∨ op = 4 ∨ op = 5 := by
                    first
                    | exact Or.inl (nI_inj2 (by omega) (by decide) c_91)
                    | exact Or.inr (Or.inl (nI_inj2 (by omega) (by decide) c_101))
                    | exact Or.inr (Or.inr (nI_inj2 (by omega) (by decide) c_111))
                  obtain ⟨d, wd, j1, j2, j3, j4, j5⟩ := i5 o345
                  refine o_aload_n hC dX8_run_114 (by rfl) ?_
                  refine o_getf hC (fX8_49 hC rfl) dX8_run_115 (by repeat (first | with_reducible assumption | (rw [rl_u_s]; done) | (rw [rl_u_s]; rfl) | rw [rl_u_n (by first | with_reducible assumption | omega)])) (by first | rfl | with_reducible assumption) ?_
                  refine o_aload_n hC dX8_run_118 (by rfl) ?_
                  refine o_getf hC (fX8_25 hC rfl) dX8_run_119 (by repeat (first | with_reducible assumption | (rw [rl_u_s]; done) | (rw [rl_u_s]; rfl) | rw [rl_u_n (by first | with_reducible assumption | omega)])) (by first | rfl | with_reducible assumption) ?_
                  refine o_iload_n hC dX8_run_122 (by rfl) ?_
                  refine o_ialdN (t0 := 0) (k := t) hC rfl dX8_run_123 (by repeat (first | with_reducible assumption | (rw [rl_u_s]; done) | (rw [rl_u_s]; rfl) | rw [rl_u_n (by first | with_reducible assumption | omega)])) (by omega) (by decide) ?_
                  rw [j3]
                  refine o_iconst (v := nI 1) hC dX8_run_124 (by decide +kernel) ?_
                  refine o_zastN (t0 := 2) hC rfl dX8_run_125 (by repeat (first | with_reducible assumption | (rw [rl_u_s]; done) | (rw [rl_u_s]; rfl) | rw [rl_u_n (by first | with_reducible assumption | omega)])) (by omega) (by decide) ?_
                  refine o_iinc hC dX8_run_126 (by rfl) rfl (Nat.le_of_ble_eq_true rfl) ?_
                  refine o_goto (tgt := 50) hC dX8_run_129 (by decide) ?_
                  first
                  | exact ih _ _ _ _ (by omega) ((hq1.s14 _).s14 _)
                  | exact ih _ _ _ _ (by omega) (hq1.s14 _)
                  | exact ih _ _ _ _ (by omega) hq1
                · refine o_aload_n hC dX8_run_94 (by rfl) ?_
                  refine o_getf hC (fX8_19 hC rfl) dX8_run_95 (by repeat (first | with_reducible assumption | (rw [rl_u_s]; done) | (rw [rl_u_s]; rfl) | rw [rl_u_n (by first | with_reducible assumption | omega)])) (by first | rfl | with_reducible assumption) ?_
                  refine o_iload_n hC dX8_run_98 (by rfl) ?_
                  refine o_ialdN (t0 := 0) (k := t) hC rfl dX8_run_99 (by repeat (first | with_reducible assumption | (rw [rl_u_s]; done) | (rw [rl_u_s]; rfl) | rw [rl_u_n (by first | with_reducible assumption | omega)])) (by omega) (by decide) ?_
                  rw [h4_]
                  refine o_iconst (v := nI 4) hC dX8_run_100 (by decide +kernel) ?_
                  refine o_icmp_eq (tgt := 114) hC dX8_run_101 (by decide) (fun c_101 => ?_) (fun c_101 => ?_)
                  · have o345 : op = 3 ∨ op = 4 ∨ op = 5 := by
                      first
                      | exact Or.inl (nI_inj2 (by omega) (by decide) c_91)
                      | exact Or.inr (Or.inl (nI_inj2 (by omega) (by decide) c_101))
                      | exact Or.inr (Or.inr (nI_inj2 (by omega) (by decide) c_111))
                    obtain ⟨d, wd, j1, j2, j3, j4, j5⟩ := i5 o345
                    refine o_aload_n hC dX8_run_114 (by rfl) ?_
                    refine o_getf hC (fX8_49 hC rfl) dX8_run_115 (by repeat (first | with_reducible assumption | (rw [rl_u_s]; done) | (rw [rl_u_s]; rfl) | rw [rl_u_n (by first | with_reducible assumption | omega)])) (by first | rfl | with_reducible assumption) ?_
                    refine o_aload_n hC dX8_run_118 (by rfl) ?_
                    refine o_getf hC (fX8_25 hC rfl) dX8_run_119 (by repeat (first | with_reducible assumption | (rw [rl_u_s]; done) | (rw [rl_u_s]; rfl) | rw [rl_u_n (by first | with_reducible assumption | omega)])) (by first | rfl | with_reducible assumption) ?_
                    refine o_iload_n hC dX8_run_122 (by rfl) ?_
                    refine o_ialdN (t0 := 0) (k := t) hC rfl dX8_run_123 (by repeat (first | with_reducible assumption | (rw [rl_u_s]; done) | (rw [rl_u_s]; rfl) | rw [rl_u_n (by first | with_reducible assumption | omega)])) (by omega) (by decide) ?_
                    rw [j3]
                    refine o_iconst (v := nI 1) hC dX8_run_124 (by decide +kernel) ?_
                    refine o_zastN (t0 := 2) hC rfl dX8_run_125 (by repeat (first | with_reducible assumption | (rw [rl_u_s]; done) | (rw [rl_u_s]; rfl) | rw [rl_u_n (by first | with_reducible assumption | omega)])) (by omega) (by decide) ?_
                    refine o_iinc hC dX8_run_126 (by rfl) rfl (Nat.le_of_ble_eq_true rfl) ?_
                    refine o_goto (tgt := 50) hC dX8_run_129 (by decide) ?_
                    first
                    | exact ih _ _ _ _ (by omega) ((hq1.s14 _).s14 _)
                    | exact ih _ _ _ _ (by omega) (hq1.s14 _)
                    | exact ih _ _ _ _ (by omega) hq1
                  · refine o_aload_n hC dX8_run_104 (by rfl) ?_
                    refine o_getf hC (fX8_19 hC rfl) dX8_run_105 (by repeat (first | with_reducible assumption | (rw [rl_u_s]; done) | (rw [rl_u_s]; rfl) | rw [rl_u_n (by first | with_reducible assumption | omega)])) (by first | rfl | with_reducible assumption) ?_
                    refine o_iload_n hC dX8_run_108 (by rfl) ?_
                    refine o_ialdN (t0 := 0) (k := t) hC rfl dX8_run_109 (by repeat (first | with_reducible assumption | (rw [rl_u_s]; done) | (rw [rl_u_s]; rfl) | rw [rl_u_n (by first | with_reducible assumption | omega)])) (by omega) (by decide) ?_
                    rw [h4_]
                    refine o_iconst (v := nI 5) hC dX8_run_110 (by decide +kernel) ?_
                    refine o_icmp_ne (tgt := 126) hC dX8_run_111 (by decide) (fun c_111 => ?_) (fun c_111 => ?_)
                    · refine o_iinc hC dX8_run_126 (by rfl) rfl (Nat.le_of_ble_eq_true rfl) ?_
                      refine o_goto (tgt := 50) hC dX8_run_129 (by decide) ?_
                      first
                      | exact ih _ _ _ _ (by omega) ((hq1.s14 _).s14 _)
                      | exact ih _ _ _ _ (by omega) (hq1.s14 _)
                      | exact ih _ _ _ _ (by omega) hq1
                    · have o345 : op = 3 ∨ op = 4 ∨ op = 5 := by
                        first
                        | exact Or.inl (nI_inj2 (by omega) (by decide) c_91)
                        | exact Or.inr (Or.inl (nI_inj2 (by omega) (by decide) c_101))
                        | exact Or.inr (Or.inr (nI_inj2 (by omega) (by decide) c_111))
                      obtain ⟨d, wd, j1, j2, j3, j4, j5⟩ := i5 o345
                      refine o_aload_n hC dX8_run_114 (by rfl) ?_
                      refine o_getf hC (fX8_49 hC rfl) dX8_run_115 (by repeat (first | with_reducible assumption | (rw [rl_u_s]; done) | (rw [rl_u_s]; rfl) | rw [rl_u_n (by first | with_reducible assumption | omega)])) (by first | rfl | with_reducible assumption) ?_
                      refine o_aload_n hC dX8_run_118 (by rfl) ?_
                      refine o_getf hC (fX8_25 hC rfl) dX8_run_119 (by repeat (first | with_reducible assumption | (rw [rl_u_s]; done) | (rw [rl_u_s]; rfl) | rw [rl_u_n (by first | with_reducible assumption | omega)])) (by first | rfl | with_reducible assumption) ?_
                      refine o_iload_n hC dX8_run_122 (by rfl) ?_
                      refine o_ialdN (t0 := 0) (k := t) hC rfl dX8_run_123 (by repeat (first | with_reducible assumption | (rw [rl_u_s]; done) | (rw [rl_u_s]; rfl) | rw [rl_u_n (by first | with_reducible assumption | omega)])) (by omega) (by decide) ?_
                      rw [j3]
                      refine o_iconst (v := nI 1) hC dX8_run_124 (by decide +kernel) ?_
                      refine o_zastN (t0 := 2) hC rfl dX8_run_125 (by repeat (first | with_reducible assumption | (rw [rl_u_s]; done) | (rw [rl_u_s]; rfl) | rw [rl_u_n (by first | with_reducible assumption | omega)])) (by omega) (by decide) ?_
                      refine o_iinc hC dX8_run_126 (by rfl) rfl (Nat.le_of_ble_eq_true rfl) ?_
                      refine o_goto (tgt := 50) hC dX8_run_129 (by decide) ?_
                      first
                      | exact ih _ _ _ _ (by omega) ((hq1.s14 _).s14 _)
                      | exact ih _ _ _ _ (by omega) (hq1.s14 _)
                      | exact ih _ _ _ _ (by omega) hq1
      have loop1 : ∀ (mm i : Nat) (h1 : rl_H) (f1 : Int32) (k1 : Nat) (o3 : Option Value), i + mm = 16 → mq ids h h1 m (nI 0, T.2) f1 k1 → rl_G X (rl_e D ids H0) 22 [some (.ref m), some (.int (nI j)), some (.int (nI i)), o3] [] h1 n_7 0 0 := by
        intro mm
        induction mm with
        | zero =>
          intro i h1 f1 k1 o3 hm hq1
          obtain ⟨g0, gk, ⟨⟨cl, g12⟩, ⟨tu, g13, b13⟩, ⟨im, g14⟩, ⟨te, g15, b15⟩, ⟨ne, g16⟩, ⟨la, g17⟩, ⟨hn, g18⟩, ⟨hl, g19⟩, ⟨tp, g20⟩, ⟨gr, g21, b21⟩, ⟨it, g22⟩⟩, gf⟩ := id hq1
          refine o_iload_n hC dX8_run_22 (by rfl) ?_
          refine o_bipush (v := nI 16) hC dX8_run_23 (by decide +kernel) ?_
          refine o_icmp_ge (tgt := 41) hC dX8_run_25 (by decide) (fun c_25 => ?_) (fun c_25 => ?_)
          · refine o_aload_n hC dX8_run_41 (by rfl) ?_
            refine o_getf hC (fX8_49 hC rfl) dX8_run_42 (by repeat (first | with_reducible assumption | (rw [rl_u_s]; done) | (rw [rl_u_s]; rfl) | rw [rl_u_n (by first | with_reducible assumption | omega)])) (by first | rfl | with_reducible assumption) ?_
            refine o_iload_n hC dX8_run_45 (by rfl) ?_
            refine o_iconst (v := nI 1) hC dX8_run_46 (by decide +kernel) ?_
            refine o_zastN (t0 := 2) hC rfl dX8_run_47 (by repeat (first | with_reducible assumption | (rw [rl_u_s]; done) | (rw [rl_u_s]; rfl) | rw [rl_u_n (by first | with_reducible assumption | omega)])) (by omega) (by decide) ?_
            refine o_iload_n hC dX8_run_48 (by rfl) ?_
            refine o_istore_n hC dX8_run_49 (Nat.le_of_ble_eq_true rfl) ?_
            have lp := loop2 (j + 1) _ _ _ o3 (Nat.le_refl _) (hq1.s14 (upd im j (vp_nar .boolean (nI 1))))
            rw [rl_dec j] at lp
            exact lp
          · exact absurd (nI_le (by omega) (by omega)) c_25
        | succ mm ih =>
          intro i h1 f1 k1 o3 hm hq1
          obtain ⟨g0, gk, ⟨⟨cl, g12⟩, ⟨tu, g13, b13⟩, ⟨im, g14⟩, ⟨te, g15, b15⟩, ⟨ne, g16⟩, ⟨la, g17⟩, ⟨hn, g18⟩, ⟨hl, g19⟩, ⟨tp, g20⟩, ⟨gr, g21, b21⟩, ⟨it, g22⟩⟩, gf⟩ := id hq1
          refine o_iload_n hC dX8_run_22 (by rfl) ?_
          refine o_bipush (v := nI 16) hC dX8_run_23 (by decide +kernel) ?_
          refine o_icmp_ge (tgt := 41) hC dX8_run_25 (by decide) (fun c_25 => ?_) (fun c_25 => ?_)
          · exact absurd c_25 (nI_ge (by omega) (by omega))
          · refine o_aload_n hC dX8_run_28 (by rfl) ?_
            refine o_getf hC (fX8_49 hC rfl) dX8_run_29 (by repeat (first | with_reducible assumption | (rw [rl_u_s]; done) | (rw [rl_u_s]; rfl) | rw [rl_u_n (by first | with_reducible assumption | omega)])) (by first | rfl | with_reducible assumption) ?_
            refine o_iload_n hC dX8_run_32 (by rfl) ?_
            refine o_iconst (v := nI 0) hC dX8_run_33 (by decide +kernel) ?_
            refine o_zastN (t0 := 2) hC rfl dX8_run_34 (by repeat (first | with_reducible assumption | (rw [rl_u_s]; done) | (rw [rl_u_s]; rfl) | rw [rl_u_n (by first | with_reducible assumption | omega)])) (by omega) (by decide) ?_
            refine o_iinc hC dX8_run_35 (by rfl) (rl_inc _) (Nat.le_of_ble_eq_true rfl) ?_
            refine o_goto (tgt := 22) hC dX8_run_38 (by decide) ?_
            exact ih (i + 1) _ _ _ _ (by omega) (hq1.s14 _)
      exact loop1 16 0 _ _ _ _ (by omega) (hq0.ob (nI 0, T.2) (nI 0) k hq.2.1)
    · exact absurd c_10 (by decide +kernel)
