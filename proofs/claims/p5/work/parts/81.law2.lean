/-! THE LAW over long scripts: each case, the switch, the loop, the start -/

set_option maxHeartbeats 4000000 in
set_option maxRecDepth 100000 in
theorem lg_c0 (l : Launch) (hl : l.stackTraces = false) (D : va_G) (ids : Nat → ClassId) (H0 : Heap) {b x L j : Nat} {xs : Nat → Int32} {X : rl_X} (hC : rl_C X (rl_e D ids H0) cL_law RL rl_BW rl_Ns) (hB : lw_B X (rl_e D ids H0) l b L xs) (hL : L ≤ 3072) (hj : 6 * j + 6 ≤ L) {h : rl_H} {n ce sl : Nat} {a5 a6 a7 : Option Value} (hg : lg_ok ids h n x) (hce : ce + 403 ≤ 601024) (hsl : sl + 2892 ≤ 7293034) (nx : ∀ (h' : rl_H) (n' : Nat) (a5 a6 a7 : Option Value), lg_ok ids h' n' x → rl_G X (rl_e D ids H0) 1068 [some (.ref b), some (.ref x), some (.ref (x + 70)), some (.ref (x + 93)), some (.int (nI (6 * j))), a5, a6, a7] [] h' n' (ce + 403) (sl + 2892)) : rl_G X (rl_e D ids H0) 152 [some (.ref b), some (.ref x), some (.ref (x + 70)), some (.ref (x + 93)), some (.int (nI (6 * j))), a5, a6, a7] [] h n ce sl := by
  obtain ⟨s, c, z, hk, hR, hm, of, hou⟩ := id hg
  refine o_aload_n hC dL_law_152 (by rfl) ?_
  refine o_aload_n hC dL_law_153 (by rfl) ?_
  refine o_iload hC dL_law_154 (by rfl) ?_
  refine o_iconst (v := nI 1) hC dL_law_156 (by decide +kernel) ?_
  refine o_iadd hC dL_law_157 ?_
  rw [nI_add]
  refine o_sld (k := 6 * j + 1) hC hB (by omega) (by omega) dL_law_158 ?_
  refine o_callV1 hC rl_BW_good rl_Ns_nw (by exact hB.2.2.2.2.2) YX7_source IX7_source VX7_source (mL_25 hC) (by rw [hB.1]; exact cg_X7_source l D ids H0 _ _ x s c _ hk.1) (by exact hk.1.1) rfl rfl (Nat.le_of_ble_eq_true rfl) (by rw [hB.2.1]; first | exact Nat.le_of_ble_eq_true rfl | (dsimp only; omega)) (by rw [hB.2.1]; first | exact Nat.le_of_ble_eq_true rfl | (dsimp only; omega)) (by rw [hB.2.1]; show ce + 0 ≤ 601024; omega) (by rw [hB.2.1]; show sl + 0 ≤ 7293034; omega) dL_law_159 (fun v h_159 n_159 p_159 => ?_)
  obtain ⟨r1, rfl, rfl, w1⟩ := p_159
  obtain ⟨s2, hkA, hRA, e1, frA⟩ := cl_src hk hR w1
  have hmA : md_ok ids h_159 (x + 70) z := hm.cl frA
  obtain ⟨T, fu, k, S, hu⟩ := hmA
  try dsimp only [Option.toList, List.cons_append, List.nil_append]
  refine o_pop hC dL_law_162 rfl ?_
  refine o_aload_n hC dL_law_163 (by rfl) ?_
  refine o_aload_n hC dL_law_164 (by rfl) ?_
  refine o_iload hC dL_law_165 (by rfl) ?_
  refine o_iconst (v := nI 1) hC dL_law_167 (by decide +kernel) ?_
  refine o_iadd hC dL_law_168 ?_
  rw [nI_add]
  refine o_sld (k := 6 * j + 1) hC hB (by omega) (by omega) dL_law_169 ?_
  refine o_callV1 hC rl_BW_good rl_Ns_nw (by exact hB.2.2.2.2.2) YX8_source IX8_source VX8_source (mL_29 hC) (by rw [hB.1]; exact cm_X8_source l D ids H0 _ _ (x + 70) T fu k S z _ hu) (by exact hu.1.1) rfl rfl (Nat.le_of_ble_eq_true rfl) (by rw [hB.2.1]; first | exact Nat.le_of_ble_eq_true rfl | (dsimp only; omega)) (by rw [hB.2.1]; first | exact Nat.le_of_ble_eq_true rfl | (dsimp only; omega)) (by rw [hB.2.1]; show ce + 0 + 0 ≤ 601024; omega) (by rw [hB.2.1]; show sl + 0 + 0 ≤ 7293034; omega) dL_law_170 (fun v h_170 n_170 p_170 => ?_)
  obtain ⟨r2, rfl, rfl, hmB, e2, frB⟩ := p_170
  replace hmB := hmB.ok
  try dsimp only [Option.toList, List.cons_append, List.nil_append]
  refine o_pop hC dL_law_173 rfl ?_
  refine o_goto (tgt := 1068) hC dL_law_174 (by decide) ?_
  refine rl_G.widen (ce' := ce + 403) (sl' := sl + 2892) (by omega) (by omega) ?_
  exact nx _ _ _ _ _ (lg_ok.of hou frA hkA hRA hmB frB)

set_option maxHeartbeats 4000000 in
set_option maxRecDepth 100000 in
theorem lg_c1 (l : Launch) (hl : l.stackTraces = false) (D : va_G) (ids : Nat → ClassId) (H0 : Heap) {b x L j : Nat} {xs : Nat → Int32} {X : rl_X} (hC : rl_C X (rl_e D ids H0) cL_law RL rl_BW rl_Ns) (hB : lw_B X (rl_e D ids H0) l b L xs) (hL : L ≤ 3072) (hj : 6 * j + 6 ≤ L) {h : rl_H} {n ce sl : Nat} {a5 a6 a7 : Option Value} (hg : lg_ok ids h n x) (hce : ce + 403 ≤ 601024) (hsl : sl + 2892 ≤ 7293034) (nx : ∀ (h' : rl_H) (n' : Nat) (a5 a6 a7 : Option Value), lg_ok ids h' n' x → rl_G X (rl_e D ids H0) 1068 [some (.ref b), some (.ref x), some (.ref (x + 70)), some (.ref (x + 93)), some (.int (nI (6 * j))), a5, a6, a7] [] h' n' (ce + 403) (sl + 2892)) : rl_G X (rl_e D ids H0) 177 [some (.ref b), some (.ref x), some (.ref (x + 70)), some (.ref (x + 93)), some (.int (nI (6 * j))), a5, a6, a7] [] h n ce sl := by
  obtain ⟨s, c, z, hk, hR, hm, of, hou⟩ := id hg
  refine o_aload_n hC dL_law_177 (by rfl) ?_
  refine o_aload_n hC dL_law_178 (by rfl) ?_
  refine o_iload hC dL_law_179 (by rfl) ?_
  refine o_iconst (v := nI 1) hC dL_law_181 (by decide +kernel) ?_
  refine o_iadd hC dL_law_182 ?_
  rw [nI_add]
  refine o_sld (k := 6 * j + 1) hC hB (by omega) (by omega) dL_law_183 ?_
  refine o_aload_n hC dL_law_184 (by rfl) ?_
  refine o_iload hC dL_law_185 (by rfl) ?_
  refine o_iconst (v := nI 2) hC dL_law_187 (by decide +kernel) ?_
  refine o_iadd hC dL_law_188 ?_
  rw [nI_add]
  refine o_sld (k := 6 * j + 2) hC hB (by omega) (by omega) dL_law_189 ?_
  refine o_aload_n hC dL_law_190 (by rfl) ?_
  refine o_iload hC dL_law_191 (by rfl) ?_
  refine o_iconst (v := nI 3) hC dL_law_193 (by decide +kernel) ?_
  refine o_iadd hC dL_law_194 ?_
  rw [nI_add]
  refine o_sld (k := 6 * j + 3) hC hB (by omega) (by omega) dL_law_195 ?_
  refine o_aload_n hC dL_law_196 (by rfl) ?_
  refine o_iload hC dL_law_197 (by rfl) ?_
  refine o_iconst (v := nI 4) hC dL_law_199 (by decide +kernel) ?_
  refine o_iadd hC dL_law_200 ?_
  rw [nI_add]
  refine o_sld (k := 6 * j + 4) hC hB (by omega) (by omega) dL_law_201 ?_
  refine o_aload_n hC dL_law_202 (by rfl) ?_
  refine o_iload hC dL_law_203 (by rfl) ?_
  refine o_iconst (v := nI 5) hC dL_law_205 (by decide +kernel) ?_
  refine o_iadd hC dL_law_206 ?_
  rw [nI_add]
  refine o_sld (k := 6 * j + 5) hC hB (by omega) (by omega) dL_law_207 ?_
  refine o_callV5 hC rl_BW_good rl_Ns_nw (by exact hB.2.2.2.2.2) YX7_row IX7_row VX7_row (mL_30 hC) (by rw [hB.1]; exact cg_X7_row l D ids H0 _ _ x s c _ _ _ _ _ hk.1) (by exact hk.1.1) rfl rfl (Nat.le_of_ble_eq_true rfl) (by rw [hB.2.1]; first | exact Nat.le_of_ble_eq_true rfl | (dsimp only; omega)) (by rw [hB.2.1]; first | exact Nat.le_of_ble_eq_true rfl | (dsimp only; omega)) (by rw [hB.2.1]; show ce + 0 ≤ 601024; omega) (by rw [hB.2.1]; show sl + 0 ≤ 7293034; omega) dL_law_208 (fun v h_208 n_208 p_208 => ?_)
  obtain ⟨r1, rfl, rfl, w1⟩ := p_208
  obtain ⟨s2, c2, hkA, hRA, e1, frA⟩ := cl_rw hk hR w1
  have hmA : md_ok ids h_208 (x + 70) z := hm.cl frA
  obtain ⟨T, fu, k, S, hu⟩ := hmA
  try dsimp only [Option.toList, List.cons_append, List.nil_append]
  refine o_pop hC dL_law_211 rfl ?_
  refine o_aload_n hC dL_law_212 (by rfl) ?_
  refine o_aload_n hC dL_law_213 (by rfl) ?_
  refine o_iload hC dL_law_214 (by rfl) ?_
  refine o_iconst (v := nI 1) hC dL_law_216 (by decide +kernel) ?_
  refine o_iadd hC dL_law_217 ?_
  rw [nI_add]
  refine o_sld (k := 6 * j + 1) hC hB (by omega) (by omega) dL_law_218 ?_
  refine o_aload_n hC dL_law_219 (by rfl) ?_
  refine o_iload hC dL_law_220 (by rfl) ?_
  refine o_iconst (v := nI 2) hC dL_law_222 (by decide +kernel) ?_
  refine o_iadd hC dL_law_223 ?_
  rw [nI_add]
  refine o_sld (k := 6 * j + 2) hC hB (by omega) (by omega) dL_law_224 ?_
  refine o_aload_n hC dL_law_225 (by rfl) ?_
  refine o_iload hC dL_law_226 (by rfl) ?_
  refine o_iconst (v := nI 3) hC dL_law_228 (by decide +kernel) ?_
  refine o_iadd hC dL_law_229 ?_
  rw [nI_add]
  refine o_sld (k := 6 * j + 3) hC hB (by omega) (by omega) dL_law_230 ?_
  refine o_aload_n hC dL_law_231 (by rfl) ?_
  refine o_iload hC dL_law_232 (by rfl) ?_
  refine o_iconst (v := nI 4) hC dL_law_234 (by decide +kernel) ?_
  refine o_iadd hC dL_law_235 ?_
  rw [nI_add]
  refine o_sld (k := 6 * j + 4) hC hB (by omega) (by omega) dL_law_236 ?_
  refine o_aload_n hC dL_law_237 (by rfl) ?_
  refine o_iload hC dL_law_238 (by rfl) ?_
  refine o_iconst (v := nI 5) hC dL_law_240 (by decide +kernel) ?_
  refine o_iadd hC dL_law_241 ?_
  rw [nI_add]
  refine o_sld (k := 6 * j + 5) hC hB (by omega) (by omega) dL_law_242 ?_
  refine o_callV5 hC rl_BW_good rl_Ns_nw (by exact hB.2.2.2.2.2) YX8_row IX8_row VX8_row (mL_34 hC) (by rw [hB.1]; exact cm_X8_row l D ids H0 _ _ (x + 70) T fu k S z _ _ _ _ _ hu) (by exact hu.1.1) rfl rfl (Nat.le_of_ble_eq_true rfl) (by rw [hB.2.1]; first | exact Nat.le_of_ble_eq_true rfl | (dsimp only; omega)) (by rw [hB.2.1]; first | exact Nat.le_of_ble_eq_true rfl | (dsimp only; omega)) (by rw [hB.2.1]; show ce + 0 + 0 ≤ 601024; omega) (by rw [hB.2.1]; show sl + 0 + 0 ≤ 7293034; omega) dL_law_243 (fun v h_243 n_243 p_243 => ?_)
  obtain ⟨r2, rfl, rfl, hmB, e2, frB⟩ := p_243
  replace hmB := hmB.ok
  try dsimp only [Option.toList, List.cons_append, List.nil_append]
  refine o_pop hC dL_law_246 rfl ?_
  refine o_goto (tgt := 1068) hC dL_law_247 (by decide) ?_
  refine rl_G.widen (ce' := ce + 403) (sl' := sl + 2892) (by omega) (by omega) ?_
  exact nx _ _ _ _ _ (lg_ok.of hou frA hkA hRA hmB frB)

set_option maxHeartbeats 4000000 in
set_option maxRecDepth 100000 in
theorem lg_c2 (l : Launch) (hl : l.stackTraces = false) (D : va_G) (ids : Nat → ClassId) (H0 : Heap) {b x L j : Nat} {xs : Nat → Int32} {X : rl_X} (hC : rl_C X (rl_e D ids H0) cL_law RL rl_BW rl_Ns) (hB : lw_B X (rl_e D ids H0) l b L xs) (hL : L ≤ 3072) (hj : 6 * j + 6 ≤ L) {h : rl_H} {n ce sl : Nat} {a5 a6 a7 : Option Value} (hg : lg_ok ids h n x) (hce : ce + 403 ≤ 601024) (hsl : sl + 2892 ≤ 7293034) (nx : ∀ (h' : rl_H) (n' : Nat) (a5 a6 a7 : Option Value), lg_ok ids h' n' x → rl_G X (rl_e D ids H0) 1068 [some (.ref b), some (.ref x), some (.ref (x + 70)), some (.ref (x + 93)), some (.int (nI (6 * j))), a5, a6, a7] [] h' n' (ce + 403) (sl + 2892)) : rl_G X (rl_e D ids H0) 250 [some (.ref b), some (.ref x), some (.ref (x + 70)), some (.ref (x + 93)), some (.int (nI (6 * j))), a5, a6, a7] [] h n ce sl := by
  obtain ⟨s, c, z, hk, hR, hm, of, hou⟩ := id hg
  refine o_aload_n hC dL_law_250 (by rfl) ?_
  refine o_aload_n hC dL_law_251 (by rfl) ?_
  refine o_iload hC dL_law_252 (by rfl) ?_
  refine o_iconst (v := nI 1) hC dL_law_254 (by decide +kernel) ?_
  refine o_iadd hC dL_law_255 ?_
  rw [nI_add]
  refine o_sld (k := 6 * j + 1) hC hB (by omega) (by omega) dL_law_256 ?_
  refine o_callV1 hC rl_BW_good rl_Ns_nw (by exact hB.2.2.2.2.2) YX7_scan IX7_scan VX7_scan (mL_35 hC) (by rw [hB.1]; exact cg_X7_scan l D ids H0 _ _ x (x + 94) s c z _ hk hR) (by exact hk.1.1) rfl rfl (Nat.le_of_ble_eq_true rfl) (by rw [hB.2.1]; first | exact Nat.le_of_ble_eq_true rfl | (dsimp only; omega)) (by rw [hB.2.1]; first | exact Nat.le_of_ble_eq_true rfl | (dsimp only; omega)) (by rw [hB.2.1]; show ce + 403 ≤ 601024; omega) (by rw [hB.2.1]; show sl + 2892 ≤ 7293034; omega) dL_law_257 (fun v h_257 n_257 p_257 => ?_)
  obtain ⟨r1, c2, rfl, n1, n2, hkA, hRA, e1, frA, -⟩ := p_257
  have hmA : md_ok ids h_257 (x + 70) z := hm.cl frA
  obtain ⟨T, fu, k, S, hu⟩ := hmA
  try dsimp only [Option.toList, List.cons_append, List.nil_append]
  refine o_pop hC dL_law_260 rfl ?_
  refine o_aload_n hC dL_law_261 (by rfl) ?_
  refine o_aload_n hC dL_law_262 (by rfl) ?_
  refine o_iload hC dL_law_263 (by rfl) ?_
  refine o_iconst (v := nI 1) hC dL_law_265 (by decide +kernel) ?_
  refine o_iadd hC dL_law_266 ?_
  rw [nI_add]
  refine o_sld (k := 6 * j + 1) hC hB (by omega) (by omega) dL_law_267 ?_
  refine o_callV1 hC rl_BW_good rl_Ns_nw (by exact hB.2.2.2.2.2) YX8_scan IX8_scan VX8_scan (mL_38 hC) (by rw [hB.1]; exact cm_X8_scan l D ids H0 _ _ (x + 70) T fu k S z _ hu) (by exact hu.1.1) rfl rfl (Nat.le_of_ble_eq_true rfl) (by rw [hB.2.1]; first | exact Nat.le_of_ble_eq_true rfl | (dsimp only; omega)) (by rw [hB.2.1]; first | exact Nat.le_of_ble_eq_true rfl | (dsimp only; omega)) (by rw [hB.2.1]; show ce + 403 + 0 ≤ 601024; omega) (by rw [hB.2.1]; show sl + 2892 + 0 ≤ 7293034; omega) dL_law_268 (fun v h_268 n_268 p_268 => ?_)
  obtain ⟨r2, rfl, rfl, hmB, e2, frB⟩ := p_268
  replace hmB := hmB.ok
  try dsimp only [Option.toList, List.cons_append, List.nil_append]
  refine o_pop hC dL_law_271 rfl ?_
  refine o_goto (tgt := 1068) hC dL_law_272 (by decide) ?_
  refine rl_G.widen (ce' := ce + 403) (sl' := sl + 2892) (by omega) (by omega) ?_
  exact nx _ _ _ _ _ (lg_ok.of hou frA hkA hRA hmB frB)

set_option maxHeartbeats 4000000 in
set_option maxRecDepth 100000 in
theorem lg_c3 (l : Launch) (hl : l.stackTraces = false) (D : va_G) (ids : Nat → ClassId) (H0 : Heap) {b x L j : Nat} {xs : Nat → Int32} {X : rl_X} (hC : rl_C X (rl_e D ids H0) cL_law RL rl_BW rl_Ns) (hB : lw_B X (rl_e D ids H0) l b L xs) (hL : L ≤ 3072) (hj : 6 * j + 6 ≤ L) {h : rl_H} {n ce sl : Nat} {a5 a6 a7 : Option Value} (hg : lg_ok ids h n x) (hce : ce + 403 ≤ 601024) (hsl : sl + 2892 ≤ 7293034) (nx : ∀ (h' : rl_H) (n' : Nat) (a5 a6 a7 : Option Value), lg_ok ids h' n' x → rl_G X (rl_e D ids H0) 1068 [some (.ref b), some (.ref x), some (.ref (x + 70)), some (.ref (x + 93)), some (.int (nI (6 * j))), a5, a6, a7] [] h' n' (ce + 403) (sl + 2892)) : rl_G X (rl_e D ids H0) 275 [some (.ref b), some (.ref x), some (.ref (x + 70)), some (.ref (x + 93)), some (.int (nI (6 * j))), a5, a6, a7] [] h n ce sl := by
  obtain ⟨s, c, z, hk, hR, hm, of, hou⟩ := id hg
  refine o_aload_n hC dL_law_275 (by rfl) ?_
  refine o_aload_n hC dL_law_276 (by rfl) ?_
  refine o_iload hC dL_law_277 (by rfl) ?_
  refine o_iconst (v := nI 1) hC dL_law_279 (by decide +kernel) ?_
  refine o_iadd hC dL_law_280 ?_
  rw [nI_add]
  refine o_sld (k := 6 * j + 1) hC hB (by omega) (by omega) dL_law_281 ?_
  refine o_aload_n hC dL_law_282 (by rfl) ?_
  refine o_iload hC dL_law_283 (by rfl) ?_
  refine o_iconst (v := nI 2) hC dL_law_285 (by decide +kernel) ?_
  refine o_iadd hC dL_law_286 ?_
  rw [nI_add]
  refine o_sld (k := 6 * j + 2) hC hB (by omega) (by omega) dL_law_287 ?_
  refine o_aload_n hC dL_law_288 (by rfl) ?_
  refine o_iload hC dL_law_289 (by rfl) ?_
  refine o_iconst (v := nI 3) hC dL_law_291 (by decide +kernel) ?_
  refine o_iadd hC dL_law_292 ?_
  rw [nI_add]
  refine o_sld (k := 6 * j + 3) hC hB (by omega) (by omega) dL_law_293 ?_
  refine o_aload_n hC dL_law_294 (by rfl) ?_
  refine o_iload hC dL_law_295 (by rfl) ?_
  refine o_iconst (v := nI 4) hC dL_law_297 (by decide +kernel) ?_
  refine o_iadd hC dL_law_298 ?_
  rw [nI_add]
  refine o_sld (k := 6 * j + 4) hC hB (by omega) (by omega) dL_law_299 ?_
  refine o_aload_n hC dL_law_300 (by rfl) ?_
  refine o_iload hC dL_law_301 (by rfl) ?_
  refine o_iconst (v := nI 5) hC dL_law_303 (by decide +kernel) ?_
  refine o_iadd hC dL_law_304 ?_
  rw [nI_add]
  refine o_sld (k := 6 * j + 5) hC hB (by omega) (by omega) dL_law_305 ?_
  refine o_callV5 hC rl_BW_good rl_Ns_nw (by exact hB.2.2.2.2.2) YX7_pick IX7_pick VX7_pick (mL_39 hC) (by rw [hB.1]; exact cg_X7_pick l D ids H0 _ _ x (x + 94) s c z _ _ _ _ _ hk hR) (by exact hk.1.1) rfl rfl (Nat.le_of_ble_eq_true rfl) (by rw [hB.2.1]; first | exact Nat.le_of_ble_eq_true rfl | (dsimp only; omega)) (by rw [hB.2.1]; first | exact Nat.le_of_ble_eq_true rfl | (dsimp only; omega)) (by rw [hB.2.1]; show ce + 403 ≤ 601024; omega) (by rw [hB.2.1]; show sl + 2892 ≤ 7293034; omega) dL_law_306 (fun v h_306 n_306 p_306 => ?_)
  obtain ⟨r1, c2, rfl, n1, n2, hkA, hRA, e1, frA, -⟩ := p_306
  have hmA : md_ok ids h_306 (x + 70) z := hm.cl frA
  obtain ⟨T, fu, k, S, hu⟩ := hmA
  try dsimp only [Option.toList, List.cons_append, List.nil_append]
  refine o_aload_n hC dL_law_309 (by rfl) ?_
  refine o_aload_n hC dL_law_310 (by rfl) ?_
  refine o_iload hC dL_law_311 (by rfl) ?_
  refine o_iconst (v := nI 1) hC dL_law_313 (by decide +kernel) ?_
  refine o_iadd hC dL_law_314 ?_
  rw [nI_add]
  refine o_sld (k := 6 * j + 1) hC hB (by omega) (by omega) dL_law_315 ?_
  refine o_aload_n hC dL_law_316 (by rfl) ?_
  refine o_iload hC dL_law_317 (by rfl) ?_
  refine o_iconst (v := nI 2) hC dL_law_319 (by decide +kernel) ?_
  refine o_iadd hC dL_law_320 ?_
  rw [nI_add]
  refine o_sld (k := 6 * j + 2) hC hB (by omega) (by omega) dL_law_321 ?_
  refine o_aload_n hC dL_law_322 (by rfl) ?_
  refine o_iload hC dL_law_323 (by rfl) ?_
  refine o_iconst (v := nI 3) hC dL_law_325 (by decide +kernel) ?_
  refine o_iadd hC dL_law_326 ?_
  rw [nI_add]
  refine o_sld (k := 6 * j + 3) hC hB (by omega) (by omega) dL_law_327 ?_
  refine o_aload_n hC dL_law_328 (by rfl) ?_
  refine o_iload hC dL_law_329 (by rfl) ?_
  refine o_iconst (v := nI 4) hC dL_law_331 (by decide +kernel) ?_
  refine o_iadd hC dL_law_332 ?_
  rw [nI_add]
  refine o_sld (k := 6 * j + 4) hC hB (by omega) (by omega) dL_law_333 ?_
  refine o_aload_n hC dL_law_334 (by rfl) ?_
  refine o_iload hC dL_law_335 (by rfl) ?_
  refine o_iconst (v := nI 5) hC dL_law_337 (by decide +kernel) ?_
  refine o_iadd hC dL_law_338 ?_
  rw [nI_add]
  refine o_sld (k := 6 * j + 5) hC hB (by omega) (by omega) dL_law_339 ?_
  refine o_callV5 hC rl_BW_good rl_Ns_nw (by exact hB.2.2.2.2.2) YX8_pick IX8_pick VX8_pick (mL_42 hC) (by rw [hB.1]; exact cm_X8_pick l D ids H0 _ _ (x + 70) T fu k S z _ _ _ _ _ hu) (by exact hu.1.1) rfl rfl (Nat.le_of_ble_eq_true rfl) (by rw [hB.2.1]; first | exact Nat.le_of_ble_eq_true rfl | (dsimp only; omega)) (by rw [hB.2.1]; first | exact Nat.le_of_ble_eq_true rfl | (dsimp only; omega)) (by rw [hB.2.1]; show ce + 403 + 0 ≤ 601024; omega) (by rw [hB.2.1]; show sl + 2892 + 0 ≤ 7293034; omega) dL_law_340 (fun v h_340 n_340 p_340 => ?_)
  obtain ⟨r2, rfl, rfl, hmB, e2, frB⟩ := p_340
  replace hmB := hmB.ok
  try dsimp only [Option.toList, List.cons_append, List.nil_append]
  refine o_icmp_eq (tgt := 1068) hC dL_law_343 (by decide) (fun c_343 => ?_) (fun c_343 => ?_)
  · refine rl_G.widen (ce' := ce + 403) (sl' := sl + 2892) (by omega) (by omega) ?_
    exact nx _ _ _ _ _ (lg_ok.of hou frA hkA hRA hmB frB)
  · exact absurd (e1.trans e2.symm) c_343

set_option maxHeartbeats 4000000 in
set_option maxRecDepth 100000 in
theorem lg_c4 (l : Launch) (hl : l.stackTraces = false) (D : va_G) (ids : Nat → ClassId) (H0 : Heap) {b x L j : Nat} {xs : Nat → Int32} {X : rl_X} (hC : rl_C X (rl_e D ids H0) cL_law RL rl_BW rl_Ns) (hB : lw_B X (rl_e D ids H0) l b L xs) (hL : L ≤ 3072) (hj : 6 * j + 6 ≤ L) {h : rl_H} {n ce sl : Nat} {a5 a6 a7 : Option Value} (hg : lg_ok ids h n x) (hce : ce + 403 ≤ 601024) (hsl : sl + 2892 ≤ 7293034) (nx : ∀ (h' : rl_H) (n' : Nat) (a5 a6 a7 : Option Value), lg_ok ids h' n' x → rl_G X (rl_e D ids H0) 1068 [some (.ref b), some (.ref x), some (.ref (x + 70)), some (.ref (x + 93)), some (.int (nI (6 * j))), a5, a6, a7] [] h' n' (ce + 403) (sl + 2892)) : rl_G X (rl_e D ids H0) 348 [some (.ref b), some (.ref x), some (.ref (x + 70)), some (.ref (x + 93)), some (.int (nI (6 * j))), a5, a6, a7] [] h n ce sl := by
  obtain ⟨s, c, z, hk, hR, hm, of, hou⟩ := id hg
  refine o_aload_n hC dL_law_348 (by rfl) ?_
  refine o_aload_n hC dL_law_349 (by rfl) ?_
  refine o_iload hC dL_law_350 (by rfl) ?_
  refine o_iconst (v := nI 1) hC dL_law_352 (by decide +kernel) ?_
  refine o_iadd hC dL_law_353 ?_
  rw [nI_add]
  refine o_sld (k := 6 * j + 1) hC hB (by omega) (by omega) dL_law_354 ?_
  refine o_aload_n hC dL_law_355 (by rfl) ?_
  refine o_iload hC dL_law_356 (by rfl) ?_
  refine o_iconst (v := nI 2) hC dL_law_358 (by decide +kernel) ?_
  refine o_iadd hC dL_law_359 ?_
  rw [nI_add]
  refine o_sld (k := 6 * j + 2) hC hB (by omega) (by omega) dL_law_360 ?_
  refine o_callV2 hC rl_BW_good rl_Ns_nw (by exact hB.2.2.2.2.2) YX7_cols IX7_cols VX7_cols (mL_43 hC) (by rw [hB.1]; exact cg_X7_cols l D ids H0 _ _ x (x + 94) s c z _ _ hk hR) (by exact hk.1.1) rfl rfl (Nat.le_of_ble_eq_true rfl) (by rw [hB.2.1]; first | exact Nat.le_of_ble_eq_true rfl | (dsimp only; omega)) (by rw [hB.2.1]; first | exact Nat.le_of_ble_eq_true rfl | (dsimp only; omega)) (by rw [hB.2.1]; show ce + 403 ≤ 601024; omega) (by rw [hB.2.1]; show sl + 2892 ≤ 7293034; omega) dL_law_361 (fun v h_361 n_361 p_361 => ?_)
  obtain ⟨r1, c2, rfl, n1, n2, hkA, hRA, e1, frA, -⟩ := p_361
  have hmA : md_ok ids h_361 (x + 70) z := hm.cl frA
  obtain ⟨T, fu, k, S, hu⟩ := hmA
  try dsimp only [Option.toList, List.cons_append, List.nil_append]
  refine o_pop hC dL_law_364 rfl ?_
  refine o_aload_n hC dL_law_365 (by rfl) ?_
  refine o_aload_n hC dL_law_366 (by rfl) ?_
  refine o_iload hC dL_law_367 (by rfl) ?_
  refine o_iconst (v := nI 1) hC dL_law_369 (by decide +kernel) ?_
  refine o_iadd hC dL_law_370 ?_
  rw [nI_add]
  refine o_sld (k := 6 * j + 1) hC hB (by omega) (by omega) dL_law_371 ?_
  refine o_aload_n hC dL_law_372 (by rfl) ?_
  refine o_iload hC dL_law_373 (by rfl) ?_
  refine o_iconst (v := nI 2) hC dL_law_375 (by decide +kernel) ?_
  refine o_iadd hC dL_law_376 ?_
  rw [nI_add]
  refine o_sld (k := 6 * j + 2) hC hB (by omega) (by omega) dL_law_377 ?_
  refine o_callV2 hC rl_BW_good rl_Ns_nw (by exact hB.2.2.2.2.2) YX8_cols IX8_cols VX8_cols (mL_46 hC) (by rw [hB.1]; exact cm_X8_cols l D ids H0 _ _ (x + 70) T fu k S z _ _ hu) (by exact hu.1.1) rfl rfl (Nat.le_of_ble_eq_true rfl) (by rw [hB.2.1]; first | exact Nat.le_of_ble_eq_true rfl | (dsimp only; omega)) (by rw [hB.2.1]; first | exact Nat.le_of_ble_eq_true rfl | (dsimp only; omega)) (by rw [hB.2.1]; show ce + 403 + 0 ≤ 601024; omega) (by rw [hB.2.1]; show sl + 2892 + 0 ≤ 7293034; omega) dL_law_378 (fun v h_378 n_378 p_378 => ?_)
  obtain ⟨r2, rfl, rfl, hmB, e2, frB⟩ := p_378
  replace hmB := hmB.ok
  try dsimp only [Option.toList, List.cons_append, List.nil_append]
  refine o_pop hC dL_law_381 rfl ?_
  refine o_goto (tgt := 1068) hC dL_law_382 (by decide) ?_
  refine rl_G.widen (ce' := ce + 403) (sl' := sl + 2892) (by omega) (by omega) ?_
  exact nx _ _ _ _ _ (lg_ok.of hou frA hkA hRA hmB frB)

set_option maxHeartbeats 4000000 in
set_option maxRecDepth 100000 in
theorem lg_c5 (l : Launch) (hl : l.stackTraces = false) (D : va_G) (ids : Nat → ClassId) (H0 : Heap) {b x L j : Nat} {xs : Nat → Int32} {X : rl_X} (hC : rl_C X (rl_e D ids H0) cL_law RL rl_BW rl_Ns) (hB : lw_B X (rl_e D ids H0) l b L xs) (hL : L ≤ 3072) (hj : 6 * j + 6 ≤ L) {h : rl_H} {n ce sl : Nat} {a5 a6 a7 : Option Value} (hg : lg_ok ids h n x) (hce : ce + 403 ≤ 601024) (hsl : sl + 2892 ≤ 7293034) (nx : ∀ (h' : rl_H) (n' : Nat) (a5 a6 a7 : Option Value), lg_ok ids h' n' x → rl_G X (rl_e D ids H0) 1068 [some (.ref b), some (.ref x), some (.ref (x + 70)), some (.ref (x + 93)), some (.int (nI (6 * j))), a5, a6, a7] [] h' n' (ce + 403) (sl + 2892)) : rl_G X (rl_e D ids H0) 385 [some (.ref b), some (.ref x), some (.ref (x + 70)), some (.ref (x + 93)), some (.int (nI (6 * j))), a5, a6, a7] [] h n ce sl := by
  obtain ⟨s, c, z, hk, hR, hm, of, hou⟩ := id hg
  refine o_aload_n hC dL_law_385 (by rfl) ?_
  refine o_aload_n hC dL_law_386 (by rfl) ?_
  refine o_iload hC dL_law_387 (by rfl) ?_
  refine o_iconst (v := nI 1) hC dL_law_389 (by decide +kernel) ?_
  refine o_iadd hC dL_law_390 ?_
  rw [nI_add]
  refine o_sld (k := 6 * j + 1) hC hB (by omega) (by omega) dL_law_391 ?_
  refine o_aload_n hC dL_law_392 (by rfl) ?_
  refine o_iload hC dL_law_393 (by rfl) ?_
  refine o_iconst (v := nI 2) hC dL_law_395 (by decide +kernel) ?_
  refine o_iadd hC dL_law_396 ?_
  rw [nI_add]
  refine o_sld (k := 6 * j + 2) hC hB (by omega) (by omega) dL_law_397 ?_
  refine o_aload_n hC dL_law_398 (by rfl) ?_
  refine o_iload hC dL_law_399 (by rfl) ?_
  refine o_iconst (v := nI 3) hC dL_law_401 (by decide +kernel) ?_
  refine o_iadd hC dL_law_402 ?_
  rw [nI_add]
  refine o_sld (k := 6 * j + 3) hC hB (by omega) (by omega) dL_law_403 ?_
  refine o_aload_n hC dL_law_404 (by rfl) ?_
  refine o_iload hC dL_law_405 (by rfl) ?_
  refine o_iconst (v := nI 4) hC dL_law_407 (by decide +kernel) ?_
  refine o_iadd hC dL_law_408 ?_
  rw [nI_add]
  refine o_sld (k := 6 * j + 4) hC hB (by omega) (by omega) dL_law_409 ?_
  refine o_callV4 hC rl_BW_good rl_Ns_nw (by exact hB.2.2.2.2.2) YX7_join IX7_join VX7_join (mL_47 hC) (by rw [hB.1]; exact cg_X7_join l D ids H0 _ _ x (x + 94) s c z _ _ _ _ hk hR) (by exact hk.1.1) rfl rfl (Nat.le_of_ble_eq_true rfl) (by rw [hB.2.1]; first | exact Nat.le_of_ble_eq_true rfl | (dsimp only; omega)) (by rw [hB.2.1]; first | exact Nat.le_of_ble_eq_true rfl | (dsimp only; omega)) (by rw [hB.2.1]; show ce + 403 ≤ 601024; omega) (by rw [hB.2.1]; show sl + 2892 ≤ 7293034; omega) dL_law_410 (fun v h_410 n_410 p_410 => ?_)
  obtain ⟨r1, c2, rfl, n1, n2, hkA, hRA, e1, frA, -⟩ := p_410
  have hmA : md_ok ids h_410 (x + 70) z := hm.cl frA
  obtain ⟨T, fu, k, S, hu⟩ := hmA
  try dsimp only [Option.toList, List.cons_append, List.nil_append]
  refine o_pop hC dL_law_413 rfl ?_
  refine o_aload_n hC dL_law_414 (by rfl) ?_
  refine o_aload_n hC dL_law_415 (by rfl) ?_
  refine o_iload hC dL_law_416 (by rfl) ?_
  refine o_iconst (v := nI 1) hC dL_law_418 (by decide +kernel) ?_
  refine o_iadd hC dL_law_419 ?_
  rw [nI_add]
  refine o_sld (k := 6 * j + 1) hC hB (by omega) (by omega) dL_law_420 ?_
  refine o_aload_n hC dL_law_421 (by rfl) ?_
  refine o_iload hC dL_law_422 (by rfl) ?_
  refine o_iconst (v := nI 2) hC dL_law_424 (by decide +kernel) ?_
  refine o_iadd hC dL_law_425 ?_
  rw [nI_add]
  refine o_sld (k := 6 * j + 2) hC hB (by omega) (by omega) dL_law_426 ?_
  refine o_aload_n hC dL_law_427 (by rfl) ?_
  refine o_iload hC dL_law_428 (by rfl) ?_
  refine o_iconst (v := nI 3) hC dL_law_430 (by decide +kernel) ?_
  refine o_iadd hC dL_law_431 ?_
  rw [nI_add]
  refine o_sld (k := 6 * j + 3) hC hB (by omega) (by omega) dL_law_432 ?_
  refine o_aload_n hC dL_law_433 (by rfl) ?_
  refine o_iload hC dL_law_434 (by rfl) ?_
  refine o_iconst (v := nI 4) hC dL_law_436 (by decide +kernel) ?_
  refine o_iadd hC dL_law_437 ?_
  rw [nI_add]
  refine o_sld (k := 6 * j + 4) hC hB (by omega) (by omega) dL_law_438 ?_
  refine o_callV4 hC rl_BW_good rl_Ns_nw (by exact hB.2.2.2.2.2) YX8_join IX8_join VX8_join (mL_51 hC) (by rw [hB.1]; exact cm_X8_join l D ids H0 _ _ (x + 70) T fu k S z _ _ _ _ hu) (by exact hu.1.1) rfl rfl (Nat.le_of_ble_eq_true rfl) (by rw [hB.2.1]; first | exact Nat.le_of_ble_eq_true rfl | (dsimp only; omega)) (by rw [hB.2.1]; first | exact Nat.le_of_ble_eq_true rfl | (dsimp only; omega)) (by rw [hB.2.1]; show ce + 403 + 0 ≤ 601024; omega) (by rw [hB.2.1]; show sl + 2892 + 0 ≤ 7293034; omega) dL_law_439 (fun v h_439 n_439 p_439 => ?_)
  obtain ⟨r2, rfl, rfl, hmB, e2, frB⟩ := p_439
  replace hmB := hmB.ok
  try dsimp only [Option.toList, List.cons_append, List.nil_append]
  refine o_pop hC dL_law_442 rfl ?_
  refine o_goto (tgt := 1068) hC dL_law_443 (by decide) ?_
  refine rl_G.widen (ce' := ce + 403) (sl' := sl + 2892) (by omega) (by omega) ?_
  exact nx _ _ _ _ _ (lg_ok.of hou frA hkA hRA hmB frB)

set_option maxHeartbeats 4000000 in
set_option maxRecDepth 100000 in
theorem lg_c6 (l : Launch) (hl : l.stackTraces = false) (D : va_G) (ids : Nat → ClassId) (H0 : Heap) {b x L j : Nat} {xs : Nat → Int32} {X : rl_X} (hC : rl_C X (rl_e D ids H0) cL_law RL rl_BW rl_Ns) (hB : lw_B X (rl_e D ids H0) l b L xs) (hL : L ≤ 3072) (hj : 6 * j + 6 ≤ L) {h : rl_H} {n ce sl : Nat} {a5 a6 a7 : Option Value} (hg : lg_ok ids h n x) (hce : ce + 403 ≤ 601024) (hsl : sl + 2892 ≤ 7293034) (nx : ∀ (h' : rl_H) (n' : Nat) (a5 a6 a7 : Option Value), lg_ok ids h' n' x → rl_G X (rl_e D ids H0) 1068 [some (.ref b), some (.ref x), some (.ref (x + 70)), some (.ref (x + 93)), some (.int (nI (6 * j))), a5, a6, a7] [] h' n' (ce + 403) (sl + 2892)) : rl_G X (rl_e D ids H0) 446 [some (.ref b), some (.ref x), some (.ref (x + 70)), some (.ref (x + 93)), some (.int (nI (6 * j))), a5, a6, a7] [] h n ce sl := by
  obtain ⟨s, c, z, hk, hR, hm, of, hou⟩ := id hg
  refine o_aload_n hC dL_law_446 (by rfl) ?_
  refine o_aload_n hC dL_law_447 (by rfl) ?_
  refine o_iload hC dL_law_448 (by rfl) ?_
  refine o_iconst (v := nI 1) hC dL_law_450 (by decide +kernel) ?_
  refine o_iadd hC dL_law_451 ?_
  rw [nI_add]
  refine o_sld (k := 6 * j + 1) hC hB (by omega) (by omega) dL_law_452 ?_
  refine o_aload_n hC dL_law_453 (by rfl) ?_
  refine o_iload hC dL_law_454 (by rfl) ?_
  refine o_iconst (v := nI 2) hC dL_law_456 (by decide +kernel) ?_
  refine o_iadd hC dL_law_457 ?_
  rw [nI_add]
  refine o_sld (k := 6 * j + 2) hC hB (by omega) (by omega) dL_law_458 ?_
  refine o_callV2 hC rl_BW_good rl_Ns_nw (by exact hB.2.2.2.2.2) YX7_unite IX7_unite VX7_unite (mL_52 hC) (by rw [hB.1]; exact cg_X7_unite l D ids H0 _ _ x (x + 94) s c z _ _ hk hR) (by exact hk.1.1) rfl rfl (Nat.le_of_ble_eq_true rfl) (by rw [hB.2.1]; first | exact Nat.le_of_ble_eq_true rfl | (dsimp only; omega)) (by rw [hB.2.1]; first | exact Nat.le_of_ble_eq_true rfl | (dsimp only; omega)) (by rw [hB.2.1]; show ce + 403 ≤ 601024; omega) (by rw [hB.2.1]; show sl + 2892 ≤ 7293034; omega) dL_law_459 (fun v h_459 n_459 p_459 => ?_)
  obtain ⟨r1, c2, rfl, n1, n2, hkA, hRA, e1, frA, -⟩ := p_459
  have hmA : md_ok ids h_459 (x + 70) z := hm.cl frA
  obtain ⟨T, fu, k, S, hu⟩ := hmA
  try dsimp only [Option.toList, List.cons_append, List.nil_append]
  refine o_pop hC dL_law_462 rfl ?_
  refine o_aload_n hC dL_law_463 (by rfl) ?_
  refine o_aload_n hC dL_law_464 (by rfl) ?_
  refine o_iload hC dL_law_465 (by rfl) ?_
  refine o_iconst (v := nI 1) hC dL_law_467 (by decide +kernel) ?_
  refine o_iadd hC dL_law_468 ?_
  rw [nI_add]
  refine o_sld (k := 6 * j + 1) hC hB (by omega) (by omega) dL_law_469 ?_
  refine o_aload_n hC dL_law_470 (by rfl) ?_
  refine o_iload hC dL_law_471 (by rfl) ?_
  refine o_iconst (v := nI 2) hC dL_law_473 (by decide +kernel) ?_
  refine o_iadd hC dL_law_474 ?_
  rw [nI_add]
  refine o_sld (k := 6 * j + 2) hC hB (by omega) (by omega) dL_law_475 ?_
  refine o_callV2 hC rl_BW_good rl_Ns_nw (by exact hB.2.2.2.2.2) YX8_unite IX8_unite VX8_unite (mL_55 hC) (by rw [hB.1]; exact cm_X8_unite l D ids H0 _ _ (x + 70) T fu k S z _ _ hu) (by exact hu.1.1) rfl rfl (Nat.le_of_ble_eq_true rfl) (by rw [hB.2.1]; first | exact Nat.le_of_ble_eq_true rfl | (dsimp only; omega)) (by rw [hB.2.1]; first | exact Nat.le_of_ble_eq_true rfl | (dsimp only; omega)) (by rw [hB.2.1]; show ce + 403 + 0 ≤ 601024; omega) (by rw [hB.2.1]; show sl + 2892 + 0 ≤ 7293034; omega) dL_law_476 (fun v h_476 n_476 p_476 => ?_)
  obtain ⟨r2, rfl, rfl, hmB, e2, frB⟩ := p_476
  replace hmB := hmB.ok
  try dsimp only [Option.toList, List.cons_append, List.nil_append]
  refine o_pop hC dL_law_479 rfl ?_
  refine o_goto (tgt := 1068) hC dL_law_480 (by decide) ?_
  refine rl_G.widen (ce' := ce + 403) (sl' := sl + 2892) (by omega) (by omega) ?_
  exact nx _ _ _ _ _ (lg_ok.of hou frA hkA hRA hmB frB)

set_option maxHeartbeats 4000000 in
set_option maxRecDepth 100000 in
theorem lg_c7 (l : Launch) (hl : l.stackTraces = false) (D : va_G) (ids : Nat → ClassId) (H0 : Heap) {b x L j : Nat} {xs : Nat → Int32} {X : rl_X} (hC : rl_C X (rl_e D ids H0) cL_law RL rl_BW rl_Ns) (hB : lw_B X (rl_e D ids H0) l b L xs) (hL : L ≤ 3072) (hj : 6 * j + 6 ≤ L) {h : rl_H} {n ce sl : Nat} {a5 a6 a7 : Option Value} (hg : lg_ok ids h n x) (hce : ce + 403 ≤ 601024) (hsl : sl + 2892 ≤ 7293034) (nx : ∀ (h' : rl_H) (n' : Nat) (a5 a6 a7 : Option Value), lg_ok ids h' n' x → rl_G X (rl_e D ids H0) 1068 [some (.ref b), some (.ref x), some (.ref (x + 70)), some (.ref (x + 93)), some (.int (nI (6 * j))), a5, a6, a7] [] h' n' (ce + 403) (sl + 2892)) : rl_G X (rl_e D ids H0) 483 [some (.ref b), some (.ref x), some (.ref (x + 70)), some (.ref (x + 93)), some (.int (nI (6 * j))), a5, a6, a7] [] h n ce sl := by
  obtain ⟨s, c, z, hk, hR, hm, of, hou⟩ := id hg
  refine o_aload_n hC dL_law_483 (by rfl) ?_
  refine o_aload_n hC dL_law_484 (by rfl) ?_
  refine o_iload hC dL_law_485 (by rfl) ?_
  refine o_iconst (v := nI 1) hC dL_law_487 (by decide +kernel) ?_
  refine o_iadd hC dL_law_488 ?_
  rw [nI_add]
  refine o_sld (k := 6 * j + 1) hC hB (by omega) (by omega) dL_law_489 ?_
  refine o_aload_n hC dL_law_490 (by rfl) ?_
  refine o_iload hC dL_law_491 (by rfl) ?_
  refine o_iconst (v := nI 2) hC dL_law_493 (by decide +kernel) ?_
  refine o_iadd hC dL_law_494 ?_
  rw [nI_add]
  refine o_sld (k := 6 * j + 2) hC hB (by omega) (by omega) dL_law_495 ?_
  refine o_callV2 hC rl_BW_good rl_Ns_nw (by exact hB.2.2.2.2.2) YX7_minus IX7_minus VX7_minus (mL_56 hC) (by rw [hB.1]; exact cg_X7_minus l D ids H0 _ _ x (x + 94) s c z _ _ hk hR) (by exact hk.1.1) rfl rfl (Nat.le_of_ble_eq_true rfl) (by rw [hB.2.1]; first | exact Nat.le_of_ble_eq_true rfl | (dsimp only; omega)) (by rw [hB.2.1]; first | exact Nat.le_of_ble_eq_true rfl | (dsimp only; omega)) (by rw [hB.2.1]; show ce + 403 ≤ 601024; omega) (by rw [hB.2.1]; show sl + 2892 ≤ 7293034; omega) dL_law_496 (fun v h_496 n_496 p_496 => ?_)
  obtain ⟨r1, c2, rfl, n1, n2, hkA, hRA, e1, frA, -⟩ := p_496
  have hmA : md_ok ids h_496 (x + 70) z := hm.cl frA
  obtain ⟨T, fu, k, S, hu⟩ := hmA
  try dsimp only [Option.toList, List.cons_append, List.nil_append]
  refine o_pop hC dL_law_499 rfl ?_
  refine o_aload_n hC dL_law_500 (by rfl) ?_
  refine o_aload_n hC dL_law_501 (by rfl) ?_
  refine o_iload hC dL_law_502 (by rfl) ?_
  refine o_iconst (v := nI 1) hC dL_law_504 (by decide +kernel) ?_
  refine o_iadd hC dL_law_505 ?_
  rw [nI_add]
  refine o_sld (k := 6 * j + 1) hC hB (by omega) (by omega) dL_law_506 ?_
  refine o_aload_n hC dL_law_507 (by rfl) ?_
  refine o_iload hC dL_law_508 (by rfl) ?_
  refine o_iconst (v := nI 2) hC dL_law_510 (by decide +kernel) ?_
  refine o_iadd hC dL_law_511 ?_
  rw [nI_add]
  refine o_sld (k := 6 * j + 2) hC hB (by omega) (by omega) dL_law_512 ?_
  refine o_callV2 hC rl_BW_good rl_Ns_nw (by exact hB.2.2.2.2.2) YX8_minus IX8_minus VX8_minus (mL_59 hC) (by rw [hB.1]; exact cm_X8_minus l D ids H0 _ _ (x + 70) T fu k S z _ _ hu) (by exact hu.1.1) rfl rfl (Nat.le_of_ble_eq_true rfl) (by rw [hB.2.1]; first | exact Nat.le_of_ble_eq_true rfl | (dsimp only; omega)) (by rw [hB.2.1]; first | exact Nat.le_of_ble_eq_true rfl | (dsimp only; omega)) (by rw [hB.2.1]; show ce + 403 + 0 ≤ 601024; omega) (by rw [hB.2.1]; show sl + 2892 + 0 ≤ 7293034; omega) dL_law_513 (fun v h_513 n_513 p_513 => ?_)
  obtain ⟨r2, rfl, rfl, hmB, e2, frB⟩ := p_513
  replace hmB := hmB.ok
  try dsimp only [Option.toList, List.cons_append, List.nil_append]
  refine o_pop hC dL_law_516 rfl ?_
  refine o_goto (tgt := 1068) hC dL_law_517 (by decide) ?_
  refine rl_G.widen (ce' := ce + 403) (sl' := sl + 2892) (by omega) (by omega) ?_
  exact nx _ _ _ _ _ (lg_ok.of hou frA hkA hRA hmB frB)

set_option maxHeartbeats 4000000 in
set_option maxRecDepth 100000 in
theorem lg_c8 (l : Launch) (hl : l.stackTraces = false) (D : va_G) (ids : Nat → ClassId) (H0 : Heap) {b x L j : Nat} {xs : Nat → Int32} {X : rl_X} (hC : rl_C X (rl_e D ids H0) cL_law RL rl_BW rl_Ns) (hB : lw_B X (rl_e D ids H0) l b L xs) (hL : L ≤ 3072) (hj : 6 * j + 6 ≤ L) {h : rl_H} {n ce sl : Nat} {a5 a6 a7 : Option Value} (hg : lg_ok ids h n x) (hce : ce + 403 ≤ 601024) (hsl : sl + 2892 ≤ 7293034) (nx : ∀ (h' : rl_H) (n' : Nat) (a5 a6 a7 : Option Value), lg_ok ids h' n' x → rl_G X (rl_e D ids H0) 1068 [some (.ref b), some (.ref x), some (.ref (x + 70)), some (.ref (x + 93)), some (.int (nI (6 * j))), a5, a6, a7] [] h' n' (ce + 403) (sl + 2892)) : rl_G X (rl_e D ids H0) 520 [some (.ref b), some (.ref x), some (.ref (x + 70)), some (.ref (x + 93)), some (.int (nI (6 * j))), a5, a6, a7] [] h n ce sl := by
  obtain ⟨s, c, z, hk, hR, hm, of, hou⟩ := id hg
  refine o_aload_n hC dL_law_520 (by rfl) ?_
  refine o_aload_n hC dL_law_521 (by rfl) ?_
  refine o_iload hC dL_law_522 (by rfl) ?_
  refine o_iconst (v := nI 1) hC dL_law_524 (by decide +kernel) ?_
  refine o_iadd hC dL_law_525 ?_
  rw [nI_add]
  refine o_sld (k := 6 * j + 1) hC hB (by omega) (by omega) dL_law_526 ?_
  refine o_aload_n hC dL_law_527 (by rfl) ?_
  refine o_iload hC dL_law_528 (by rfl) ?_
  refine o_iconst (v := nI 2) hC dL_law_530 (by decide +kernel) ?_
  refine o_iadd hC dL_law_531 ?_
  rw [nI_add]
  refine o_sld (k := 6 * j + 2) hC hB (by omega) (by omega) dL_law_532 ?_
  refine o_aload_n hC dL_law_533 (by rfl) ?_
  refine o_iload hC dL_law_534 (by rfl) ?_
  refine o_iconst (v := nI 3) hC dL_law_536 (by decide +kernel) ?_
  refine o_iadd hC dL_law_537 ?_
  rw [nI_add]
  refine o_sld (k := 6 * j + 3) hC hB (by omega) (by omega) dL_law_538 ?_
  refine o_aload_n hC dL_law_539 (by rfl) ?_
  refine o_iload hC dL_law_540 (by rfl) ?_
  refine o_iconst (v := nI 4) hC dL_law_542 (by decide +kernel) ?_
  refine o_iadd hC dL_law_543 ?_
  rw [nI_add]
  refine o_sld (k := 6 * j + 4) hC hB (by omega) (by omega) dL_law_544 ?_
  refine o_callV4 hC rl_BW_good rl_Ns_nw (by exact hB.2.2.2.2.2) YX7_fold IX7_fold VX7_fold (mL_60 hC) (by rw [hB.1]; exact cg_X7_fold l D ids H0 _ _ x (x + 94) s c z _ _ _ _ hk hR) (by exact hk.1.1) rfl rfl (Nat.le_of_ble_eq_true rfl) (by rw [hB.2.1]; first | exact Nat.le_of_ble_eq_true rfl | (dsimp only; omega)) (by rw [hB.2.1]; first | exact Nat.le_of_ble_eq_true rfl | (dsimp only; omega)) (by rw [hB.2.1]; show ce + 403 ≤ 601024; omega) (by rw [hB.2.1]; show sl + 2892 ≤ 7293034; omega) dL_law_545 (fun v h_545 n_545 p_545 => ?_)
  obtain ⟨r1, c2, rfl, n1, n2, hkA, hRA, e1, frA, -⟩ := p_545
  have hmA : md_ok ids h_545 (x + 70) z := hm.cl frA
  obtain ⟨T, fu, k, S, hu⟩ := hmA
  try dsimp only [Option.toList, List.cons_append, List.nil_append]
  refine o_pop hC dL_law_548 rfl ?_
  refine o_aload_n hC dL_law_549 (by rfl) ?_
  refine o_aload_n hC dL_law_550 (by rfl) ?_
  refine o_iload hC dL_law_551 (by rfl) ?_
  refine o_iconst (v := nI 1) hC dL_law_553 (by decide +kernel) ?_
  refine o_iadd hC dL_law_554 ?_
  rw [nI_add]
  refine o_sld (k := 6 * j + 1) hC hB (by omega) (by omega) dL_law_555 ?_
  refine o_aload_n hC dL_law_556 (by rfl) ?_
  refine o_iload hC dL_law_557 (by rfl) ?_
  refine o_iconst (v := nI 2) hC dL_law_559 (by decide +kernel) ?_
  refine o_iadd hC dL_law_560 ?_
  rw [nI_add]
  refine o_sld (k := 6 * j + 2) hC hB (by omega) (by omega) dL_law_561 ?_
  refine o_aload_n hC dL_law_562 (by rfl) ?_
  refine o_iload hC dL_law_563 (by rfl) ?_
  refine o_iconst (v := nI 3) hC dL_law_565 (by decide +kernel) ?_
  refine o_iadd hC dL_law_566 ?_
  rw [nI_add]
  refine o_sld (k := 6 * j + 3) hC hB (by omega) (by omega) dL_law_567 ?_
  refine o_aload_n hC dL_law_568 (by rfl) ?_
  refine o_iload hC dL_law_569 (by rfl) ?_
  refine o_iconst (v := nI 4) hC dL_law_571 (by decide +kernel) ?_
  refine o_iadd hC dL_law_572 ?_
  rw [nI_add]
  refine o_sld (k := 6 * j + 4) hC hB (by omega) (by omega) dL_law_573 ?_
  refine o_callV4 hC rl_BW_good rl_Ns_nw (by exact hB.2.2.2.2.2) YX8_fold IX8_fold VX8_fold (mL_63 hC) (by rw [hB.1]; exact cm_X8_fold l D ids H0 _ _ (x + 70) T fu k S z _ _ _ _ hu) (by exact hu.1.1) rfl rfl (Nat.le_of_ble_eq_true rfl) (by rw [hB.2.1]; first | exact Nat.le_of_ble_eq_true rfl | (dsimp only; omega)) (by rw [hB.2.1]; first | exact Nat.le_of_ble_eq_true rfl | (dsimp only; omega)) (by rw [hB.2.1]; show ce + 403 + 0 ≤ 601024; omega) (by rw [hB.2.1]; show sl + 2892 + 0 ≤ 7293034; omega) dL_law_574 (fun v h_574 n_574 p_574 => ?_)
  obtain ⟨r2, rfl, rfl, hmB, e2, frB⟩ := p_574
  replace hmB := hmB.ok
  try dsimp only [Option.toList, List.cons_append, List.nil_append]
  refine o_pop hC dL_law_577 rfl ?_
  refine o_goto (tgt := 1068) hC dL_law_578 (by decide) ?_
  refine rl_G.widen (ce' := ce + 403) (sl' := sl + 2892) (by omega) (by omega) ?_
  exact nx _ _ _ _ _ (lg_ok.of hou frA hkA hRA hmB frB)

set_option maxHeartbeats 4000000 in
set_option maxRecDepth 100000 in
theorem lg_c9 (l : Launch) (hl : l.stackTraces = false) (D : va_G) (ids : Nat → ClassId) (H0 : Heap) {b x L j : Nat} {xs : Nat → Int32} {X : rl_X} (hC : rl_C X (rl_e D ids H0) cL_law RL rl_BW rl_Ns) (hB : lw_B X (rl_e D ids H0) l b L xs) (hL : L ≤ 3072) (hj : 6 * j + 6 ≤ L) {h : rl_H} {n ce sl : Nat} {a5 a6 a7 : Option Value} (hg : lg_ok ids h n x) (hce : ce + 403 ≤ 601024) (hsl : sl + 2892 ≤ 7293034) (nx : ∀ (h' : rl_H) (n' : Nat) (a5 a6 a7 : Option Value), lg_ok ids h' n' x → rl_G X (rl_e D ids H0) 1068 [some (.ref b), some (.ref x), some (.ref (x + 70)), some (.ref (x + 93)), some (.int (nI (6 * j))), a5, a6, a7] [] h' n' (ce + 403) (sl + 2892)) : rl_G X (rl_e D ids H0) 581 [some (.ref b), some (.ref x), some (.ref (x + 70)), some (.ref (x + 93)), some (.int (nI (6 * j))), a5, a6, a7] [] h n ce sl := by
  obtain ⟨s, c, z, hk, hR, hm, of, hou⟩ := id hg
  refine o_aload_n hC dL_law_581 (by rfl) ?_
  refine o_aload_n hC dL_law_582 (by rfl) ?_
  refine o_iload hC dL_law_583 (by rfl) ?_
  refine o_iconst (v := nI 1) hC dL_law_585 (by decide +kernel) ?_
  refine o_iadd hC dL_law_586 ?_
  rw [nI_add]
  refine o_sld (k := 6 * j + 1) hC hB (by omega) (by omega) dL_law_587 ?_
  refine o_callV1 hC rl_BW_good rl_Ns_nw (by exact hB.2.2.2.2.2) YX7_columns IX7_columns VX7_columns (mL_64 hC) (by rw [hB.1]; exact cg_X7_columns l D ids H0 _ _ x s c _ hk.1) (by exact hk.1.1) rfl rfl (Nat.le_of_ble_eq_true rfl) (by rw [hB.2.1]; first | exact Nat.le_of_ble_eq_true rfl | (dsimp only; omega)) (by rw [hB.2.1]; first | exact Nat.le_of_ble_eq_true rfl | (dsimp only; omega)) (by rw [hB.2.1]; show ce + 0 ≤ 601024; omega) (by rw [hB.2.1]; show sl + 0 ≤ 7293034; omega) dL_law_588 (fun v h_588 n_588 p_588 => ?_)
  obtain ⟨r1, rfl, rfl, rfl, w1⟩ := p_588
  obtain ⟨hzc, e1⟩ := cl_cols hk hR w1
  have hkA := hk
  have hRA := hR
  rw [← hzc] at hRA
  have frA : cl_fr h_588 h_588 x (x + 94) := cl_fr.rf
  have hmA : md_ok ids h_588 (x + 70) z := hm.cl frA
  obtain ⟨T, fu, k, S, hu⟩ := hmA
  try dsimp only [Option.toList, List.cons_append, List.nil_append]
  refine o_pop hC dL_law_591 rfl ?_
  refine o_aload_n hC dL_law_592 (by rfl) ?_
  refine o_aload_n hC dL_law_593 (by rfl) ?_
  refine o_iload hC dL_law_594 (by rfl) ?_
  refine o_iconst (v := nI 1) hC dL_law_596 (by decide +kernel) ?_
  refine o_iadd hC dL_law_597 ?_
  rw [nI_add]
  refine o_sld (k := 6 * j + 1) hC hB (by omega) (by omega) dL_law_598 ?_
  refine o_callV1 hC rl_BW_good rl_Ns_nw (by exact hB.2.2.2.2.2) YX8_columns IX8_columns VX8_columns (mL_67 hC) (by rw [hB.1]; exact cm_X8_columns l D ids H0 _ _ (x + 70) T fu k S z _ hu) (by exact hu.1.1) rfl rfl (Nat.le_of_ble_eq_true rfl) (by rw [hB.2.1]; first | exact Nat.le_of_ble_eq_true rfl | (dsimp only; omega)) (by rw [hB.2.1]; first | exact Nat.le_of_ble_eq_true rfl | (dsimp only; omega)) (by rw [hB.2.1]; show ce + 0 + 0 ≤ 601024; omega) (by rw [hB.2.1]; show sl + 0 + 0 ≤ 7293034; omega) dL_law_599 (fun v h_599 n_599 p_599 => ?_)
  obtain ⟨r2, rfl, rfl, hmB, e2, frB⟩ := p_599
  replace hmB := hmB.ok
  try dsimp only [Option.toList, List.cons_append, List.nil_append]
  refine o_pop hC dL_law_602 rfl ?_
  refine o_goto (tgt := 1068) hC dL_law_603 (by decide) ?_
  refine rl_G.widen (ce' := ce + 403) (sl' := sl + 2892) (by omega) (by omega) ?_
  exact nx _ _ _ _ _ (lg_ok.of hou frA hkA hRA hmB frB)

set_option maxHeartbeats 4000000 in
set_option maxRecDepth 100000 in
theorem lg_c10 (l : Launch) (hl : l.stackTraces = false) (D : va_G) (ids : Nat → ClassId) (H0 : Heap) {b x L j : Nat} {xs : Nat → Int32} {X : rl_X} (hC : rl_C X (rl_e D ids H0) cL_law RL rl_BW rl_Ns) (hB : lw_B X (rl_e D ids H0) l b L xs) (hL : L ≤ 3072) (hj : 6 * j + 6 ≤ L) {h : rl_H} {n ce sl : Nat} {a5 a6 a7 : Option Value} (hg : lg_ok ids h n x) (hce : ce + 403 ≤ 601024) (hsl : sl + 2892 ≤ 7293034) (nx : ∀ (h' : rl_H) (n' : Nat) (a5 a6 a7 : Option Value), lg_ok ids h' n' x → rl_G X (rl_e D ids H0) 1068 [some (.ref b), some (.ref x), some (.ref (x + 70)), some (.ref (x + 93)), some (.int (nI (6 * j))), a5, a6, a7] [] h' n' (ce + 403) (sl + 2892)) : rl_G X (rl_e D ids H0) 606 [some (.ref b), some (.ref x), some (.ref (x + 70)), some (.ref (x + 93)), some (.int (nI (6 * j))), a5, a6, a7] [] h n ce sl := by
  obtain ⟨s, c, z, hk, hR, hm, of, hou⟩ := id hg
  refine o_aload_n hC dL_law_606 (by rfl) ?_
  refine o_aload_n hC dL_law_607 (by rfl) ?_
  refine o_iload hC dL_law_608 (by rfl) ?_
  refine o_iconst (v := nI 1) hC dL_law_610 (by decide +kernel) ?_
  refine o_iadd hC dL_law_611 ?_
  rw [nI_add]
  refine o_sld (k := 6 * j + 1) hC hB (by omega) (by omega) dL_law_612 ?_
  refine o_callV1 hC rl_BW_good rl_Ns_nw (by exact hB.2.2.2.2.2) YX7_run IX7_run VX7_run (mL_68 hC) (by rw [hB.1]; exact cg_X7_run l D ids H0 _ _ x (x + 94) s c _ hk) (by exact hk.1.1) rfl rfl (Nat.le_of_ble_eq_true rfl) (by rw [hB.2.1]; first | exact Nat.le_of_ble_eq_true rfl | (dsimp only; omega)) (by rw [hB.2.1]; first | exact Nat.le_of_ble_eq_true rfl | (dsimp only; omega)) (by rw [hB.2.1]; show ce + 0 ≤ 601024; omega) (by rw [hB.2.1]; show sl + 0 ≤ 7293034; omega) dL_law_613 (fun v h_613 n_613 p_613 => ?_)
  obtain ⟨r1, N2, rs2, rfl, rfl, hkA, hN2, frA⟩ := p_613
  have hRA := hR.run (rs := rs2) hN2
  have hmA : md_ok ids h_613 (x + 70) z := hm.cl frA
  obtain ⟨T, fu, k, S, hu⟩ := hmA
  try dsimp only [Option.toList, List.cons_append, List.nil_append]
  refine o_pop hC dL_law_616 rfl ?_
  refine o_aload_n hC dL_law_617 (by rfl) ?_
  refine o_aload_n hC dL_law_618 (by rfl) ?_
  refine o_iload hC dL_law_619 (by rfl) ?_
  refine o_iconst (v := nI 1) hC dL_law_621 (by decide +kernel) ?_
  refine o_iadd hC dL_law_622 ?_
  rw [nI_add]
  refine o_sld (k := 6 * j + 1) hC hB (by omega) (by omega) dL_law_623 ?_
  refine o_callV1 hC rl_BW_good rl_Ns_nw (by exact hB.2.2.2.2.2) YX8_run IX8_run VX8_run (mL_71 hC) (by rw [hB.1]; exact cm_X8_run l D ids H0 _ _ (x + 70) T fu k S z _ hu) (by exact hu.1.1) rfl rfl (Nat.le_of_ble_eq_true rfl) (by rw [hB.2.1]; first | exact Nat.le_of_ble_eq_true rfl | (dsimp only; omega)) (by rw [hB.2.1]; first | exact Nat.le_of_ble_eq_true rfl | (dsimp only; omega)) (by rw [hB.2.1]; show ce + 0 + 0 ≤ 601024; omega) (by rw [hB.2.1]; show sl + 0 + 0 ≤ 7293034; omega) dL_law_624 (fun v h_624 n_624 p_624 => ?_)
  obtain ⟨r2, rfl, rfl, hmB, frB⟩ := p_624
  try dsimp only [Option.toList, List.cons_append, List.nil_append]
  refine o_pop hC dL_law_627 rfl ?_
  refine o_goto (tgt := 1068) hC dL_law_628 (by decide) ?_
  refine rl_G.widen (ce' := ce + 403) (sl' := sl + 2892) (by omega) (by omega) ?_
  exact nx _ _ _ _ _ (lg_ok.of hou frA hkA hRA hmB frB)

set_option maxHeartbeats 4000000 in
set_option maxRecDepth 100000 in
theorem lg_c11 (l : Launch) (hl : l.stackTraces = false) (D : va_G) (ids : Nat → ClassId) (H0 : Heap) {b x L j : Nat} {xs : Nat → Int32} {X : rl_X} (hC : rl_C X (rl_e D ids H0) cL_law RL rl_BW rl_Ns) (hB : lw_B X (rl_e D ids H0) l b L xs) (hL : L ≤ 3072) (hj : 6 * j + 6 ≤ L) {h : rl_H} {n ce sl : Nat} {a5 a6 a7 : Option Value} (hg : lg_ok ids h n x) (hce : ce + 403 ≤ 601024) (hsl : sl + 2892 ≤ 7293034) (nx : ∀ (h' : rl_H) (n' : Nat) (a5 a6 a7 : Option Value), lg_ok ids h' n' x → rl_G X (rl_e D ids H0) 1068 [some (.ref b), some (.ref x), some (.ref (x + 70)), some (.ref (x + 93)), some (.int (nI (6 * j))), a5, a6, a7] [] h' n' (ce + 403) (sl + 2892)) : rl_G X (rl_e D ids H0) 631 [some (.ref b), some (.ref x), some (.ref (x + 70)), some (.ref (x + 93)), some (.int (nI (6 * j))), a5, a6, a7] [] h n ce sl := by
  obtain ⟨s, c, z, hk, hR, hm, of, hou⟩ := id hg
  refine o_aload_n hC dL_law_631 (by rfl) ?_
  refine o_aload_n hC dL_law_632 (by rfl) ?_
  refine o_iload hC dL_law_633 (by rfl) ?_
  refine o_iconst (v := nI 1) hC dL_law_635 (by decide +kernel) ?_
  refine o_iadd hC dL_law_636 ?_
  rw [nI_add]
  refine o_sld (k := 6 * j + 1) hC hB (by omega) (by omega) dL_law_637 ?_
  refine o_aload_n hC dL_law_638 (by rfl) ?_
  refine o_iload hC dL_law_639 (by rfl) ?_
  refine o_iconst (v := nI 2) hC dL_law_641 (by decide +kernel) ?_
  refine o_iadd hC dL_law_642 ?_
  rw [nI_add]
  refine o_sld (k := 6 * j + 2) hC hB (by omega) (by omega) dL_law_643 ?_
  refine o_aload_n hC dL_law_644 (by rfl) ?_
  refine o_callSW (As := [.ref x, .int (xs (6 * j + 1)), .int (xs (6 * j + 2)), .ref (x + 93)]) (rest := []) hC rl_BW_good rl_Ns_nw hB.2.2.2.1 (by exact hB.2.2.2.2.2) wL_cell zL sL_cell lL_cell ⟨by decide +kernel, by decide +kernel, (by decide +kernel : (parseMethodDescriptor yL_cell.desc).map (fun d => d.parameters.length) = some 4)⟩ (by rw [hB.1]; exact cg_L_cell l D ids H0 _ _ x (x + 93) s c of _ _ hl hk.1 hou) (Nat.le_of_ble_eq_true rfl) (by rw [hB.2.1]; first | exact Nat.le_of_ble_eq_true rfl | (dsimp only; omega)) (by rw [hB.2.1]; first | exact Nat.le_of_ble_eq_true rfl | (dsimp only; omega)) (by rw [hB.2.1]; show ce + 1 ≤ 601024; omega) (by rw [hB.2.1]; show sl + 6 ≤ 7293034; omega) dL_law_645 (fun v h_645 n_645 p_645 => ?_)
  obtain ⟨r1, rfl, n1, ⟨of2, hou2⟩, w2⟩ := p_645
  have hkA := hk.eqv (h' := h_645) n1 (fun q hq => w2 q (by omega))
  have hRA := hR
  have hmA : md_ok ids h_645 (x + 70) z := hm.eqv (fun q z1 z2 => w2 q (by omega))
  have frA : cl_fr h_645 h_645 x (x + 94) := cl_fr.rf
  obtain ⟨T, fu, k, S, hu⟩ := hmA
  try dsimp only [Option.toList, List.cons_append, List.nil_append]
  refine o_istore hC dL_law_648 (Nat.le_of_ble_eq_true rfl) ?_
  refine o_aload_n hC dL_law_650 (by rfl) ?_
  refine o_aload_n hC dL_law_651 (by rfl) ?_
  refine o_iload hC dL_law_652 (by rfl) ?_
  refine o_iconst (v := nI 1) hC dL_law_654 (by decide +kernel) ?_
  refine o_iadd hC dL_law_655 ?_
  rw [nI_add]
  refine o_sld (k := 6 * j + 1) hC hB (by omega) (by omega) dL_law_656 ?_
  refine o_aload_n hC dL_law_657 (by rfl) ?_
  refine o_iload hC dL_law_658 (by rfl) ?_
  refine o_iconst (v := nI 2) hC dL_law_660 (by decide +kernel) ?_
  refine o_iadd hC dL_law_661 ?_
  rw [nI_add]
  refine o_sld (k := 6 * j + 2) hC hB (by omega) (by omega) dL_law_662 ?_
  refine o_callV2 hC rl_BW_good rl_Ns_nw (by exact hB.2.2.2.2.2) YX8_cell IX8_cell VX8_cell (mL_77 hC) (by rw [hB.1]; exact cm_X8_cell l D ids H0 _ _ (x + 70) T fu k S z _ _ hu) (by exact hu.1.1) rfl rfl (Nat.le_of_ble_eq_true rfl) (by rw [hB.2.1]; first | exact Nat.le_of_ble_eq_true rfl | (dsimp only; omega)) (by rw [hB.2.1]; first | exact Nat.le_of_ble_eq_true rfl | (dsimp only; omega)) (by rw [hB.2.1]; show ce + 1 + 0 ≤ 601024; omega) (by rw [hB.2.1]; show sl + 6 + 0 ≤ 7293034; omega) dL_law_663 (fun v h_663 n_663 p_663 => ?_)
  obtain ⟨r2, rfl, rfl, hmB, frB⟩ := p_663
  replace hmB := hmB.ok
  try dsimp only [Option.toList, List.cons_append, List.nil_append]
  refine o_istore hC dL_law_666 (Nat.le_of_ble_eq_true rfl) ?_
  refine o_goto (tgt := 1068) hC dL_law_668 (by decide) ?_
  refine rl_G.widen (ce' := ce + 403) (sl' := sl + 2892) (by omega) (by omega) ?_
  exact nx _ _ _ _ _ (lg_ok.of hou2 frA hkA hRA hmB frB)

set_option maxHeartbeats 4000000 in
set_option maxRecDepth 100000 in
theorem lg_c12 (l : Launch) (hl : l.stackTraces = false) (D : va_G) (ids : Nat → ClassId) (H0 : Heap) {b x L j : Nat} {xs : Nat → Int32} {X : rl_X} (hC : rl_C X (rl_e D ids H0) cL_law RL rl_BW rl_Ns) (hB : lw_B X (rl_e D ids H0) l b L xs) (hL : L ≤ 3072) (hj : 6 * j + 6 ≤ L) {h : rl_H} {n ce sl : Nat} {a5 a6 a7 : Option Value} (hg : lg_ok ids h n x) (hce : ce + 403 ≤ 601024) (hsl : sl + 2892 ≤ 7293034) (nx : ∀ (h' : rl_H) (n' : Nat) (a5 a6 a7 : Option Value), lg_ok ids h' n' x → rl_G X (rl_e D ids H0) 1068 [some (.ref b), some (.ref x), some (.ref (x + 70)), some (.ref (x + 93)), some (.int (nI (6 * j))), a5, a6, a7] [] h' n' (ce + 403) (sl + 2892)) : rl_G X (rl_e D ids H0) 671 [some (.ref b), some (.ref x), some (.ref (x + 70)), some (.ref (x + 93)), some (.int (nI (6 * j))), a5, a6, a7] [] h n ce sl := by
  obtain ⟨s, c, z, hk, hR, hm, of, hou⟩ := id hg
  refine o_aload_n hC dL_law_671 (by rfl) ?_
  refine o_aload_n hC dL_law_672 (by rfl) ?_
  refine o_iload hC dL_law_673 (by rfl) ?_
  refine o_iconst (v := nI 1) hC dL_law_675 (by decide +kernel) ?_
  refine o_iadd hC dL_law_676 ?_
  rw [nI_add]
  refine o_sld (k := 6 * j + 1) hC hB (by omega) (by omega) dL_law_677 ?_
  refine o_callV1 hC rl_BW_good rl_Ns_nw (by exact hB.2.2.2.2.2) YX7_ways IX7_ways VX7_ways (mL_78 hC) (by rw [hB.1]; exact cg_X7_ways l D ids H0 _ _ x s c _ hk.1) (by exact hk.1.1) rfl rfl (Nat.le_of_ble_eq_true rfl) (by rw [hB.2.1]; first | exact Nat.le_of_ble_eq_true rfl | (dsimp only; omega)) (by rw [hB.2.1]; first | exact Nat.le_of_ble_eq_true rfl | (dsimp only; omega)) (by rw [hB.2.1]; show ce + 0 ≤ 601024; omega) (by rw [hB.2.1]; show sl + 0 ≤ 7293034; omega) dL_law_678 (fun v h_678 n_678 p_678 => ?_)
  obtain ⟨r1, rfl, rfl, rfl⟩ := p_678
  have hkA := hk
  have hRA := hR
  have frA : cl_fr h_678 h_678 x (x + 94) := cl_fr.rf
  have hmA : md_ok ids h_678 (x + 70) z := hm.cl frA
  obtain ⟨T, fu, k, S, hu⟩ := hmA
  try dsimp only [Option.toList, List.cons_append, List.nil_append]
  refine o_pop hC dL_law_681 rfl ?_
  refine o_aload_n hC dL_law_682 (by rfl) ?_
  refine o_aload_n hC dL_law_683 (by rfl) ?_
  refine o_iload hC dL_law_684 (by rfl) ?_
  refine o_iconst (v := nI 1) hC dL_law_686 (by decide +kernel) ?_
  refine o_iadd hC dL_law_687 ?_
  rw [nI_add]
  refine o_sld (k := 6 * j + 1) hC hB (by omega) (by omega) dL_law_688 ?_
  refine o_callV1 hC rl_BW_good rl_Ns_nw (by exact hB.2.2.2.2.2) YX8_ways IX8_ways VX8_ways (mL_81 hC) (by rw [hB.1]; exact cm_X8_ways l D ids H0 _ _ (x + 70) T fu k S z _ hu) (by exact hu.1.1) rfl rfl (Nat.le_of_ble_eq_true rfl) (by rw [hB.2.1]; first | exact Nat.le_of_ble_eq_true rfl | (dsimp only; omega)) (by rw [hB.2.1]; first | exact Nat.le_of_ble_eq_true rfl | (dsimp only; omega)) (by rw [hB.2.1]; show ce + 0 + 0 ≤ 601024; omega) (by rw [hB.2.1]; show sl + 0 + 0 ≤ 7293034; omega) dL_law_689 (fun v h_689 n_689 p_689 => ?_)
  obtain ⟨r2, rfl, rfl, hmB, frB⟩ := p_689
  replace hmB := hmB.ok
  try dsimp only [Option.toList, List.cons_append, List.nil_append]
  refine o_pop hC dL_law_692 rfl ?_
  refine o_goto (tgt := 1068) hC dL_law_693 (by decide) ?_
  refine rl_G.widen (ce' := ce + 403) (sl' := sl + 2892) (by omega) (by omega) ?_
  exact nx _ _ _ _ _ (lg_ok.of hou frA hkA hRA hmB frB)

set_option maxHeartbeats 4000000 in
set_option maxRecDepth 100000 in
theorem lg_c13 (l : Launch) (hl : l.stackTraces = false) (D : va_G) (ids : Nat → ClassId) (H0 : Heap) {b x L j : Nat} {xs : Nat → Int32} {X : rl_X} (hC : rl_C X (rl_e D ids H0) cL_law RL rl_BW rl_Ns) (hB : lw_B X (rl_e D ids H0) l b L xs) (hL : L ≤ 3072) (hj : 6 * j + 6 ≤ L) {h : rl_H} {n ce sl : Nat} {a5 a6 a7 : Option Value} (hg : lg_ok ids h n x) (hce : ce + 403 ≤ 601024) (hsl : sl + 2892 ≤ 7293034) (nx : ∀ (h' : rl_H) (n' : Nat) (a5 a6 a7 : Option Value), lg_ok ids h' n' x → rl_G X (rl_e D ids H0) 1068 [some (.ref b), some (.ref x), some (.ref (x + 70)), some (.ref (x + 93)), some (.int (nI (6 * j))), a5, a6, a7] [] h' n' (ce + 403) (sl + 2892)) : rl_G X (rl_e D ids H0) 696 [some (.ref b), some (.ref x), some (.ref (x + 70)), some (.ref (x + 93)), some (.int (nI (6 * j))), a5, a6, a7] [] h n ce sl := by
  obtain ⟨s, c, z, hk, hR, hm, of, hou⟩ := id hg
  refine o_aload_n hC dL_law_696 (by rfl) ?_
  refine o_aload_n hC dL_law_697 (by rfl) ?_
  refine o_iload hC dL_law_698 (by rfl) ?_
  refine o_iconst (v := nI 1) hC dL_law_700 (by decide +kernel) ?_
  refine o_iadd hC dL_law_701 ?_
  rw [nI_add]
  refine o_sld (k := 6 * j + 1) hC hB (by omega) (by omega) dL_law_702 ?_
  refine o_aload_n hC dL_law_703 (by rfl) ?_
  refine o_iload hC dL_law_704 (by rfl) ?_
  refine o_iconst (v := nI 2) hC dL_law_706 (by decide +kernel) ?_
  refine o_iadd hC dL_law_707 ?_
  rw [nI_add]
  refine o_sld (k := 6 * j + 2) hC hB (by omega) (by omega) dL_law_708 ?_
  refine o_aload_n hC dL_law_709 (by rfl) ?_
  refine o_iload hC dL_law_710 (by rfl) ?_
  refine o_iconst (v := nI 3) hC dL_law_712 (by decide +kernel) ?_
  refine o_iadd hC dL_law_713 ?_
  rw [nI_add]
  refine o_sld (k := 6 * j + 3) hC hB (by omega) (by omega) dL_law_714 ?_
  refine o_aload_n hC dL_law_715 (by rfl) ?_
  refine o_callSW (As := [.ref x, .int (xs (6 * j + 1)), .int (xs (6 * j + 2)), .int (xs (6 * j + 3)), .ref (x + 93)]) (rest := []) hC rl_BW_good rl_Ns_nw hB.2.2.2.1 (by exact hB.2.2.2.2.2) wL_way zL sL_way lL_way ⟨by decide +kernel, by decide +kernel, (by decide +kernel : (parseMethodDescriptor yL_way.desc).map (fun d => d.parameters.length) = some 5)⟩ (by rw [hB.1]; exact cg_L_way l D ids H0 _ _ x (x + 93) s c of _ _ _ hl hk.1 hou) (Nat.le_of_ble_eq_true rfl) (by rw [hB.2.1]; first | exact Nat.le_of_ble_eq_true rfl | (dsimp only; omega)) (by rw [hB.2.1]; first | exact Nat.le_of_ble_eq_true rfl | (dsimp only; omega)) (by rw [hB.2.1]; show ce + 1 ≤ 601024; omega) (by rw [hB.2.1]; show sl + 6 ≤ 7293034; omega) dL_law_716 (fun v h_716 n_716 p_716 => ?_)
  obtain ⟨r1, rfl, n1, ⟨of2, hou2⟩, w2⟩ := p_716
  have hkA := hk.eqv (h' := h_716) n1 (fun q hq => w2 q (by omega))
  have hRA := hR
  have hmA : md_ok ids h_716 (x + 70) z := hm.eqv (fun q z1 z2 => w2 q (by omega))
  have frA : cl_fr h_716 h_716 x (x + 94) := cl_fr.rf
  obtain ⟨T, fu, k, S, hu⟩ := hmA
  try dsimp only [Option.toList, List.cons_append, List.nil_append]
  refine o_istore hC dL_law_719 (Nat.le_of_ble_eq_true rfl) ?_
  refine o_aload_n hC dL_law_721 (by rfl) ?_
  refine o_aload_n hC dL_law_722 (by rfl) ?_
  refine o_iload hC dL_law_723 (by rfl) ?_
  refine o_iconst (v := nI 1) hC dL_law_725 (by decide +kernel) ?_
  refine o_iadd hC dL_law_726 ?_
  rw [nI_add]
  refine o_sld (k := 6 * j + 1) hC hB (by omega) (by omega) dL_law_727 ?_
  refine o_aload_n hC dL_law_728 (by rfl) ?_
  refine o_iload hC dL_law_729 (by rfl) ?_
  refine o_iconst (v := nI 2) hC dL_law_731 (by decide +kernel) ?_
  refine o_iadd hC dL_law_732 ?_
  rw [nI_add]
  refine o_sld (k := 6 * j + 2) hC hB (by omega) (by omega) dL_law_733 ?_
  refine o_aload_n hC dL_law_734 (by rfl) ?_
  refine o_iload hC dL_law_735 (by rfl) ?_
  refine o_iconst (v := nI 3) hC dL_law_737 (by decide +kernel) ?_
  refine o_iadd hC dL_law_738 ?_
  rw [nI_add]
  refine o_sld (k := 6 * j + 3) hC hB (by omega) (by omega) dL_law_739 ?_
  refine o_callV3 hC rl_BW_good rl_Ns_nw (by exact hB.2.2.2.2.2) YX8_way IX8_way VX8_way (mL_85 hC) (by rw [hB.1]; exact cm_X8_way l D ids H0 _ _ (x + 70) T fu k S z _ _ _ hu) (by exact hu.1.1) rfl rfl (Nat.le_of_ble_eq_true rfl) (by rw [hB.2.1]; first | exact Nat.le_of_ble_eq_true rfl | (dsimp only; omega)) (by rw [hB.2.1]; first | exact Nat.le_of_ble_eq_true rfl | (dsimp only; omega)) (by rw [hB.2.1]; show ce + 1 + 0 ≤ 601024; omega) (by rw [hB.2.1]; show sl + 6 + 0 ≤ 7293034; omega) dL_law_740 (fun v h_740 n_740 p_740 => ?_)
  obtain ⟨r2, rfl, rfl, hmB, frB⟩ := p_740
  replace hmB := hmB.ok
  try dsimp only [Option.toList, List.cons_append, List.nil_append]
  refine o_lstore hC dL_law_743 (Nat.le_of_ble_eq_true rfl) ?_
  refine o_goto (tgt := 1068) hC dL_law_745 (by decide) ?_
  refine rl_G.widen (ce' := ce + 403) (sl' := sl + 2892) (by omega) (by omega) ?_
  exact nx _ _ _ _ _ (lg_ok.of hou2 frA hkA hRA hmB frB)

set_option maxHeartbeats 4000000 in
set_option maxRecDepth 100000 in
theorem lg_c14 (l : Launch) (hl : l.stackTraces = false) (D : va_G) (ids : Nat → ClassId) (H0 : Heap) {b x L j : Nat} {xs : Nat → Int32} {X : rl_X} (hC : rl_C X (rl_e D ids H0) cL_law RL rl_BW rl_Ns) (hB : lw_B X (rl_e D ids H0) l b L xs) (hL : L ≤ 3072) (hj : 6 * j + 6 ≤ L) {h : rl_H} {n ce sl : Nat} {a5 a6 a7 : Option Value} (hg : lg_ok ids h n x) (hce : ce + 403 ≤ 601024) (hsl : sl + 2892 ≤ 7293034) (nx : ∀ (h' : rl_H) (n' : Nat) (a5 a6 a7 : Option Value), lg_ok ids h' n' x → rl_G X (rl_e D ids H0) 1068 [some (.ref b), some (.ref x), some (.ref (x + 70)), some (.ref (x + 93)), some (.int (nI (6 * j))), a5, a6, a7] [] h' n' (ce + 403) (sl + 2892)) : rl_G X (rl_e D ids H0) 748 [some (.ref b), some (.ref x), some (.ref (x + 70)), some (.ref (x + 93)), some (.int (nI (6 * j))), a5, a6, a7] [] h n ce sl := by
  obtain ⟨s, c, z, hk, hR, hm, of, hou⟩ := id hg
  refine o_aload_n hC dL_law_748 (by rfl) ?_
  refine o_aload_n hC dL_law_749 (by rfl) ?_
  refine o_iload hC dL_law_750 (by rfl) ?_
  refine o_iconst (v := nI 1) hC dL_law_752 (by decide +kernel) ?_
  refine o_iadd hC dL_law_753 ?_
  rw [nI_add]
  refine o_sld (k := 6 * j + 1) hC hB (by omega) (by omega) dL_law_754 ?_
  refine o_aload_n hC dL_law_755 (by rfl) ?_
  refine o_iload hC dL_law_756 (by rfl) ?_
  refine o_iconst (v := nI 2) hC dL_law_758 (by decide +kernel) ?_
  refine o_iadd hC dL_law_759 ?_
  rw [nI_add]
  refine o_sld (k := 6 * j + 2) hC hB (by omega) (by omega) dL_law_760 ?_
  refine o_if_eq (tgt := 768) hC dL_law_761 (by decide) (fun c_761 => ?_) (fun c_761 => ?_)
  · refine o_iconst (v := nI 0) hC dL_law_768 (by decide +kernel) ?_
    refine o_callV2 hC rl_BW_good rl_Ns_nw (by exact hB.2.2.2.2.2) YX7_drop IX7_drop VX7_drop (mL_86 hC) (by rw [hB.1]; exact cg_X7_drop l D ids H0 _ _ x s c _ _ hk.1) (by exact hk.1.1) rfl rfl (Nat.le_of_ble_eq_true rfl) (by rw [hB.2.1]; first | exact Nat.le_of_ble_eq_true rfl | (dsimp only; omega)) (by rw [hB.2.1]; first | exact Nat.le_of_ble_eq_true rfl | (dsimp only; omega)) (by rw [hB.2.1]; show ce + 0 ≤ 601024; omega) (by rw [hB.2.1]; show sl + 0 ≤ 7293034; omega) dL_law_769 (fun v h_769 n_769 p_769 => ?_)
    obtain ⟨r1, rfl, rfl, w1⟩ := p_769
    obtain ⟨c2, hkA, hRA, e1, frA⟩ := cl_dr hk hR w1
    have hmA : md_ok ids h_769 (x + 70) z := hm.cl frA
    obtain ⟨T, fu, k, S, hu⟩ := hmA
    try dsimp only [Option.toList, List.cons_append, List.nil_append]
    refine o_pop hC dL_law_772 rfl ?_
    refine o_aload_n hC dL_law_773 (by rfl) ?_
    refine o_aload_n hC dL_law_774 (by rfl) ?_
    refine o_iload hC dL_law_775 (by rfl) ?_
    refine o_iconst (v := nI 1) hC dL_law_777 (by decide +kernel) ?_
    refine o_iadd hC dL_law_778 ?_
    rw [nI_add]
    refine o_sld (k := 6 * j + 1) hC hB (by omega) (by omega) dL_law_779 ?_
    refine o_aload_n hC dL_law_780 (by rfl) ?_
    refine o_iload hC dL_law_781 (by rfl) ?_
    refine o_iconst (v := nI 2) hC dL_law_783 (by decide +kernel) ?_
    refine o_iadd hC dL_law_784 ?_
    rw [nI_add]
    refine o_sld (k := 6 * j + 2) hC hB (by omega) (by omega) dL_law_785 ?_
    refine o_if_eq (tgt := 793) hC dL_law_786 (by decide) (fun c_786 => ?_) (fun c_786 => ?_)
    · refine o_iconst (v := nI 0) hC dL_law_793 (by decide +kernel) ?_
      refine o_callV2 hC rl_BW_good rl_Ns_nw (by exact hB.2.2.2.2.2) YX8_drop IX8_drop VX8_drop (mL_90 hC) (by rw [hB.1]; exact cm_X8_drop l D ids H0 _ _ (x + 70) T fu k S z _ _ hu (by first | exact Or.inl rfl | exact Or.inr rfl)) (by exact hu.1.1) rfl rfl (Nat.le_of_ble_eq_true rfl) (by rw [hB.2.1]; first | exact Nat.le_of_ble_eq_true rfl | (dsimp only; omega)) (by rw [hB.2.1]; first | exact Nat.le_of_ble_eq_true rfl | (dsimp only; omega)) (by rw [hB.2.1]; show ce + 0 + 0 ≤ 601024; omega) (by rw [hB.2.1]; show sl + 0 + 0 ≤ 7293034; omega) dL_law_794 (fun v h_794 n_794 p_794 => ?_)
      obtain ⟨r2, rfl, rfl, hmB, e2, frB⟩ := p_794
      replace hmB := hmB.ok
      try dsimp only [Option.toList, List.cons_append, List.nil_append]
      refine o_pop hC dL_law_797 rfl ?_
      refine o_goto (tgt := 1068) hC dL_law_798 (by decide) ?_
      first
      | exact absurd c_761 c_786
      | exact absurd c_786 c_761
      | (refine rl_G.widen (ce' := ce + 403) (sl' := sl + 2892) (by omega) (by omega) ?_; exact nx _ _ _ _ _ (lg_ok.of hou frA hkA hRA hmB frB))
    · refine o_iconst (v := nI 1) hC dL_law_789 (by decide +kernel) ?_
      refine o_goto (tgt := 794) hC dL_law_790 (by decide) ?_
      refine o_callV2 hC rl_BW_good rl_Ns_nw (by exact hB.2.2.2.2.2) YX8_drop IX8_drop VX8_drop (mL_90 hC) (by rw [hB.1]; exact cm_X8_drop l D ids H0 _ _ (x + 70) T fu k S z _ _ hu (by first | exact Or.inl rfl | exact Or.inr rfl)) (by exact hu.1.1) rfl rfl (Nat.le_of_ble_eq_true rfl) (by rw [hB.2.1]; first | exact Nat.le_of_ble_eq_true rfl | (dsimp only; omega)) (by rw [hB.2.1]; first | exact Nat.le_of_ble_eq_true rfl | (dsimp only; omega)) (by rw [hB.2.1]; show ce + 0 + 0 ≤ 601024; omega) (by rw [hB.2.1]; show sl + 0 + 0 ≤ 7293034; omega) dL_law_794 (fun v h_794 n_794 p_794 => ?_)
      obtain ⟨r2, rfl, rfl, hmB, e2, frB⟩ := p_794
      replace hmB := hmB.ok
      try dsimp only [Option.toList, List.cons_append, List.nil_append]
      refine o_pop hC dL_law_797 rfl ?_
      refine o_goto (tgt := 1068) hC dL_law_798 (by decide) ?_
      first
      | exact absurd c_761 c_786
      | exact absurd c_786 c_761
      | (refine rl_G.widen (ce' := ce + 403) (sl' := sl + 2892) (by omega) (by omega) ?_; exact nx _ _ _ _ _ (lg_ok.of hou frA hkA hRA hmB frB))
  · refine o_iconst (v := nI 1) hC dL_law_764 (by decide +kernel) ?_
    refine o_goto (tgt := 769) hC dL_law_765 (by decide) ?_
    refine o_callV2 hC rl_BW_good rl_Ns_nw (by exact hB.2.2.2.2.2) YX7_drop IX7_drop VX7_drop (mL_86 hC) (by rw [hB.1]; exact cg_X7_drop l D ids H0 _ _ x s c _ _ hk.1) (by exact hk.1.1) rfl rfl (Nat.le_of_ble_eq_true rfl) (by rw [hB.2.1]; first | exact Nat.le_of_ble_eq_true rfl | (dsimp only; omega)) (by rw [hB.2.1]; first | exact Nat.le_of_ble_eq_true rfl | (dsimp only; omega)) (by rw [hB.2.1]; show ce + 0 ≤ 601024; omega) (by rw [hB.2.1]; show sl + 0 ≤ 7293034; omega) dL_law_769 (fun v h_769 n_769 p_769 => ?_)
    obtain ⟨r1, rfl, rfl, w1⟩ := p_769
    obtain ⟨c2, hkA, hRA, e1, frA⟩ := cl_dr hk hR w1
    have hmA : md_ok ids h_769 (x + 70) z := hm.cl frA
    obtain ⟨T, fu, k, S, hu⟩ := hmA
    try dsimp only [Option.toList, List.cons_append, List.nil_append]
    refine o_pop hC dL_law_772 rfl ?_
    refine o_aload_n hC dL_law_773 (by rfl) ?_
    refine o_aload_n hC dL_law_774 (by rfl) ?_
    refine o_iload hC dL_law_775 (by rfl) ?_
    refine o_iconst (v := nI 1) hC dL_law_777 (by decide +kernel) ?_
    refine o_iadd hC dL_law_778 ?_
    rw [nI_add]
    refine o_sld (k := 6 * j + 1) hC hB (by omega) (by omega) dL_law_779 ?_
    refine o_aload_n hC dL_law_780 (by rfl) ?_
    refine o_iload hC dL_law_781 (by rfl) ?_
    refine o_iconst (v := nI 2) hC dL_law_783 (by decide +kernel) ?_
    refine o_iadd hC dL_law_784 ?_
    rw [nI_add]
    refine o_sld (k := 6 * j + 2) hC hB (by omega) (by omega) dL_law_785 ?_
    refine o_if_eq (tgt := 793) hC dL_law_786 (by decide) (fun c_786 => ?_) (fun c_786 => ?_)
    · refine o_iconst (v := nI 0) hC dL_law_793 (by decide +kernel) ?_
      refine o_callV2 hC rl_BW_good rl_Ns_nw (by exact hB.2.2.2.2.2) YX8_drop IX8_drop VX8_drop (mL_90 hC) (by rw [hB.1]; exact cm_X8_drop l D ids H0 _ _ (x + 70) T fu k S z _ _ hu (by first | exact Or.inl rfl | exact Or.inr rfl)) (by exact hu.1.1) rfl rfl (Nat.le_of_ble_eq_true rfl) (by rw [hB.2.1]; first | exact Nat.le_of_ble_eq_true rfl | (dsimp only; omega)) (by rw [hB.2.1]; first | exact Nat.le_of_ble_eq_true rfl | (dsimp only; omega)) (by rw [hB.2.1]; show ce + 0 + 0 ≤ 601024; omega) (by rw [hB.2.1]; show sl + 0 + 0 ≤ 7293034; omega) dL_law_794 (fun v h_794 n_794 p_794 => ?_)
      obtain ⟨r2, rfl, rfl, hmB, e2, frB⟩ := p_794
      replace hmB := hmB.ok
      try dsimp only [Option.toList, List.cons_append, List.nil_append]
      refine o_pop hC dL_law_797 rfl ?_
      refine o_goto (tgt := 1068) hC dL_law_798 (by decide) ?_
      first
      | exact absurd c_761 c_786
      | exact absurd c_786 c_761
      | (refine rl_G.widen (ce' := ce + 403) (sl' := sl + 2892) (by omega) (by omega) ?_; exact nx _ _ _ _ _ (lg_ok.of hou frA hkA hRA hmB frB))
    · refine o_iconst (v := nI 1) hC dL_law_789 (by decide +kernel) ?_
      refine o_goto (tgt := 794) hC dL_law_790 (by decide) ?_
      refine o_callV2 hC rl_BW_good rl_Ns_nw (by exact hB.2.2.2.2.2) YX8_drop IX8_drop VX8_drop (mL_90 hC) (by rw [hB.1]; exact cm_X8_drop l D ids H0 _ _ (x + 70) T fu k S z _ _ hu (by first | exact Or.inl rfl | exact Or.inr rfl)) (by exact hu.1.1) rfl rfl (Nat.le_of_ble_eq_true rfl) (by rw [hB.2.1]; first | exact Nat.le_of_ble_eq_true rfl | (dsimp only; omega)) (by rw [hB.2.1]; first | exact Nat.le_of_ble_eq_true rfl | (dsimp only; omega)) (by rw [hB.2.1]; show ce + 0 + 0 ≤ 601024; omega) (by rw [hB.2.1]; show sl + 0 + 0 ≤ 7293034; omega) dL_law_794 (fun v h_794 n_794 p_794 => ?_)
      obtain ⟨r2, rfl, rfl, hmB, e2, frB⟩ := p_794
      replace hmB := hmB.ok
      try dsimp only [Option.toList, List.cons_append, List.nil_append]
      refine o_pop hC dL_law_797 rfl ?_
      refine o_goto (tgt := 1068) hC dL_law_798 (by decide) ?_
      first
      | exact absurd c_761 c_786
      | exact absurd c_786 c_761
      | (refine rl_G.widen (ce' := ce + 403) (sl' := sl + 2892) (by omega) (by omega) ?_; exact nx _ _ _ _ _ (lg_ok.of hou frA hkA hRA hmB frB))

set_option maxHeartbeats 4000000 in
set_option maxRecDepth 100000 in
theorem lg_c15 (l : Launch) (hl : l.stackTraces = false) (D : va_G) (ids : Nat → ClassId) (H0 : Heap) {b x L j : Nat} {xs : Nat → Int32} {X : rl_X} (hC : rl_C X (rl_e D ids H0) cL_law RL rl_BW rl_Ns) (hB : lw_B X (rl_e D ids H0) l b L xs) (hL : L ≤ 3072) (hj : 6 * j + 6 ≤ L) {h : rl_H} {n ce sl : Nat} {a5 a6 a7 : Option Value} (hg : lg_ok ids h n x) (hce : ce + 403 ≤ 601024) (hsl : sl + 2892 ≤ 7293034) (nx : ∀ (h' : rl_H) (n' : Nat) (a5 a6 a7 : Option Value), lg_ok ids h' n' x → rl_G X (rl_e D ids H0) 1068 [some (.ref b), some (.ref x), some (.ref (x + 70)), some (.ref (x + 93)), some (.int (nI (6 * j))), a5, a6, a7] [] h' n' (ce + 403) (sl + 2892)) : rl_G X (rl_e D ids H0) 801 [some (.ref b), some (.ref x), some (.ref (x + 70)), some (.ref (x + 93)), some (.int (nI (6 * j))), a5, a6, a7] [] h n ce sl := by
  obtain ⟨s, c, z, hk, hR, hm, of, hou⟩ := id hg
  refine o_aload_n hC dL_law_801 (by rfl) ?_
  refine o_aload_n hC dL_law_802 (by rfl) ?_
  refine o_iload hC dL_law_803 (by rfl) ?_
  refine o_iconst (v := nI 1) hC dL_law_805 (by decide +kernel) ?_
  refine o_iadd hC dL_law_806 ?_
  rw [nI_add]
  refine o_sld (k := 6 * j + 1) hC hB (by omega) (by omega) dL_law_807 ?_
  refine o_callV1 hC rl_BW_good rl_Ns_nw (by exact hB.2.2.2.2.2) YX7_holds IX7_holds VX7_holds (mL_91 hC) (by rw [hB.1]; exact cg_X7_holds l D ids H0 _ _ x s c _ hk.1) (by exact hk.1.1) rfl rfl (Nat.le_of_ble_eq_true rfl) (by rw [hB.2.1]; first | exact Nat.le_of_ble_eq_true rfl | (dsimp only; omega)) (by rw [hB.2.1]; first | exact Nat.le_of_ble_eq_true rfl | (dsimp only; omega)) (by rw [hB.2.1]; show ce + 0 ≤ 601024; omega) (by rw [hB.2.1]; show sl + 0 ≤ 7293034; omega) dL_law_808 (fun v h_808 n_808 p_808 => ?_)
  obtain ⟨r1, rfl, rfl, rfl⟩ := p_808
  have hkA := hk
  have hRA := hR
  have frA : cl_fr h_808 h_808 x (x + 94) := cl_fr.rf
  have hmA : md_ok ids h_808 (x + 70) z := hm.cl frA
  obtain ⟨T, fu, k, S, hu⟩ := hmA
  try dsimp only [Option.toList, List.cons_append, List.nil_append]
  refine o_pop hC dL_law_811 rfl ?_
  refine o_aload_n hC dL_law_812 (by rfl) ?_
  refine o_aload_n hC dL_law_813 (by rfl) ?_
  refine o_iload hC dL_law_814 (by rfl) ?_
  refine o_iconst (v := nI 1) hC dL_law_816 (by decide +kernel) ?_
  refine o_iadd hC dL_law_817 ?_
  rw [nI_add]
  refine o_sld (k := 6 * j + 1) hC hB (by omega) (by omega) dL_law_818 ?_
  refine o_callV1 hC rl_BW_good rl_Ns_nw (by exact hB.2.2.2.2.2) YX8_holds IX8_holds VX8_holds (mL_94 hC) (by rw [hB.1]; exact cm_X8_holds l D ids H0 _ _ (x + 70) T fu k S z _ hu) (by exact hu.1.1) rfl rfl (Nat.le_of_ble_eq_true rfl) (by rw [hB.2.1]; first | exact Nat.le_of_ble_eq_true rfl | (dsimp only; omega)) (by rw [hB.2.1]; first | exact Nat.le_of_ble_eq_true rfl | (dsimp only; omega)) (by rw [hB.2.1]; show ce + 0 + 0 ≤ 601024; omega) (by rw [hB.2.1]; show sl + 0 + 0 ≤ 7293034; omega) dL_law_819 (fun v h_819 n_819 p_819 => ?_)
  obtain ⟨r2, rfl, rfl, hmB, frB⟩ := p_819
  replace hmB := hmB.ok
  try dsimp only [Option.toList, List.cons_append, List.nil_append]
  refine o_pop hC dL_law_822 rfl ?_
  refine o_goto (tgt := 1068) hC dL_law_823 (by decide) ?_
  refine rl_G.widen (ce' := ce + 403) (sl' := sl + 2892) (by omega) (by omega) ?_
  exact nx _ _ _ _ _ (lg_ok.of hou frA hkA hRA hmB frB)

set_option maxHeartbeats 4000000 in
set_option maxRecDepth 100000 in
theorem lg_c16 (l : Launch) (hl : l.stackTraces = false) (D : va_G) (ids : Nat → ClassId) (H0 : Heap) {b x L j : Nat} {xs : Nat → Int32} {X : rl_X} (hC : rl_C X (rl_e D ids H0) cL_law RL rl_BW rl_Ns) (hB : lw_B X (rl_e D ids H0) l b L xs) (hL : L ≤ 3072) (hj : 6 * j + 6 ≤ L) {h : rl_H} {n ce sl : Nat} {a5 a6 a7 : Option Value} (hg : lg_ok ids h n x) (hce : ce + 403 ≤ 601024) (hsl : sl + 2892 ≤ 7293034) (nx : ∀ (h' : rl_H) (n' : Nat) (a5 a6 a7 : Option Value), lg_ok ids h' n' x → rl_G X (rl_e D ids H0) 1068 [some (.ref b), some (.ref x), some (.ref (x + 70)), some (.ref (x + 93)), some (.int (nI (6 * j))), a5, a6, a7] [] h' n' (ce + 403) (sl + 2892)) : rl_G X (rl_e D ids H0) 826 [some (.ref b), some (.ref x), some (.ref (x + 70)), some (.ref (x + 93)), some (.int (nI (6 * j))), a5, a6, a7] [] h n ce sl := by
  obtain ⟨s, c, z, hk, hR, hm, of, hou⟩ := id hg
  refine o_aload_n hC dL_law_826 (by rfl) ?_
  refine o_aload_n hC dL_law_827 (by rfl) ?_
  refine o_iload hC dL_law_828 (by rfl) ?_
  refine o_iconst (v := nI 1) hC dL_law_830 (by decide +kernel) ?_
  refine o_iadd hC dL_law_831 ?_
  rw [nI_add]
  refine o_sld (k := 6 * j + 1) hC hB (by omega) (by omega) dL_law_832 ?_
  refine o_callV1 hC rl_BW_good rl_Ns_nw (by exact hB.2.2.2.2.2) YX7_made IX7_made VX7_made (mL_95 hC) (by rw [hB.1]; exact cg_X7_made l D ids H0 _ _ x s c _ hk.1) (by exact hk.1.1) rfl rfl (Nat.le_of_ble_eq_true rfl) (by rw [hB.2.1]; first | exact Nat.le_of_ble_eq_true rfl | (dsimp only; omega)) (by rw [hB.2.1]; first | exact Nat.le_of_ble_eq_true rfl | (dsimp only; omega)) (by rw [hB.2.1]; show ce + 0 ≤ 601024; omega) (by rw [hB.2.1]; show sl + 0 ≤ 7293034; omega) dL_law_833 (fun v h_833 n_833 p_833 => ?_)
  obtain ⟨r1, rfl, rfl, rfl⟩ := p_833
  have hkA := hk
  have hRA := hR
  have frA : cl_fr h_833 h_833 x (x + 94) := cl_fr.rf
  have hmA : md_ok ids h_833 (x + 70) z := hm.cl frA
  obtain ⟨T, fu, k, S, hu⟩ := hmA
  try dsimp only [Option.toList, List.cons_append, List.nil_append]
  refine o_pop hC dL_law_836 rfl ?_
  refine o_aload_n hC dL_law_837 (by rfl) ?_
  refine o_aload_n hC dL_law_838 (by rfl) ?_
  refine o_iload hC dL_law_839 (by rfl) ?_
  refine o_iconst (v := nI 1) hC dL_law_841 (by decide +kernel) ?_
  refine o_iadd hC dL_law_842 ?_
  rw [nI_add]
  refine o_sld (k := 6 * j + 1) hC hB (by omega) (by omega) dL_law_843 ?_
  refine o_callV1 hC rl_BW_good rl_Ns_nw (by exact hB.2.2.2.2.2) YX8_made IX8_made VX8_made (mL_98 hC) (by rw [hB.1]; exact cm_X8_made l D ids H0 _ _ (x + 70) T fu k S z _ hu) (by exact hu.1.1) rfl rfl (Nat.le_of_ble_eq_true rfl) (by rw [hB.2.1]; first | exact Nat.le_of_ble_eq_true rfl | (dsimp only; omega)) (by rw [hB.2.1]; first | exact Nat.le_of_ble_eq_true rfl | (dsimp only; omega)) (by rw [hB.2.1]; show ce + 0 + 0 ≤ 601024; omega) (by rw [hB.2.1]; show sl + 0 + 0 ≤ 7293034; omega) dL_law_844 (fun v h_844 n_844 p_844 => ?_)
  obtain ⟨r2, rfl, rfl, hmB, frB⟩ := p_844
  replace hmB := hmB.ok
  try dsimp only [Option.toList, List.cons_append, List.nil_append]
  refine o_pop hC dL_law_847 rfl ?_
  refine o_goto (tgt := 1068) hC dL_law_848 (by decide) ?_
  refine rl_G.widen (ce' := ce + 403) (sl' := sl + 2892) (by omega) (by omega) ?_
  exact nx _ _ _ _ _ (lg_ok.of hou frA hkA hRA hmB frB)

set_option maxHeartbeats 4000000 in
set_option maxRecDepth 100000 in
theorem lg_c17 (l : Launch) (hl : l.stackTraces = false) (D : va_G) (ids : Nat → ClassId) (H0 : Heap) {b x L j : Nat} {xs : Nat → Int32} {X : rl_X} (hC : rl_C X (rl_e D ids H0) cL_law RL rl_BW rl_Ns) (hB : lw_B X (rl_e D ids H0) l b L xs) (hL : L ≤ 3072) (hj : 6 * j + 6 ≤ L) {h : rl_H} {n ce sl : Nat} {a5 a6 a7 : Option Value} (hg : lg_ok ids h n x) (hce : ce + 403 ≤ 601024) (hsl : sl + 2892 ≤ 7293034) (nx : ∀ (h' : rl_H) (n' : Nat) (a5 a6 a7 : Option Value), lg_ok ids h' n' x → rl_G X (rl_e D ids H0) 1068 [some (.ref b), some (.ref x), some (.ref (x + 70)), some (.ref (x + 93)), some (.int (nI (6 * j))), a5, a6, a7] [] h' n' (ce + 403) (sl + 2892)) : rl_G X (rl_e D ids H0) 851 [some (.ref b), some (.ref x), some (.ref (x + 70)), some (.ref (x + 93)), some (.int (nI (6 * j))), a5, a6, a7] [] h n ce sl := by
  obtain ⟨s, c, z, hk, hR, hm, of, hou⟩ := id hg
  refine o_aload_n hC dL_law_851 (by rfl) ?_
  refine o_aload_n hC dL_law_852 (by rfl) ?_
  refine o_iload hC dL_law_853 (by rfl) ?_
  refine o_iconst (v := nI 1) hC dL_law_855 (by decide +kernel) ?_
  refine o_iadd hC dL_law_856 ?_
  rw [nI_add]
  refine o_sld (k := 6 * j + 1) hC hB (by omega) (by omega) dL_law_857 ?_
  refine o_aload_n hC dL_law_858 (by rfl) ?_
  refine o_iload hC dL_law_859 (by rfl) ?_
  refine o_iconst (v := nI 2) hC dL_law_861 (by decide +kernel) ?_
  refine o_iadd hC dL_law_862 ?_
  rw [nI_add]
  refine o_sld (k := 6 * j + 2) hC hB (by omega) (by omega) dL_law_863 ?_
  refine o_i2l hC dL_law_864 ?_
  refine o_bipush (v := nI 32) hC dL_law_865 (by decide +kernel) ?_
  refine o_lshl hC dL_law_867 ?_
  refine o_aload_n hC dL_law_868 (by rfl) ?_
  refine o_iload hC dL_law_869 (by rfl) ?_
  refine o_iconst (v := nI 3) hC dL_law_871 (by decide +kernel) ?_
  refine o_iadd hC dL_law_872 ?_
  rw [nI_add]
  refine o_sld (k := 6 * j + 3) hC hB (by omega) (by omega) dL_law_873 ?_
  refine o_i2l hC dL_law_874 ?_
  refine o_ldc2 hC nL_99 dL_law_875 ?_
  refine o_land hC dL_law_878 ?_
  refine o_lor hC dL_law_879 ?_
  refine o_callV2 hC rl_BW_good rl_Ns_nw (by exact hB.2.2.2.2.2) YX7_under IX7_under VX7_under (mL_101 hC) (by rw [hB.1]; exact cg_X7_under l D ids H0 _ _ x s c _ _ hk.1) (by exact hk.1.1) rfl rfl (Nat.le_of_ble_eq_true rfl) (by rw [hB.2.1]; first | exact Nat.le_of_ble_eq_true rfl | (dsimp only; omega)) (by rw [hB.2.1]; first | exact Nat.le_of_ble_eq_true rfl | (dsimp only; omega)) (by rw [hB.2.1]; show ce + 0 ≤ 601024; omega) (by rw [hB.2.1]; show sl + 0 ≤ 7293034; omega) dL_law_880 (fun v h_880 n_880 p_880 => ?_)
  obtain ⟨r1, rfl, rfl, rfl⟩ := p_880
  have hkA := hk
  have hRA := hR
  have frA : cl_fr h_880 h_880 x (x + 94) := cl_fr.rf
  have hmA : md_ok ids h_880 (x + 70) z := hm.cl frA
  obtain ⟨T, fu, k, S, hu⟩ := hmA
  try dsimp only [Option.toList, List.cons_append, List.nil_append]
  refine o_pop hC dL_law_883 rfl ?_
  refine o_aload_n hC dL_law_884 (by rfl) ?_
  refine o_aload_n hC dL_law_885 (by rfl) ?_
  refine o_iload hC dL_law_886 (by rfl) ?_
  refine o_iconst (v := nI 1) hC dL_law_888 (by decide +kernel) ?_
  refine o_iadd hC dL_law_889 ?_
  rw [nI_add]
  refine o_sld (k := 6 * j + 1) hC hB (by omega) (by omega) dL_law_890 ?_
  refine o_aload_n hC dL_law_891 (by rfl) ?_
  refine o_iload hC dL_law_892 (by rfl) ?_
  refine o_iconst (v := nI 2) hC dL_law_894 (by decide +kernel) ?_
  refine o_iadd hC dL_law_895 ?_
  rw [nI_add]
  refine o_sld (k := 6 * j + 2) hC hB (by omega) (by omega) dL_law_896 ?_
  refine o_i2l hC dL_law_897 ?_
  refine o_bipush (v := nI 32) hC dL_law_898 (by decide +kernel) ?_
  refine o_lshl hC dL_law_900 ?_
  refine o_aload_n hC dL_law_901 (by rfl) ?_
  refine o_iload hC dL_law_902 (by rfl) ?_
  refine o_iconst (v := nI 3) hC dL_law_904 (by decide +kernel) ?_
  refine o_iadd hC dL_law_905 ?_
  rw [nI_add]
  refine o_sld (k := 6 * j + 3) hC hB (by omega) (by omega) dL_law_906 ?_
  refine o_i2l hC dL_law_907 ?_
  refine o_ldc2 hC nL_99 dL_law_908 ?_
  refine o_land hC dL_law_911 ?_
  refine o_lor hC dL_law_912 ?_
  refine o_callV2 hC rl_BW_good rl_Ns_nw (by exact hB.2.2.2.2.2) YX8_under IX8_under VX8_under (mL_105 hC) (by rw [hB.1]; exact cm_X8_under l D ids H0 _ _ (x + 70) T fu k S z _ _ hu) (by exact hu.1.1) rfl rfl (Nat.le_of_ble_eq_true rfl) (by rw [hB.2.1]; first | exact Nat.le_of_ble_eq_true rfl | (dsimp only; omega)) (by rw [hB.2.1]; first | exact Nat.le_of_ble_eq_true rfl | (dsimp only; omega)) (by rw [hB.2.1]; show ce + 0 + 0 ≤ 601024; omega) (by rw [hB.2.1]; show sl + 0 + 0 ≤ 7293034; omega) dL_law_913 (fun v h_913 n_913 p_913 => ?_)
  obtain ⟨r2, rfl, rfl, hmB, frB⟩ := p_913
  replace hmB := hmB.ok
  try dsimp only [Option.toList, List.cons_append, List.nil_append]
  refine o_pop hC dL_law_916 rfl ?_
  refine o_goto (tgt := 1068) hC dL_law_917 (by decide) ?_
  refine rl_G.widen (ce' := ce + 403) (sl' := sl + 2892) (by omega) (by omega) ?_
  exact nx _ _ _ _ _ (lg_ok.of hou frA hkA hRA hmB frB)

set_option maxHeartbeats 4000000 in
set_option maxRecDepth 100000 in
theorem lg_c18 (l : Launch) (hl : l.stackTraces = false) (D : va_G) (ids : Nat → ClassId) (H0 : Heap) {b x L j : Nat} {xs : Nat → Int32} {X : rl_X} (hC : rl_C X (rl_e D ids H0) cL_law RL rl_BW rl_Ns) (hB : lw_B X (rl_e D ids H0) l b L xs) (hL : L ≤ 3072) (hj : 6 * j + 6 ≤ L) {h : rl_H} {n ce sl : Nat} {a5 a6 a7 : Option Value} (hg : lg_ok ids h n x) (hce : ce + 403 ≤ 601024) (hsl : sl + 2892 ≤ 7293034) (nx : ∀ (h' : rl_H) (n' : Nat) (a5 a6 a7 : Option Value), lg_ok ids h' n' x → rl_G X (rl_e D ids H0) 1068 [some (.ref b), some (.ref x), some (.ref (x + 70)), some (.ref (x + 93)), some (.int (nI (6 * j))), a5, a6, a7] [] h' n' (ce + 403) (sl + 2892)) : rl_G X (rl_e D ids H0) 920 [some (.ref b), some (.ref x), some (.ref (x + 70)), some (.ref (x + 93)), some (.int (nI (6 * j))), a5, a6, a7] [] h n ce sl := by
  obtain ⟨s, c, z, hk, hR, hm, of, hou⟩ := id hg
  refine o_aload_n hC dL_law_920 (by rfl) ?_
  refine o_aload_n hC dL_law_921 (by rfl) ?_
  refine o_iload hC dL_law_922 (by rfl) ?_
  refine o_iconst (v := nI 1) hC dL_law_924 (by decide +kernel) ?_
  refine o_iadd hC dL_law_925 ?_
  rw [nI_add]
  refine o_sld (k := 6 * j + 1) hC hB (by omega) (by omega) dL_law_926 ?_
  refine o_callV1 hC rl_BW_good rl_Ns_nw (by exact hB.2.2.2.2.2) YX7_forward IX7_forward VX7_forward (mL_106 hC) (by rw [hB.1]; exact cg_X7_forward l D ids H0 _ _ x s c _ hk.1) (by exact hk.1.1) rfl rfl (Nat.le_of_ble_eq_true rfl) (by rw [hB.2.1]; first | exact Nat.le_of_ble_eq_true rfl | (dsimp only; omega)) (by rw [hB.2.1]; first | exact Nat.le_of_ble_eq_true rfl | (dsimp only; omega)) (by rw [hB.2.1]; show ce + 0 ≤ 601024; omega) (by rw [hB.2.1]; show sl + 0 ≤ 7293034; omega) dL_law_927 (fun v h_927 n_927 p_927 => ?_)
  obtain ⟨r1, rfl, rfl, rfl⟩ := p_927
  have hkA := hk
  have hRA := hR
  have frA : cl_fr h_927 h_927 x (x + 94) := cl_fr.rf
  have hmA : md_ok ids h_927 (x + 70) z := hm.cl frA
  obtain ⟨T, fu, k, S, hu⟩ := hmA
  try dsimp only [Option.toList, List.cons_append, List.nil_append]
  refine o_pop hC dL_law_930 rfl ?_
  refine o_aload_n hC dL_law_931 (by rfl) ?_
  refine o_aload_n hC dL_law_932 (by rfl) ?_
  refine o_iload hC dL_law_933 (by rfl) ?_
  refine o_iconst (v := nI 1) hC dL_law_935 (by decide +kernel) ?_
  refine o_iadd hC dL_law_936 ?_
  rw [nI_add]
  refine o_sld (k := 6 * j + 1) hC hB (by omega) (by omega) dL_law_937 ?_
  refine o_callV1 hC rl_BW_good rl_Ns_nw (by exact hB.2.2.2.2.2) YX8_forward IX8_forward VX8_forward (mL_109 hC) (by rw [hB.1]; exact cm_X8_forward l D ids H0 _ _ (x + 70) T fu k S z _ hu) (by exact hu.1.1) rfl rfl (Nat.le_of_ble_eq_true rfl) (by rw [hB.2.1]; first | exact Nat.le_of_ble_eq_true rfl | (dsimp only; omega)) (by rw [hB.2.1]; first | exact Nat.le_of_ble_eq_true rfl | (dsimp only; omega)) (by rw [hB.2.1]; show ce + 0 + 0 ≤ 601024; omega) (by rw [hB.2.1]; show sl + 0 + 0 ≤ 7293034; omega) dL_law_938 (fun v h_938 n_938 p_938 => ?_)
  obtain ⟨r2, rfl, rfl, hmB, frB⟩ := p_938
  replace hmB := hmB.ok
  try dsimp only [Option.toList, List.cons_append, List.nil_append]
  refine o_pop hC dL_law_941 rfl ?_
  refine o_goto (tgt := 1068) hC dL_law_942 (by decide) ?_
  refine rl_G.widen (ce' := ce + 403) (sl' := sl + 2892) (by omega) (by omega) ?_
  exact nx _ _ _ _ _ (lg_ok.of hou frA hkA hRA hmB frB)

set_option maxHeartbeats 4000000 in
set_option maxRecDepth 100000 in
theorem lg_c19 (l : Launch) (hl : l.stackTraces = false) (D : va_G) (ids : Nat → ClassId) (H0 : Heap) {b x L j : Nat} {xs : Nat → Int32} {X : rl_X} (hC : rl_C X (rl_e D ids H0) cL_law RL rl_BW rl_Ns) (hB : lw_B X (rl_e D ids H0) l b L xs) (hL : L ≤ 3072) (hj : 6 * j + 6 ≤ L) {h : rl_H} {n ce sl : Nat} {a5 a6 a7 : Option Value} (hg : lg_ok ids h n x) (hce : ce + 403 ≤ 601024) (hsl : sl + 2892 ≤ 7293034) (nx : ∀ (h' : rl_H) (n' : Nat) (a5 a6 a7 : Option Value), lg_ok ids h' n' x → rl_G X (rl_e D ids H0) 1068 [some (.ref b), some (.ref x), some (.ref (x + 70)), some (.ref (x + 93)), some (.int (nI (6 * j))), a5, a6, a7] [] h' n' (ce + 403) (sl + 2892)) : rl_G X (rl_e D ids H0) 945 [some (.ref b), some (.ref x), some (.ref (x + 70)), some (.ref (x + 93)), some (.int (nI (6 * j))), a5, a6, a7] [] h n ce sl := by
  obtain ⟨s, c, z, hk, hR, hm, of, hou⟩ := id hg
  refine o_aload_n hC dL_law_945 (by rfl) ?_
  refine o_aload_n hC dL_law_946 (by rfl) ?_
  refine o_iload hC dL_law_947 (by rfl) ?_
  refine o_iconst (v := nI 1) hC dL_law_949 (by decide +kernel) ?_
  refine o_iadd hC dL_law_950 ?_
  rw [nI_add]
  refine o_sld (k := 6 * j + 1) hC hB (by omega) (by omega) dL_law_951 ?_
  refine o_callV1 hC rl_BW_good rl_Ns_nw (by exact hB.2.2.2.2.2) YX7_count IX7_count VX7_count (mL_110 hC) (by rw [hB.1]; exact cg_X7_count l D ids H0 _ _ x s c _ hk.1) (by exact hk.1.1) rfl rfl (Nat.le_of_ble_eq_true rfl) (by rw [hB.2.1]; first | exact Nat.le_of_ble_eq_true rfl | (dsimp only; omega)) (by rw [hB.2.1]; first | exact Nat.le_of_ble_eq_true rfl | (dsimp only; omega)) (by rw [hB.2.1]; show ce + 0 ≤ 601024; omega) (by rw [hB.2.1]; show sl + 0 ≤ 7293034; omega) dL_law_952 (fun v h_952 n_952 p_952 => ?_)
  obtain ⟨r1, rfl, rfl, rfl⟩ := p_952
  have hkA := hk
  have hRA := hR
  have frA : cl_fr h_952 h_952 x (x + 94) := cl_fr.rf
  have hmA : md_ok ids h_952 (x + 70) z := hm.cl frA
  obtain ⟨T, fu, k, S, hu⟩ := hmA
  try dsimp only [Option.toList, List.cons_append, List.nil_append]
  refine o_pop hC dL_law_955 rfl ?_
  refine o_aload_n hC dL_law_956 (by rfl) ?_
  refine o_aload_n hC dL_law_957 (by rfl) ?_
  refine o_iload hC dL_law_958 (by rfl) ?_
  refine o_iconst (v := nI 1) hC dL_law_960 (by decide +kernel) ?_
  refine o_iadd hC dL_law_961 ?_
  rw [nI_add]
  refine o_sld (k := 6 * j + 1) hC hB (by omega) (by omega) dL_law_962 ?_
  refine o_callV1 hC rl_BW_good rl_Ns_nw (by exact hB.2.2.2.2.2) YX8_count IX8_count VX8_count (mL_113 hC) (by rw [hB.1]; exact cm_X8_count l D ids H0 _ _ (x + 70) T fu k S z _ hu) (by exact hu.1.1) rfl rfl (Nat.le_of_ble_eq_true rfl) (by rw [hB.2.1]; first | exact Nat.le_of_ble_eq_true rfl | (dsimp only; omega)) (by rw [hB.2.1]; first | exact Nat.le_of_ble_eq_true rfl | (dsimp only; omega)) (by rw [hB.2.1]; show ce + 0 + 0 ≤ 601024; omega) (by rw [hB.2.1]; show sl + 0 + 0 ≤ 7293034; omega) dL_law_963 (fun v h_963 n_963 p_963 => ?_)
  obtain ⟨r2, rfl, rfl, hmB, frB⟩ := p_963
  replace hmB := hmB.ok
  try dsimp only [Option.toList, List.cons_append, List.nil_append]
  refine o_pop hC dL_law_966 rfl ?_
  refine o_goto (tgt := 1068) hC dL_law_967 (by decide) ?_
  refine rl_G.widen (ce' := ce + 403) (sl' := sl + 2892) (by omega) (by omega) ?_
  exact nx _ _ _ _ _ (lg_ok.of hou frA hkA hRA hmB frB)

set_option maxHeartbeats 4000000 in
set_option maxRecDepth 100000 in
theorem lg_c20 (l : Launch) (hl : l.stackTraces = false) (D : va_G) (ids : Nat → ClassId) (H0 : Heap) {b x L j : Nat} {xs : Nat → Int32} {X : rl_X} (hC : rl_C X (rl_e D ids H0) cL_law RL rl_BW rl_Ns) (hB : lw_B X (rl_e D ids H0) l b L xs) (hL : L ≤ 3072) (hj : 6 * j + 6 ≤ L) {h : rl_H} {n ce sl : Nat} {a5 a6 a7 : Option Value} (hg : lg_ok ids h n x) (hce : ce + 403 ≤ 601024) (hsl : sl + 2892 ≤ 7293034) (nx : ∀ (h' : rl_H) (n' : Nat) (a5 a6 a7 : Option Value), lg_ok ids h' n' x → rl_G X (rl_e D ids H0) 1068 [some (.ref b), some (.ref x), some (.ref (x + 70)), some (.ref (x + 93)), some (.int (nI (6 * j))), a5, a6, a7] [] h' n' (ce + 403) (sl + 2892)) : rl_G X (rl_e D ids H0) 970 [some (.ref b), some (.ref x), some (.ref (x + 70)), some (.ref (x + 93)), some (.int (nI (6 * j))), a5, a6, a7] [] h n ce sl := by
  obtain ⟨s, c, z, hk, hR, hm, of, hou⟩ := id hg
  refine o_aload_n hC dL_law_970 (by rfl) ?_
  refine o_aload_n hC dL_law_971 (by rfl) ?_
  refine o_iload hC dL_law_972 (by rfl) ?_
  refine o_iconst (v := nI 1) hC dL_law_974 (by decide +kernel) ?_
  refine o_iadd hC dL_law_975 ?_
  rw [nI_add]
  refine o_sld (k := 6 * j + 1) hC hB (by omega) (by omega) dL_law_976 ?_
  refine o_aload_n hC dL_law_977 (by rfl) ?_
  refine o_iload hC dL_law_978 (by rfl) ?_
  refine o_iconst (v := nI 2) hC dL_law_980 (by decide +kernel) ?_
  refine o_iadd hC dL_law_981 ?_
  rw [nI_add]
  refine o_sld (k := 6 * j + 2) hC hB (by omega) (by omega) dL_law_982 ?_
  refine o_callV2 hC rl_BW_good rl_Ns_nw (by exact hB.2.2.2.2.2) YX7_matters IX7_matters VX7_matters (mL_114 hC) (by rw [hB.1]; exact cg_X7_matters l D ids H0 _ _ x (x + 94) s c _ _ hk) (by exact hk.1.1) rfl rfl (Nat.le_of_ble_eq_true rfl) (by rw [hB.2.1]; first | exact Nat.le_of_ble_eq_true rfl | (dsimp only; omega)) (by rw [hB.2.1]; first | exact Nat.le_of_ble_eq_true rfl | (dsimp only; omega)) (by rw [hB.2.1]; show ce + 0 ≤ 601024; omega) (by rw [hB.2.1]; show sl + 0 ≤ 7293034; omega) dL_law_983 (fun v h_983 n_983 p_983 => ?_)
  obtain ⟨r1, rfl, rfl, hkA, frA, -⟩ := p_983
  have hRA := hR
  have hmA : md_ok ids h_983 (x + 70) z := hm.cl frA
  obtain ⟨T, fu, k, S, hu⟩ := hmA
  try dsimp only [Option.toList, List.cons_append, List.nil_append]
  refine o_pop hC dL_law_986 rfl ?_
  refine o_aload_n hC dL_law_987 (by rfl) ?_
  refine o_aload_n hC dL_law_988 (by rfl) ?_
  refine o_iload hC dL_law_989 (by rfl) ?_
  refine o_iconst (v := nI 1) hC dL_law_991 (by decide +kernel) ?_
  refine o_iadd hC dL_law_992 ?_
  rw [nI_add]
  refine o_sld (k := 6 * j + 1) hC hB (by omega) (by omega) dL_law_993 ?_
  refine o_aload_n hC dL_law_994 (by rfl) ?_
  refine o_iload hC dL_law_995 (by rfl) ?_
  refine o_iconst (v := nI 2) hC dL_law_997 (by decide +kernel) ?_
  refine o_iadd hC dL_law_998 ?_
  rw [nI_add]
  refine o_sld (k := 6 * j + 2) hC hB (by omega) (by omega) dL_law_999 ?_
  refine o_callV2 hC rl_BW_good rl_Ns_nw (by exact hB.2.2.2.2.2) YX8_matters IX8_matters VX8_matters (mL_117 hC) (by rw [hB.1]; exact cm_X8_matters l D ids H0 _ _ (x + 70) T fu k S z _ _ hu) (by exact hu.1.1) rfl rfl (Nat.le_of_ble_eq_true rfl) (by rw [hB.2.1]; first | exact Nat.le_of_ble_eq_true rfl | (dsimp only; omega)) (by rw [hB.2.1]; first | exact Nat.le_of_ble_eq_true rfl | (dsimp only; omega)) (by rw [hB.2.1]; show ce + 0 + 0 ≤ 601024; omega) (by rw [hB.2.1]; show sl + 0 + 0 ≤ 7293034; omega) dL_law_1000 (fun v h_1000 n_1000 p_1000 => ?_)
  obtain ⟨r2, rfl, rfl, hmB, frB⟩ := p_1000
  replace hmB := hmB.ok
  try dsimp only [Option.toList, List.cons_append, List.nil_append]
  refine o_pop hC dL_law_1003 rfl ?_
  refine o_goto (tgt := 1068) hC dL_law_1004 (by decide) ?_
  refine rl_G.widen (ce' := ce + 403) (sl' := sl + 2892) (by omega) (by omega) ?_
  exact nx _ _ _ _ _ (lg_ok.of hou frA hkA hRA hmB frB)

set_option maxHeartbeats 4000000 in
set_option maxRecDepth 100000 in
theorem lg_c21 (l : Launch) (hl : l.stackTraces = false) (D : va_G) (ids : Nat → ClassId) (H0 : Heap) {b x L j : Nat} {xs : Nat → Int32} {X : rl_X} (hC : rl_C X (rl_e D ids H0) cL_law RL rl_BW rl_Ns) (hB : lw_B X (rl_e D ids H0) l b L xs) (hL : L ≤ 3072) (hj : 6 * j + 6 ≤ L) {h : rl_H} {n ce sl : Nat} {a5 a6 a7 : Option Value} (hg : lg_ok ids h n x) (hce : ce + 403 ≤ 601024) (hsl : sl + 2892 ≤ 7293034) (nx : ∀ (h' : rl_H) (n' : Nat) (a5 a6 a7 : Option Value), lg_ok ids h' n' x → rl_G X (rl_e D ids H0) 1068 [some (.ref b), some (.ref x), some (.ref (x + 70)), some (.ref (x + 93)), some (.int (nI (6 * j))), a5, a6, a7] [] h' n' (ce + 403) (sl + 2892)) : rl_G X (rl_e D ids H0) 1007 [some (.ref b), some (.ref x), some (.ref (x + 70)), some (.ref (x + 93)), some (.int (nI (6 * j))), a5, a6, a7] [] h n ce sl := by
  obtain ⟨s, c, z, hk, hR, hm, of, hou⟩ := id hg
  refine o_aload_n hC dL_law_1007 (by rfl) ?_
  refine o_aload_n hC dL_law_1008 (by rfl) ?_
  refine o_iload hC dL_law_1009 (by rfl) ?_
  refine o_iconst (v := nI 1) hC dL_law_1011 (by decide +kernel) ?_
  refine o_iadd hC dL_law_1012 ?_
  rw [nI_add]
  refine o_sld (k := 6 * j + 1) hC hB (by omega) (by omega) dL_law_1013 ?_
  refine o_callV1 hC rl_BW_good rl_Ns_nw (by exact hB.2.2.2.2.2) YX7_blame IX7_blame VX7_blame (mL_118 hC) (by rw [hB.1]; exact cg_X7_blame l D ids H0 _ _ x s c _ hk.1) (by exact hk.1.1) rfl rfl (Nat.le_of_ble_eq_true rfl) (by rw [hB.2.1]; first | exact Nat.le_of_ble_eq_true rfl | (dsimp only; omega)) (by rw [hB.2.1]; first | exact Nat.le_of_ble_eq_true rfl | (dsimp only; omega)) (by rw [hB.2.1]; show ce + 0 ≤ 601024; omega) (by rw [hB.2.1]; show sl + 0 ≤ 7293034; omega) dL_law_1014 (fun v h_1014 n_1014 p_1014 => ?_)
  obtain ⟨r1, rfl, rfl, rfl⟩ := p_1014
  have hkA := hk
  have hRA := hR
  have frA : cl_fr h_1014 h_1014 x (x + 94) := cl_fr.rf
  have hmA : md_ok ids h_1014 (x + 70) z := hm.cl frA
  obtain ⟨T, fu, k, S, hu⟩ := hmA
  try dsimp only [Option.toList, List.cons_append, List.nil_append]
  refine o_pop hC dL_law_1017 rfl ?_
  refine o_aload_n hC dL_law_1018 (by rfl) ?_
  refine o_aload_n hC dL_law_1019 (by rfl) ?_
  refine o_iload hC dL_law_1020 (by rfl) ?_
  refine o_iconst (v := nI 1) hC dL_law_1022 (by decide +kernel) ?_
  refine o_iadd hC dL_law_1023 ?_
  rw [nI_add]
  refine o_sld (k := 6 * j + 1) hC hB (by omega) (by omega) dL_law_1024 ?_
  refine o_callV1 hC rl_BW_good rl_Ns_nw (by exact hB.2.2.2.2.2) YX8_blame IX8_blame VX8_blame (mL_121 hC) (by rw [hB.1]; exact cm_X8_blame l D ids H0 _ _ (x + 70) T fu k S z _ hu) (by exact hu.1.1) rfl rfl (Nat.le_of_ble_eq_true rfl) (by rw [hB.2.1]; first | exact Nat.le_of_ble_eq_true rfl | (dsimp only; omega)) (by rw [hB.2.1]; first | exact Nat.le_of_ble_eq_true rfl | (dsimp only; omega)) (by rw [hB.2.1]; show ce + 0 + 0 ≤ 601024; omega) (by rw [hB.2.1]; show sl + 0 + 0 ≤ 7293034; omega) dL_law_1025 (fun v h_1025 n_1025 p_1025 => ?_)
  obtain ⟨r2, rfl, rfl, hmB, frB⟩ := p_1025
  replace hmB := hmB.ok
  try dsimp only [Option.toList, List.cons_append, List.nil_append]
  refine o_pop hC dL_law_1028 rfl ?_
  refine o_goto (tgt := 1068) hC dL_law_1029 (by decide) ?_
  refine rl_G.widen (ce' := ce + 403) (sl' := sl + 2892) (by omega) (by omega) ?_
  exact nx _ _ _ _ _ (lg_ok.of hou frA hkA hRA hmB frB)

set_option maxHeartbeats 4000000 in
set_option maxRecDepth 100000 in
theorem lg_c22 (l : Launch) (hl : l.stackTraces = false) (D : va_G) (ids : Nat → ClassId) (H0 : Heap) {b x L j : Nat} {xs : Nat → Int32} {X : rl_X} (hC : rl_C X (rl_e D ids H0) cL_law RL rl_BW rl_Ns) (hB : lw_B X (rl_e D ids H0) l b L xs) (hL : L ≤ 3072) (hj : 6 * j + 6 ≤ L) {h : rl_H} {n ce sl : Nat} {a5 a6 a7 : Option Value} (hg : lg_ok ids h n x) (hce : ce + 403 ≤ 601024) (hsl : sl + 2892 ≤ 7293034) (nx : ∀ (h' : rl_H) (n' : Nat) (a5 a6 a7 : Option Value), lg_ok ids h' n' x → rl_G X (rl_e D ids H0) 1068 [some (.ref b), some (.ref x), some (.ref (x + 70)), some (.ref (x + 93)), some (.int (nI (6 * j))), a5, a6, a7] [] h' n' (ce + 403) (sl + 2892)) : rl_G X (rl_e D ids H0) 1032 [some (.ref b), some (.ref x), some (.ref (x + 70)), some (.ref (x + 93)), some (.int (nI (6 * j))), a5, a6, a7] [] h n ce sl := by
  obtain ⟨s, c, z, hk, hR, hm, of, hou⟩ := id hg
  refine o_aload_n hC dL_law_1032 (by rfl) ?_
  refine o_aload_n hC dL_law_1033 (by rfl) ?_
  refine o_iload hC dL_law_1034 (by rfl) ?_
  refine o_iconst (v := nI 1) hC dL_law_1036 (by decide +kernel) ?_
  refine o_iadd hC dL_law_1037 ?_
  rw [nI_add]
  refine o_sld (k := 6 * j + 1) hC hB (by omega) (by omega) dL_law_1038 ?_
  refine o_callV1 hC rl_BW_good rl_Ns_nw (by exact hB.2.2.2.2.2) YX7_told IX7_told VX7_told (mL_122 hC) (by rw [hB.1]; exact cg_X7_told l D ids H0 _ _ x s c _ hk.1) (by exact hk.1.1) rfl rfl (Nat.le_of_ble_eq_true rfl) (by rw [hB.2.1]; first | exact Nat.le_of_ble_eq_true rfl | (dsimp only; omega)) (by rw [hB.2.1]; first | exact Nat.le_of_ble_eq_true rfl | (dsimp only; omega)) (by rw [hB.2.1]; show ce + 0 ≤ 601024; omega) (by rw [hB.2.1]; show sl + 0 ≤ 7293034; omega) dL_law_1039 (fun v h_1039 n_1039 p_1039 => ?_)
  obtain ⟨r1, rfl, rfl, rfl⟩ := p_1039
  have hkA := hk
  have hRA := hR
  have frA : cl_fr h_1039 h_1039 x (x + 94) := cl_fr.rf
  have hmA : md_ok ids h_1039 (x + 70) z := hm.cl frA
  obtain ⟨T, fu, k, S, hu⟩ := hmA
  try dsimp only [Option.toList, List.cons_append, List.nil_append]
  refine o_pop hC dL_law_1042 rfl ?_
  refine o_aload_n hC dL_law_1043 (by rfl) ?_
  refine o_aload_n hC dL_law_1044 (by rfl) ?_
  refine o_iload hC dL_law_1045 (by rfl) ?_
  refine o_iconst (v := nI 1) hC dL_law_1047 (by decide +kernel) ?_
  refine o_iadd hC dL_law_1048 ?_
  rw [nI_add]
  refine o_sld (k := 6 * j + 1) hC hB (by omega) (by omega) dL_law_1049 ?_
  refine o_callV1 hC rl_BW_good rl_Ns_nw (by exact hB.2.2.2.2.2) YX8_told IX8_told VX8_told (mL_125 hC) (by rw [hB.1]; exact cm_X8_told l D ids H0 _ _ (x + 70) T fu k S z _ hu) (by exact hu.1.1) rfl rfl (Nat.le_of_ble_eq_true rfl) (by rw [hB.2.1]; first | exact Nat.le_of_ble_eq_true rfl | (dsimp only; omega)) (by rw [hB.2.1]; first | exact Nat.le_of_ble_eq_true rfl | (dsimp only; omega)) (by rw [hB.2.1]; show ce + 0 + 0 ≤ 601024; omega) (by rw [hB.2.1]; show sl + 0 + 0 ≤ 7293034; omega) dL_law_1050 (fun v h_1050 n_1050 p_1050 => ?_)
  obtain ⟨r2, rfl, rfl, hmB, frB⟩ := p_1050
  replace hmB := hmB.ok
  try dsimp only [Option.toList, List.cons_append, List.nil_append]
  refine o_pop hC dL_law_1053 rfl ?_
  refine o_goto (tgt := 1068) hC dL_law_1054 (by decide) ?_
  refine rl_G.widen (ce' := ce + 403) (sl' := sl + 2892) (by omega) (by omega) ?_
  exact nx _ _ _ _ _ (lg_ok.of hou frA hkA hRA hmB frB)

set_option maxHeartbeats 4000000 in
set_option maxRecDepth 100000 in
theorem lg_c23 (l : Launch) (hl : l.stackTraces = false) (D : va_G) (ids : Nat → ClassId) (H0 : Heap) {b x L j : Nat} {xs : Nat → Int32} {X : rl_X} (hC : rl_C X (rl_e D ids H0) cL_law RL rl_BW rl_Ns) (hB : lw_B X (rl_e D ids H0) l b L xs) (hL : L ≤ 3072) (hj : 6 * j + 6 ≤ L) {h : rl_H} {n ce sl : Nat} {a5 a6 a7 : Option Value} (hg : lg_ok ids h n x) (hce : ce + 403 ≤ 601024) (hsl : sl + 2892 ≤ 7293034) (nx : ∀ (h' : rl_H) (n' : Nat) (a5 a6 a7 : Option Value), lg_ok ids h' n' x → rl_G X (rl_e D ids H0) 1068 [some (.ref b), some (.ref x), some (.ref (x + 70)), some (.ref (x + 93)), some (.int (nI (6 * j))), a5, a6, a7] [] h' n' (ce + 403) (sl + 2892)) : rl_G X (rl_e D ids H0) 1057 [some (.ref b), some (.ref x), some (.ref (x + 70)), some (.ref (x + 93)), some (.int (nI (6 * j))), a5, a6, a7] [] h n ce sl := by
  obtain ⟨s, c, z, hk, hR, hm, of, hou⟩ := id hg
  refine o_aload_n hC dL_law_1057 (by rfl) ?_
  refine o_callV0 hC rl_BW_good rl_Ns_nw (by exact hB.2.2.2.2.2) YX7_clear IX7_clear VX7_clear (mL_126 hC) (by rw [hB.1]; exact cg_X7_clear l D ids H0 _ _ x s c hk.1) (by exact hk.1.1) rfl rfl (Nat.le_of_ble_eq_true rfl) (by rw [hB.2.1]; first | exact Nat.le_of_ble_eq_true rfl | (dsimp only; omega)) (by rw [hB.2.1]; first | exact Nat.le_of_ble_eq_true rfl | (dsimp only; omega)) (by rw [hB.2.1]; show ce + 0 ≤ 601024; omega) (by rw [hB.2.1]; show sl + 0 ≤ 7293034; omega) dL_law_1058 (fun v h_1058 n_1058 p_1058 => ?_)
  obtain ⟨rfl, rfl, w1, w2⟩ := p_1058
  obtain ⟨s2, c2, hkA, hRA, frA⟩ := cl_clr hk hR w1 w2
  have hmA : md_ok ids h_1058 (x + 70) z := hm.cl frA
  obtain ⟨T, fu, k, S, hu⟩ := hmA
  try dsimp only [Option.toList, List.cons_append, List.nil_append]
  refine o_aload_n hC dL_law_1061 (by rfl) ?_
  refine o_callV0 hC rl_BW_good rl_Ns_nw (by exact hB.2.2.2.2.2) YX8_clear IX8_clear VX8_clear (mL_129 hC) (by rw [hB.1]; exact cm_X8_clear l D ids H0 _ _ (x + 70) T fu k S z  hu) (by exact hu.1.1) rfl rfl (Nat.le_of_ble_eq_true rfl) (by rw [hB.2.1]; first | exact Nat.le_of_ble_eq_true rfl | (dsimp only; omega)) (by rw [hB.2.1]; first | exact Nat.le_of_ble_eq_true rfl | (dsimp only; omega)) (by rw [hB.2.1]; show ce + 0 + 0 ≤ 601024; omega) (by rw [hB.2.1]; show sl + 0 + 0 ≤ 7293034; omega) dL_law_1062 (fun v h_1062 n_1062 p_1062 => ?_)
  obtain ⟨rfl, rfl, hmB, frB⟩ := p_1062
  replace hmB := hmB.ok
  try dsimp only [Option.toList, List.cons_append, List.nil_append]
  refine o_goto (tgt := 1068) hC dL_law_1065 (by decide) ?_
  refine rl_G.widen (ce' := ce + 403) (sl' := sl + 2892) (by omega) (by omega) ?_
  exact nx _ _ _ _ _ (lg_ok.of hou frA hkA hRA hmB frB)

set_option maxHeartbeats 4000000 in
set_option maxRecDepth 100000 in
theorem lg_switch (l : Launch) (hl : l.stackTraces = false) (D : va_G) (ids : Nat → ClassId) (H0 : Heap) {b x L j : Nat} {xs : Nat → Int32} {X : rl_X} (hC : rl_C X (rl_e D ids H0) cL_law RL rl_BW rl_Ns) (hB : lw_B X (rl_e D ids H0) l b L xs) (hL : L ≤ 3072) (hj : 6 * j + 6 ≤ L) {h : rl_H} {n ce sl : Nat} {a5 a6 a7 : Option Value} (hg : lg_ok ids h n x) (hce : ce + 403 ≤ 601024) (hsl : sl + 2892 ≤ 7293034) (nx : ∀ (h' : rl_H) (n' : Nat) (a5 a6 a7 : Option Value), lg_ok ids h' n' x → rl_G X (rl_e D ids H0) 1068 [some (.ref b), some (.ref x), some (.ref (x + 70)), some (.ref (x + 93)), some (.int (nI (6 * j))), a5, a6, a7] [] h' n' (ce + 403) (sl + 2892)) (w : Int32) : rl_G X (rl_e D ids H0) 40 [some (.ref b), some (.ref x), some (.ref (x + 70)), some (.ref (x + 93)), some (.int (nI (6 * j))), a5, a6, a7] [.int w] h n ce sl := by
  by_cases hw : w < 0 ∨ nI 23 < w
  · refine o_tableOut (tgt := 1068) hC dL_law_40 (rl_out (by decide) hw) (by decide) ?_
    refine rl_G.widen (ce' := ce + 403) (sl' := sl + 2892) (by omega) (by omega) ?_
    exact nx _ _ _ _ _ hg
  · obtain ⟨i, hi, rfl⟩ := rl_inn (by decide) hw
    rcases (show i = 0 ∨ i = 1 ∨ i = 2 ∨ i = 3 ∨ i = 4 ∨ i = 5 ∨ i = 6 ∨ i = 7 ∨ i = 8 ∨ i = 9 ∨ i = 10 ∨ i = 11 ∨ i = 12 ∨ i = 13 ∨ i = 14 ∨ i = 15 ∨ i = 16 ∨ i = 17 ∨ i = 18 ∨ i = 19 ∨ i = 20 ∨ i = 21 ∨ i = 22 ∨ i = 23 by omega) with rfl | rfl | rfl | rfl | rfl | rfl | rfl | rfl | rfl | rfl | rfl | rfl | rfl | rfl | rfl | rfl | rfl | rfl | rfl | rfl | rfl | rfl | rfl | rfl
    · refine o_tableIn (off := 112) (tgt := 152) hC dL_law_40 (by decide +kernel) (by decide +kernel) (by decide +kernel) (by decide) ?_
      exact lg_c0 l hl D ids H0 hC hB hL hj hg hce hsl nx
    · refine o_tableIn (off := 137) (tgt := 177) hC dL_law_40 (by decide +kernel) (by decide +kernel) (by decide +kernel) (by decide) ?_
      exact lg_c1 l hl D ids H0 hC hB hL hj hg hce hsl nx
    · refine o_tableIn (off := 210) (tgt := 250) hC dL_law_40 (by decide +kernel) (by decide +kernel) (by decide +kernel) (by decide) ?_
      exact lg_c2 l hl D ids H0 hC hB hL hj hg hce hsl nx
    · refine o_tableIn (off := 235) (tgt := 275) hC dL_law_40 (by decide +kernel) (by decide +kernel) (by decide +kernel) (by decide) ?_
      exact lg_c3 l hl D ids H0 hC hB hL hj hg hce hsl nx
    · refine o_tableIn (off := 308) (tgt := 348) hC dL_law_40 (by decide +kernel) (by decide +kernel) (by decide +kernel) (by decide) ?_
      exact lg_c4 l hl D ids H0 hC hB hL hj hg hce hsl nx
    · refine o_tableIn (off := 345) (tgt := 385) hC dL_law_40 (by decide +kernel) (by decide +kernel) (by decide +kernel) (by decide) ?_
      exact lg_c5 l hl D ids H0 hC hB hL hj hg hce hsl nx
    · refine o_tableIn (off := 406) (tgt := 446) hC dL_law_40 (by decide +kernel) (by decide +kernel) (by decide +kernel) (by decide) ?_
      exact lg_c6 l hl D ids H0 hC hB hL hj hg hce hsl nx
    · refine o_tableIn (off := 443) (tgt := 483) hC dL_law_40 (by decide +kernel) (by decide +kernel) (by decide +kernel) (by decide) ?_
      exact lg_c7 l hl D ids H0 hC hB hL hj hg hce hsl nx
    · refine o_tableIn (off := 480) (tgt := 520) hC dL_law_40 (by decide +kernel) (by decide +kernel) (by decide +kernel) (by decide) ?_
      exact lg_c8 l hl D ids H0 hC hB hL hj hg hce hsl nx
    · refine o_tableIn (off := 541) (tgt := 581) hC dL_law_40 (by decide +kernel) (by decide +kernel) (by decide +kernel) (by decide) ?_
      exact lg_c9 l hl D ids H0 hC hB hL hj hg hce hsl nx
    · refine o_tableIn (off := 566) (tgt := 606) hC dL_law_40 (by decide +kernel) (by decide +kernel) (by decide +kernel) (by decide) ?_
      exact lg_c10 l hl D ids H0 hC hB hL hj hg hce hsl nx
    · refine o_tableIn (off := 591) (tgt := 631) hC dL_law_40 (by decide +kernel) (by decide +kernel) (by decide +kernel) (by decide) ?_
      exact lg_c11 l hl D ids H0 hC hB hL hj hg hce hsl nx
    · refine o_tableIn (off := 631) (tgt := 671) hC dL_law_40 (by decide +kernel) (by decide +kernel) (by decide +kernel) (by decide) ?_
      exact lg_c12 l hl D ids H0 hC hB hL hj hg hce hsl nx
    · refine o_tableIn (off := 656) (tgt := 696) hC dL_law_40 (by decide +kernel) (by decide +kernel) (by decide +kernel) (by decide) ?_
      exact lg_c13 l hl D ids H0 hC hB hL hj hg hce hsl nx
    · refine o_tableIn (off := 708) (tgt := 748) hC dL_law_40 (by decide +kernel) (by decide +kernel) (by decide +kernel) (by decide) ?_
      exact lg_c14 l hl D ids H0 hC hB hL hj hg hce hsl nx
    · refine o_tableIn (off := 761) (tgt := 801) hC dL_law_40 (by decide +kernel) (by decide +kernel) (by decide +kernel) (by decide) ?_
      exact lg_c15 l hl D ids H0 hC hB hL hj hg hce hsl nx
    · refine o_tableIn (off := 786) (tgt := 826) hC dL_law_40 (by decide +kernel) (by decide +kernel) (by decide +kernel) (by decide) ?_
      exact lg_c16 l hl D ids H0 hC hB hL hj hg hce hsl nx
    · refine o_tableIn (off := 811) (tgt := 851) hC dL_law_40 (by decide +kernel) (by decide +kernel) (by decide +kernel) (by decide) ?_
      exact lg_c17 l hl D ids H0 hC hB hL hj hg hce hsl nx
    · refine o_tableIn (off := 880) (tgt := 920) hC dL_law_40 (by decide +kernel) (by decide +kernel) (by decide +kernel) (by decide) ?_
      exact lg_c18 l hl D ids H0 hC hB hL hj hg hce hsl nx
    · refine o_tableIn (off := 905) (tgt := 945) hC dL_law_40 (by decide +kernel) (by decide +kernel) (by decide +kernel) (by decide) ?_
      exact lg_c19 l hl D ids H0 hC hB hL hj hg hce hsl nx
    · refine o_tableIn (off := 930) (tgt := 970) hC dL_law_40 (by decide +kernel) (by decide +kernel) (by decide +kernel) (by decide) ?_
      exact lg_c20 l hl D ids H0 hC hB hL hj hg hce hsl nx
    · refine o_tableIn (off := 967) (tgt := 1007) hC dL_law_40 (by decide +kernel) (by decide +kernel) (by decide +kernel) (by decide) ?_
      exact lg_c21 l hl D ids H0 hC hB hL hj hg hce hsl nx
    · refine o_tableIn (off := 992) (tgt := 1032) hC dL_law_40 (by decide +kernel) (by decide +kernel) (by decide +kernel) (by decide) ?_
      exact lg_c22 l hl D ids H0 hC hB hL hj hg hce hsl nx
    · refine o_tableIn (off := 1017) (tgt := 1057) hC dL_law_40 (by decide +kernel) (by decide +kernel) (by decide +kernel) (by decide) ?_
      exact lg_c23 l hl D ids H0 hC hB hL hj hg hce hsl nx

set_option maxHeartbeats 4000000 in
set_option maxRecDepth 100000 in
theorem lg_loop (l : Launch) (hl : l.stackTraces = false) (D : va_G) (ids : Nat → ClassId) (H0 : Heap) {b x L : Nat} {xs : Nat → Int32} {X : rl_X} (hC : rl_C X (rl_e D ids H0) cL_law RL rl_BW rl_Ns) (hB : lw_B X (rl_e D ids H0) l b L xs) (hL : L ≤ 3072) : ∀ (mm j : Nat) (h : rl_H) (n : Nat) (a5 a6 a7 : Option Value), j + mm = 512 → lg_ok ids h n x → rl_G X (rl_e D ids H0) 23 [some (.ref b), some (.ref x), some (.ref (x + 70)), some (.ref (x + 93)), some (.int (nI (6 * j))), a5, a6, a7] [] h n (94 + 403 * j) (44572 + 2892 * j) := by
  intro mm
  induction mm with
  | zero =>
    intro j h n a5 a6 a7 hm hg
    refine o_iload hC dL_law_23 (by rfl) ?_
    refine o_aload_n hC dL_law_25 (by rfl) ?_
    refine o_slen hC hB dL_law_26 ?_
    refine o_bipush (v := nI 6) hC dL_law_27 (by decide +kernel) ?_
    refine o_isub hC dL_law_29 ?_
    refine o_icmp_gt (tgt := 1074) hC dL_law_30 (by decide) (fun c30 => ?_) (fun c30 => ?_)
    · refine o_iconst (v := nI 1) hC dL_law_1074 (by decide +kernel) ?_
      exact hB.2.2.2.2.1 _ _ _ _ _ _ dL_law_1075 (by omega) (by omega)
    · have := lg_len hL (by omega) c30
      omega
  | succ mm ih =>
    intro j h n a5 a6 a7 hm hg
    refine o_iload hC dL_law_23 (by rfl) ?_
    refine o_aload_n hC dL_law_25 (by rfl) ?_
    refine o_slen hC hB dL_law_26 ?_
    refine o_bipush (v := nI 6) hC dL_law_27 (by decide +kernel) ?_
    refine o_isub hC dL_law_29 ?_
    refine o_icmp_gt (tgt := 1074) hC dL_law_30 (by decide) (fun c30 => ?_) (fun c30 => ?_)
    · refine o_iconst (v := nI 1) hC dL_law_1074 (by decide +kernel) ?_
      exact hB.2.2.2.2.1 _ _ _ _ _ _ dL_law_1075 (by omega) (by omega)
    have hj := lg_len hL (by omega) c30
    refine o_aload_n hC dL_law_33 (by rfl) ?_
    refine o_iload hC dL_law_34 (by rfl) ?_
    refine o_sld (k := 6 * j) hC hB (by omega) (by omega) dL_law_36 ?_
    refine o_bipush (v := nI 31) hC dL_law_37 (by decide +kernel) ?_
    refine o_iand hC dL_law_39 ?_
    refine lg_switch l hl D ids H0 hC hB hL hj hg (by omega) (by omega) (fun h2 n2 b5 b6 b7 hg2 => ?_) _
    rw [show 94 + 403 * j + 403 = 94 + 403 * (j + 1) by omega, show 44572 + 2892 * j + 2892 = 44572 + 2892 * (j + 1) by omega]
    refine o_iinc (v := nI (6 * (j + 1))) hC dL_law_1068 (by rfl) (by show nI (6 * j) + nI 6 = _; rw [nI_add]; rfl) (Nat.le_of_ble_eq_true rfl) ?_
    refine o_goto (tgt := 23) hC dL_law_1071 (by decide) ?_
    exact ih (j + 1) _ _ _ _ _ (by omega) hg2

set_option maxHeartbeats 4000000 in
set_option maxRecDepth 100000 in
theorem lg_start (l : Launch) (hl : l.stackTraces = false) (D : va_G) (ids : Nat → ClassId) (H0 : Heap) {b L : Nat} {xs : Nat → Int32} {X : rl_X} (hL : L ≤ 3072) (hC : rl_C X (rl_e D ids H0) cL_law RL rl_BW rl_Ns) (hB : lw_B X (rl_e D ids H0) l b L xs) (n : Nat) : rl_G X (rl_e D ids H0) 0 (rl_in 8 [.ref b]) [] (fun _ => none) n 0 0 := by
  show rl_G X (rl_e D ids H0) 0 [some (.ref b), none, none, none, none, none, none, none] [] (fun _ => none) n 0 0
  refine o_new (ci := 7) (fs := [.null, .null, .null, .null, .null, .null, .int (nI 0), .int (nI 0), .long 0]) hC rfl uX7 tyX7 tyX7_ok kL_8 iX7 zX7 (by decide +kernel) (by rw [hB.2.1]; first | exact Nat.le_of_ble_eq_true rfl | (dsimp only; omega)) (by rw [hB.2.1]; first | exact Nat.le_of_ble_eq_true rfl | (dsimp only; omega)) dL_law_0 ?_
  refine o_dup hC dL_law_3 rfl ?_
  refine o_callI0 hC rl_BW_good rl_Ns_nw (by exact hB.2.2.2.2.2) YX7_init rfl IX7_init (mL_21 hC) (by rw [hB.1]; exact ct_X7_init l D ids H0 _ _ n (by repeat (first | with_reducible assumption | (rw [rl_u_s]; done) | (rw [rl_u_s]; rfl) | rw [rl_u_n (by first | with_reducible assumption | omega)])) rfl) (Nat.le_of_ble_eq_true rfl) (by rw [hB.2.1]; first | exact Nat.le_of_ble_eq_true rfl | (dsimp only; omega)) (by rw [hB.2.1]; first | exact Nat.le_of_ble_eq_true rfl | (dsimp only; omega)) (by rw [hB.2.1]; first | exact Nat.le_of_ble_eq_true rfl | (dsimp only; omega)) (by rw [hB.2.1]; first | exact Nat.le_of_ble_eq_true rfl | (dsimp only; omega)) dL_law_4 (fun v h_4 n_4 p_4 => ?_)
  obtain ⟨rfl, rfl, r1, r2⟩ := p_4
  try dsimp only [Option.toList, List.cons_append, List.nil_append]
  refine o_astore_n hC dL_law_7 (Nat.le_of_ble_eq_true rfl) ?_
  refine o_new (ci := 8) (fs := [.int (nI 0), .int (nI 0), .null, .int (nI 0), .null, .null, .long 0, .int (nI 0), .null, .null, .null, .null, .null, .null, .null, .null, .null, .null, .null, .int (nI 0), .null, .null, .null, .int (nI 0), .null, .null, .int (nI 0), .null, .null, .null, .int (nI 0)]) hC rfl uX8 tyX8 tyX8_ok kL_22 iX8 zX8 (by decide +kernel) (by rw [hB.2.1]; first | exact Nat.le_of_ble_eq_true rfl | (dsimp only; omega)) (by rw [hB.2.1]; first | exact Nat.le_of_ble_eq_true rfl | (dsimp only; omega)) dL_law_8 ?_
  refine o_dup hC dL_law_11 rfl ?_
  refine o_callI0 hC rl_BW_good rl_Ns_nw (by exact hB.2.2.2.2.2) YX8_init rfl IX8_init (mL_24 hC) (by rw [hB.1]; exact ct_X8_init l D ids H0 _ _ (n + 70) (by repeat (first | with_reducible assumption | (rw [rl_u_s]; done) | (rw [rl_u_s]; rfl) | rw [rl_u_n (by first | with_reducible assumption | omega)])) rfl) (Nat.le_of_ble_eq_true rfl) (by rw [hB.2.1]; first | exact Nat.le_of_ble_eq_true rfl | (dsimp only; omega)) (by rw [hB.2.1]; first | exact Nat.le_of_ble_eq_true rfl | (dsimp only; omega)) (by rw [hB.2.1]; first | exact Nat.le_of_ble_eq_true rfl | (dsimp only; omega)) (by rw [hB.2.1]; first | exact Nat.le_of_ble_eq_true rfl | (dsimp only; omega)) dL_law_12 (fun v h_12 n_12 p_12 => ?_)
  obtain ⟨rfl, rfl, r3, r4⟩ := p_12
  have r5 : rw_new ids h_12 n := r1.eqw (fun q q1 q2 => by rw [r4 q (by omega), rl_u_n (by omega)])
  try dsimp only [Option.toList, List.cons_append, List.nil_append]
  refine o_astore_n hC dL_law_15 (Nat.le_of_ble_eq_true rfl) ?_
  refine o_iconst (v := nI 1) hC dL_law_16 (by decide +kernel) ?_
  refine o_newa (atype := .long) (ty := .long) (t0 := 1) (N' := 1) (x := .inr (.inl (fun _ => 0))) hC rfl (fun C q => by cases q) aw_long rfl rfl (nI_pos (by decide)) (nI_clamp (by decide)) (by decide) (by rw [hB.2.1]; first | exact Nat.le_of_ble_eq_true rfl | (dsimp only; omega)) (by rw [hB.2.1]; first | exact Nat.le_of_ble_eq_true rfl | (dsimp only; omega)) dL_law_17 ?_
  refine o_astore_n hC dL_law_19 (Nat.le_of_ble_eq_true rfl) ?_
  refine o_iconst (v := nI 0) hC dL_law_20 (by decide +kernel) ?_
  refine o_istore hC dL_law_21 (Nat.le_of_ble_eq_true rfl) ?_
  exact lg_loop (x := n) l hl D ids H0 hC hB hL 512 0 _ _ _ _ _ (by omega) ⟨_, _, _, cl_new (r5.eqw (fun q q1 q2 => rl_u_n (by omega))) (by omega) (by omega), cl_new.R, (md_new.ok r3).eqv (fun q q1 q2 => rl_u_n (by omega)), _, rl_u_s⟩

/-- the law over a script of at most 3072 ints -/
theorem lw_long {p : Program} {e : Env} {s : State} {m : MethodId} {below : List Frame} {meth : Method} {c : Code} (l : Launch) (hl : l.stackTraces = false) {b L : Nat} {xs : Nat → Int32} (hL : L ≤ 3072) (C0 : lw_At p s m meth c b L xs) : W p l e room_1 s m #[Value.ref b] below meth c s.heap [] 0 0 (lw_Z below #[Value.ref b] s) (entryFrame m ([Value.ref b] : List Value).toArray 8) :=
  lw_into l C0 (fun D ids X hC hB => lg_start l hl D ids s.heap hL hC hB s.heap.size)
