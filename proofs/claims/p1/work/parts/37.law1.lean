/-! the law's one round on fresh objects -/
theorem rw_new.eqv {ids : Nat → ClassId} {h h' : rl_H} {x : Nat} (H : rw_new ids h x) (he : ∀ q, x ≤ q → q < x + 70 → h' q = h q) : rw_new ids h' x :=
  ⟨by rw [he x (by omega) (by omega)]; exact H.1, H.2.1.eqv (fun q a b => he q (by omega) (by omega)), H.2.2.1.eqv (fun q a b => he q (by omega) (by omega)), by rw [he (x + 63) (by omega) (by omega)]; exact H.2.2.2.1, by rw [he (x + 64) (by omega) (by omega)]; exact H.2.2.2.2.1, by rw [he (x + 65) (by omega) (by omega)]; exact H.2.2.2.2.2.1, H.2.2.2.2.2.2.eqv (fun q a b => he q (by omega) (by omega))⟩
theorem md_new.eqv {ids : Nat → ClassId} {h h' : rl_H} {m : Nat} (H : md_new ids h m) (he : ∀ q, m ≤ q → q < m + 23 → h' q = h q) : md_new ids h' m := by
  obtain ⟨m0, m1, m2, m3, m4, m5, m6, m7, m8, m9, m10, m11, m12, m13, m14, m15, m16, m17, m18, m19, m20, m21, m22⟩ := H
  exact ⟨by rw [he m (by omega) (by omega)]; exact m0, by rw [he (m + 1) (by omega) (by omega)]; exact m1, by rw [he (m + 2) (by omega) (by omega)]; exact m2, by rw [he (m + 3) (by omega) (by omega)]; exact m3, by rw [he (m + 4) (by omega) (by omega)]; exact m4, by rw [he (m + 5) (by omega) (by omega)]; exact m5, by rw [he (m + 6) (by omega) (by omega)]; exact m6, by rw [he (m + 7) (by omega) (by omega)]; exact m7, by rw [he (m + 8) (by omega) (by omega)]; exact m8, by rw [he (m + 9) (by omega) (by omega)]; exact m9, by rw [he (m + 10) (by omega) (by omega)]; exact m10, by rw [he (m + 11) (by omega) (by omega)]; exact m11, by rw [he (m + 12) (by omega) (by omega)]; exact m12, by rw [he (m + 13) (by omega) (by omega)]; exact m13, by rw [he (m + 14) (by omega) (by omega)]; exact m14, by rw [he (m + 15) (by omega) (by omega)]; exact m15, by rw [he (m + 16) (by omega) (by omega)]; exact m16, by rw [he (m + 17) (by omega) (by omega)]; exact m17, by rw [he (m + 18) (by omega) (by omega)]; exact m18, by rw [he (m + 19) (by omega) (by omega)]; exact m19, by rw [he (m + 20) (by omega) (by omega)]; exact m20, by rw [he (m + 21) (by omega) (by omega)]; exact m21, by rw [he (m + 22) (by omega) (by omega)]; exact m22⟩

set_option maxHeartbeats 4000000 in
set_option maxRecDepth 100000 in
theorem lw_done (l : Launch) (D : va_G) (ids : Nat → ClassId) (H0 : Heap) {b L : Nat} {xs : Nat → Int32} {X : rl_X} (hL : L ≤ 6) (hC : rl_C X (rl_e D ids H0) cL_law RL rl_BW rl_Ns) (hB : lw_B X (rl_e D ids H0) l b L xs) {h : rl_H} {n ce sl : Nat} {a1 a2 a3 a5 a6 a7 : Option Value} (hce : ce ≤ 600002) (hsl : sl ≤ 7302232) : rl_G X (rl_e D ids H0) 1123 [some (.ref b), a1, a2, a3, some (.int (nI 0)), a5, a6, a7] [] h n ce sl := by
  refine o_iinc (v := nI 6) hC dL_law_1123 (by rfl) (by decide +kernel) (Nat.le_of_ble_eq_true rfl) ?_
  refine o_goto (tgt := 23) hC dL_law_1126 (by decide) ?_
  refine o_iload hC dL_law_23 (by rfl) ?_
  refine o_aload_n hC dL_law_25 (by rfl) ?_
  refine o_slen hC hB dL_law_26 ?_
  refine o_bipush (v := nI 6) hC dL_law_27 (by decide +kernel) ?_
  refine o_isub hC dL_law_29 ?_
  refine o_icmp_gt (tgt := 1129) hC dL_law_30 (by decide) (fun c => ?_) (fun c => ?_)
  · refine o_iconst (v := nI 1) hC dL_law_1129 (by decide +kernel) ?_
    exact hB.2.2.2.2.1 _ _ _ _ _ _ dL_law_1130 hce hsl
  · exfalso
    rcases (by omega : L = 0 ∨ L = 1 ∨ L = 2 ∨ L = 3 ∨ L = 4 ∨ L = 5 ∨ L = 6) with rfl | rfl | rfl | rfl | rfl | rfl | rfl <;> exact absurd (by decide +kernel) c

set_option maxHeartbeats 4000000 in
set_option maxRecDepth 100000 in
theorem lw_c0 (l : Launch) (hl : l.stackTraces = false) (D : va_G) (ids : Nat → ClassId) (H0 : Heap) {b x m ou : Nat} {xs : Nat → Int32} {X : rl_X} (hC : rl_C X (rl_e D ids H0) cL_law RL rl_BW rl_Ns) (hB : lw_B X (rl_e D ids H0) l b 6 xs) {h : rl_H} {n : Nat} (hmx : m = x + 70) (hx : rw_new ids h x) (hm : md_new ids h m) : rl_G X (rl_e D ids H0) 152 [some (.ref b), some (.ref x), some (.ref m), some (.ref ou), some (.int (nI 0)), none, none, none] [] h n 94 44572 := by
  refine o_aload_n hC dL_law_152 (by rfl) ?_
  refine o_aload_n hC dL_law_153 (by rfl) ?_
  refine o_iload hC dL_law_154 (by rfl) ?_
  refine o_iconst (v := nI 1) hC dL_law_156 (by decide +kernel) ?_
  refine o_iadd hC dL_law_157 ?_
  rw [show nI 0 + nI 1 = nI 1 from by decide +kernel]
  refine o_sld (k := 1) hC hB (by decide) (by decide) dL_law_158 ?_
  refine o_callV1 hC rl_BW_good rl_Ns_nw (by exact hB.2.2.2.2.2) YX7_source IX7_source VX7_source (mL_25 hC) (by rw [hB.1]; exact fr_X7_source l D ids H0 _ _ x _ hx) (by exact hx.1) rfl rfl (Nat.le_of_ble_eq_true rfl) (by rw [hB.2.1]; first | exact Nat.le_of_ble_eq_true rfl | (dsimp only; omega)) (by rw [hB.2.1]; first | exact Nat.le_of_ble_eq_true rfl | (dsimp only; omega)) (by rw [hB.2.1]; first | exact Nat.le_of_ble_eq_true rfl | (dsimp only; omega)) (by rw [hB.2.1]; first | exact Nat.le_of_ble_eq_true rfl | (dsimp only; omega)) dL_law_159 (fun v h_159 n_159 p_159 => ?_)
  obtain ⟨rfl, f1, rfl⟩ := p_159
  have hm1 : md_new ids h_159 m := hm.eqv (fun q q1 q2 => f1 q (by omega))
  try dsimp only [Option.toList, List.cons_append, List.nil_append]
  refine o_aload_n hC dL_law_162 (by rfl) ?_
  refine o_aload_n hC dL_law_163 (by rfl) ?_
  refine o_iload hC dL_law_164 (by rfl) ?_
  refine o_iconst (v := nI 1) hC dL_law_166 (by decide +kernel) ?_
  refine o_iadd hC dL_law_167 ?_
  rw [show nI 0 + nI 1 = nI 1 from by decide +kernel]
  refine o_sld (k := 1) hC hB (by decide) (by decide) dL_law_168 ?_
  refine o_callV1 hC rl_BW_good rl_Ns_nw (by exact hB.2.2.2.2.2) YX8_source IX8_source VX8_source (mL_29 hC) (by rw [hB.1]; exact fr_X8_source l D ids H0 _ _ m _ hm1) (by exact hm1.1) rfl rfl (Nat.le_of_ble_eq_true rfl) (by rw [hB.2.1]; first | exact Nat.le_of_ble_eq_true rfl | (dsimp only; omega)) (by rw [hB.2.1]; first | exact Nat.le_of_ble_eq_true rfl | (dsimp only; omega)) (by rw [hB.2.1]; first | exact Nat.le_of_ble_eq_true rfl | (dsimp only; omega)) (by rw [hB.2.1]; first | exact Nat.le_of_ble_eq_true rfl | (dsimp only; omega)) dL_law_169 (fun v h_169 n_169 p_169 => ?_)
  obtain ⟨rfl, rfl⟩ := p_169
  try dsimp only [Option.toList, List.cons_append, List.nil_append]
  refine o_icmp_eq (tgt := 1123) hC dL_law_172 (by decide) (fun c_172 => ?_) (fun c_172 => ?_)
  · exact lw_done l D ids H0 (by decide) hC hB (Nat.le_of_ble_eq_true rfl) (Nat.le_of_ble_eq_true rfl)
  · exact absurd rfl c_172

set_option maxHeartbeats 4000000 in
set_option maxRecDepth 100000 in
theorem lw_c1 (l : Launch) (hl : l.stackTraces = false) (D : va_G) (ids : Nat → ClassId) (H0 : Heap) {b x m ou : Nat} {xs : Nat → Int32} {X : rl_X} (hC : rl_C X (rl_e D ids H0) cL_law RL rl_BW rl_Ns) (hB : lw_B X (rl_e D ids H0) l b 6 xs) {h : rl_H} {n : Nat} (hmx : m = x + 70) (hx : rw_new ids h x) (hm : md_new ids h m) : rl_G X (rl_e D ids H0) 177 [some (.ref b), some (.ref x), some (.ref m), some (.ref ou), some (.int (nI 0)), none, none, none] [] h n 94 44572 := by
  refine o_aload_n hC dL_law_177 (by rfl) ?_
  refine o_aload_n hC dL_law_178 (by rfl) ?_
  refine o_iload hC dL_law_179 (by rfl) ?_
  refine o_iconst (v := nI 1) hC dL_law_181 (by decide +kernel) ?_
  refine o_iadd hC dL_law_182 ?_
  rw [show nI 0 + nI 1 = nI 1 from by decide +kernel]
  refine o_sld (k := 1) hC hB (by decide) (by decide) dL_law_183 ?_
  refine o_aload_n hC dL_law_184 (by rfl) ?_
  refine o_iload hC dL_law_185 (by rfl) ?_
  refine o_iconst (v := nI 2) hC dL_law_187 (by decide +kernel) ?_
  refine o_iadd hC dL_law_188 ?_
  rw [show nI 0 + nI 2 = nI 2 from by decide +kernel]
  refine o_sld (k := 2) hC hB (by decide) (by decide) dL_law_189 ?_
  refine o_aload_n hC dL_law_190 (by rfl) ?_
  refine o_iload hC dL_law_191 (by rfl) ?_
  refine o_iconst (v := nI 3) hC dL_law_193 (by decide +kernel) ?_
  refine o_iadd hC dL_law_194 ?_
  rw [show nI 0 + nI 3 = nI 3 from by decide +kernel]
  refine o_sld (k := 3) hC hB (by decide) (by decide) dL_law_195 ?_
  refine o_aload_n hC dL_law_196 (by rfl) ?_
  refine o_iload hC dL_law_197 (by rfl) ?_
  refine o_iconst (v := nI 4) hC dL_law_199 (by decide +kernel) ?_
  refine o_iadd hC dL_law_200 ?_
  rw [show nI 0 + nI 4 = nI 4 from by decide +kernel]
  refine o_sld (k := 4) hC hB (by decide) (by decide) dL_law_201 ?_
  refine o_aload_n hC dL_law_202 (by rfl) ?_
  refine o_iload hC dL_law_203 (by rfl) ?_
  refine o_iconst (v := nI 5) hC dL_law_205 (by decide +kernel) ?_
  refine o_iadd hC dL_law_206 ?_
  rw [show nI 0 + nI 5 = nI 5 from by decide +kernel]
  refine o_sld (k := 5) hC hB (by decide) (by decide) dL_law_207 ?_
  refine o_callV5 hC rl_BW_good rl_Ns_nw (by exact hB.2.2.2.2.2) YX7_row IX7_row VX7_row (mL_30 hC) (by rw [hB.1]; exact fr_X7_row l D ids H0 _ _ x _ _ _ _ _ hx) (by exact hx.1) rfl rfl (Nat.le_of_ble_eq_true rfl) (by rw [hB.2.1]; first | exact Nat.le_of_ble_eq_true rfl | (dsimp only; omega)) (by rw [hB.2.1]; first | exact Nat.le_of_ble_eq_true rfl | (dsimp only; omega)) (by rw [hB.2.1]; first | exact Nat.le_of_ble_eq_true rfl | (dsimp only; omega)) (by rw [hB.2.1]; first | exact Nat.le_of_ble_eq_true rfl | (dsimp only; omega)) dL_law_208 (fun v h_208 n_208 p_208 => ?_)
  obtain ⟨rfl, rfl, rfl⟩ := p_208
  try dsimp only [Option.toList, List.cons_append, List.nil_append]
  refine o_aload_n hC dL_law_211 (by rfl) ?_
  refine o_aload_n hC dL_law_212 (by rfl) ?_
  refine o_iload hC dL_law_213 (by rfl) ?_
  refine o_iconst (v := nI 1) hC dL_law_215 (by decide +kernel) ?_
  refine o_iadd hC dL_law_216 ?_
  rw [show nI 0 + nI 1 = nI 1 from by decide +kernel]
  refine o_sld (k := 1) hC hB (by decide) (by decide) dL_law_217 ?_
  refine o_aload_n hC dL_law_218 (by rfl) ?_
  refine o_iload hC dL_law_219 (by rfl) ?_
  refine o_iconst (v := nI 2) hC dL_law_221 (by decide +kernel) ?_
  refine o_iadd hC dL_law_222 ?_
  rw [show nI 0 + nI 2 = nI 2 from by decide +kernel]
  refine o_sld (k := 2) hC hB (by decide) (by decide) dL_law_223 ?_
  refine o_aload_n hC dL_law_224 (by rfl) ?_
  refine o_iload hC dL_law_225 (by rfl) ?_
  refine o_iconst (v := nI 3) hC dL_law_227 (by decide +kernel) ?_
  refine o_iadd hC dL_law_228 ?_
  rw [show nI 0 + nI 3 = nI 3 from by decide +kernel]
  refine o_sld (k := 3) hC hB (by decide) (by decide) dL_law_229 ?_
  refine o_aload_n hC dL_law_230 (by rfl) ?_
  refine o_iload hC dL_law_231 (by rfl) ?_
  refine o_iconst (v := nI 4) hC dL_law_233 (by decide +kernel) ?_
  refine o_iadd hC dL_law_234 ?_
  rw [show nI 0 + nI 4 = nI 4 from by decide +kernel]
  refine o_sld (k := 4) hC hB (by decide) (by decide) dL_law_235 ?_
  refine o_aload_n hC dL_law_236 (by rfl) ?_
  refine o_iload hC dL_law_237 (by rfl) ?_
  refine o_iconst (v := nI 5) hC dL_law_239 (by decide +kernel) ?_
  refine o_iadd hC dL_law_240 ?_
  rw [show nI 0 + nI 5 = nI 5 from by decide +kernel]
  refine o_sld (k := 5) hC hB (by decide) (by decide) dL_law_241 ?_
  refine o_callV5 hC rl_BW_good rl_Ns_nw (by exact hB.2.2.2.2.2) YX8_row IX8_row VX8_row (mL_34 hC) (by rw [hB.1]; exact fr_X8_row l D ids H0 _ _ m _ _ _ _ _ hm) (by exact hm.1) rfl rfl (Nat.le_of_ble_eq_true rfl) (by rw [hB.2.1]; first | exact Nat.le_of_ble_eq_true rfl | (dsimp only; omega)) (by rw [hB.2.1]; first | exact Nat.le_of_ble_eq_true rfl | (dsimp only; omega)) (by rw [hB.2.1]; first | exact Nat.le_of_ble_eq_true rfl | (dsimp only; omega)) (by rw [hB.2.1]; first | exact Nat.le_of_ble_eq_true rfl | (dsimp only; omega)) dL_law_242 (fun v h_242 n_242 p_242 => ?_)
  obtain ⟨rfl, rfl⟩ := p_242
  try dsimp only [Option.toList, List.cons_append, List.nil_append]
  refine o_icmp_eq (tgt := 1123) hC dL_law_245 (by decide) (fun c_245 => ?_) (fun c_245 => ?_)
  · exact lw_done l D ids H0 (by decide) hC hB (Nat.le_of_ble_eq_true rfl) (Nat.le_of_ble_eq_true rfl)
  · exact absurd rfl c_245

set_option maxHeartbeats 4000000 in
set_option maxRecDepth 100000 in
theorem lw_c2 (l : Launch) (hl : l.stackTraces = false) (D : va_G) (ids : Nat → ClassId) (H0 : Heap) {b x m ou : Nat} {xs : Nat → Int32} {X : rl_X} (hC : rl_C X (rl_e D ids H0) cL_law RL rl_BW rl_Ns) (hB : lw_B X (rl_e D ids H0) l b 6 xs) {h : rl_H} {n : Nat} (hmx : m = x + 70) (hx : rw_new ids h x) (hm : md_new ids h m) : rl_G X (rl_e D ids H0) 250 [some (.ref b), some (.ref x), some (.ref m), some (.ref ou), some (.int (nI 0)), none, none, none] [] h n 94 44572 := by
  refine o_aload_n hC dL_law_250 (by rfl) ?_
  refine o_aload_n hC dL_law_251 (by rfl) ?_
  refine o_iload hC dL_law_252 (by rfl) ?_
  refine o_iconst (v := nI 1) hC dL_law_254 (by decide +kernel) ?_
  refine o_iadd hC dL_law_255 ?_
  rw [show nI 0 + nI 1 = nI 1 from by decide +kernel]
  refine o_sld (k := 1) hC hB (by decide) (by decide) dL_law_256 ?_
  refine o_callV1 hC rl_BW_good rl_Ns_nw (by exact hB.2.2.2.2.2) YX7_scan IX7_scan VX7_scan (mL_35 hC) (by rw [hB.1]; exact fr_X7_scan l D ids H0 _ _ x _ hx) (by exact hx.1) rfl rfl (Nat.le_of_ble_eq_true rfl) (by rw [hB.2.1]; first | exact Nat.le_of_ble_eq_true rfl | (dsimp only; omega)) (by rw [hB.2.1]; first | exact Nat.le_of_ble_eq_true rfl | (dsimp only; omega)) (by rw [hB.2.1]; first | exact Nat.le_of_ble_eq_true rfl | (dsimp only; omega)) (by rw [hB.2.1]; first | exact Nat.le_of_ble_eq_true rfl | (dsimp only; omega)) dL_law_257 (fun v h_257 n_257 p_257 => ?_)
  obtain ⟨rfl, rfl, rfl⟩ := p_257
  try dsimp only [Option.toList, List.cons_append, List.nil_append]
  refine o_aload_n hC dL_law_260 (by rfl) ?_
  refine o_aload_n hC dL_law_261 (by rfl) ?_
  refine o_iload hC dL_law_262 (by rfl) ?_
  refine o_iconst (v := nI 1) hC dL_law_264 (by decide +kernel) ?_
  refine o_iadd hC dL_law_265 ?_
  rw [show nI 0 + nI 1 = nI 1 from by decide +kernel]
  refine o_sld (k := 1) hC hB (by decide) (by decide) dL_law_266 ?_
  refine o_callV1 hC rl_BW_good rl_Ns_nw (by exact hB.2.2.2.2.2) YX8_scan IX8_scan VX8_scan (mL_38 hC) (by rw [hB.1]; exact fr_X8_scan l D ids H0 _ _ m _ hm) (by exact hm.1) rfl rfl (Nat.le_of_ble_eq_true rfl) (by rw [hB.2.1]; first | exact Nat.le_of_ble_eq_true rfl | (dsimp only; omega)) (by rw [hB.2.1]; first | exact Nat.le_of_ble_eq_true rfl | (dsimp only; omega)) (by rw [hB.2.1]; first | exact Nat.le_of_ble_eq_true rfl | (dsimp only; omega)) (by rw [hB.2.1]; first | exact Nat.le_of_ble_eq_true rfl | (dsimp only; omega)) dL_law_267 (fun v h_267 n_267 p_267 => ?_)
  obtain ⟨rfl, rfl⟩ := p_267
  try dsimp only [Option.toList, List.cons_append, List.nil_append]
  refine o_icmp_eq (tgt := 1123) hC dL_law_270 (by decide) (fun c_270 => ?_) (fun c_270 => ?_)
  · exact lw_done l D ids H0 (by decide) hC hB (Nat.le_of_ble_eq_true rfl) (Nat.le_of_ble_eq_true rfl)
  · exact absurd rfl c_270

set_option maxHeartbeats 4000000 in
set_option maxRecDepth 100000 in
theorem lw_c3 (l : Launch) (hl : l.stackTraces = false) (D : va_G) (ids : Nat → ClassId) (H0 : Heap) {b x m ou : Nat} {xs : Nat → Int32} {X : rl_X} (hC : rl_C X (rl_e D ids H0) cL_law RL rl_BW rl_Ns) (hB : lw_B X (rl_e D ids H0) l b 6 xs) {h : rl_H} {n : Nat} (hmx : m = x + 70) (hx : rw_new ids h x) (hm : md_new ids h m) : rl_G X (rl_e D ids H0) 275 [some (.ref b), some (.ref x), some (.ref m), some (.ref ou), some (.int (nI 0)), none, none, none] [] h n 94 44572 := by
  refine o_aload_n hC dL_law_275 (by rfl) ?_
  refine o_aload_n hC dL_law_276 (by rfl) ?_
  refine o_iload hC dL_law_277 (by rfl) ?_
  refine o_iconst (v := nI 1) hC dL_law_279 (by decide +kernel) ?_
  refine o_iadd hC dL_law_280 ?_
  rw [show nI 0 + nI 1 = nI 1 from by decide +kernel]
  refine o_sld (k := 1) hC hB (by decide) (by decide) dL_law_281 ?_
  refine o_aload_n hC dL_law_282 (by rfl) ?_
  refine o_iload hC dL_law_283 (by rfl) ?_
  refine o_iconst (v := nI 2) hC dL_law_285 (by decide +kernel) ?_
  refine o_iadd hC dL_law_286 ?_
  rw [show nI 0 + nI 2 = nI 2 from by decide +kernel]
  refine o_sld (k := 2) hC hB (by decide) (by decide) dL_law_287 ?_
  refine o_aload_n hC dL_law_288 (by rfl) ?_
  refine o_iload hC dL_law_289 (by rfl) ?_
  refine o_iconst (v := nI 3) hC dL_law_291 (by decide +kernel) ?_
  refine o_iadd hC dL_law_292 ?_
  rw [show nI 0 + nI 3 = nI 3 from by decide +kernel]
  refine o_sld (k := 3) hC hB (by decide) (by decide) dL_law_293 ?_
  refine o_aload_n hC dL_law_294 (by rfl) ?_
  refine o_iload hC dL_law_295 (by rfl) ?_
  refine o_iconst (v := nI 4) hC dL_law_297 (by decide +kernel) ?_
  refine o_iadd hC dL_law_298 ?_
  rw [show nI 0 + nI 4 = nI 4 from by decide +kernel]
  refine o_sld (k := 4) hC hB (by decide) (by decide) dL_law_299 ?_
  refine o_aload_n hC dL_law_300 (by rfl) ?_
  refine o_iload hC dL_law_301 (by rfl) ?_
  refine o_iconst (v := nI 5) hC dL_law_303 (by decide +kernel) ?_
  refine o_iadd hC dL_law_304 ?_
  rw [show nI 0 + nI 5 = nI 5 from by decide +kernel]
  refine o_sld (k := 5) hC hB (by decide) (by decide) dL_law_305 ?_
  refine o_callV5 hC rl_BW_good rl_Ns_nw (by exact hB.2.2.2.2.2) YX7_pick IX7_pick VX7_pick (mL_39 hC) (by rw [hB.1]; exact fr_X7_pick l D ids H0 _ _ x _ _ _ _ _ hx) (by exact hx.1) rfl rfl (Nat.le_of_ble_eq_true rfl) (by rw [hB.2.1]; first | exact Nat.le_of_ble_eq_true rfl | (dsimp only; omega)) (by rw [hB.2.1]; first | exact Nat.le_of_ble_eq_true rfl | (dsimp only; omega)) (by rw [hB.2.1]; first | exact Nat.le_of_ble_eq_true rfl | (dsimp only; omega)) (by rw [hB.2.1]; first | exact Nat.le_of_ble_eq_true rfl | (dsimp only; omega)) dL_law_306 (fun v h_306 n_306 p_306 => ?_)
  obtain ⟨rfl, rfl, rfl⟩ := p_306
  try dsimp only [Option.toList, List.cons_append, List.nil_append]
  refine o_aload_n hC dL_law_309 (by rfl) ?_
  refine o_aload_n hC dL_law_310 (by rfl) ?_
  refine o_iload hC dL_law_311 (by rfl) ?_
  refine o_iconst (v := nI 1) hC dL_law_313 (by decide +kernel) ?_
  refine o_iadd hC dL_law_314 ?_
  rw [show nI 0 + nI 1 = nI 1 from by decide +kernel]
  refine o_sld (k := 1) hC hB (by decide) (by decide) dL_law_315 ?_
  refine o_aload_n hC dL_law_316 (by rfl) ?_
  refine o_iload hC dL_law_317 (by rfl) ?_
  refine o_iconst (v := nI 2) hC dL_law_319 (by decide +kernel) ?_
  refine o_iadd hC dL_law_320 ?_
  rw [show nI 0 + nI 2 = nI 2 from by decide +kernel]
  refine o_sld (k := 2) hC hB (by decide) (by decide) dL_law_321 ?_
  refine o_aload_n hC dL_law_322 (by rfl) ?_
  refine o_iload hC dL_law_323 (by rfl) ?_
  refine o_iconst (v := nI 3) hC dL_law_325 (by decide +kernel) ?_
  refine o_iadd hC dL_law_326 ?_
  rw [show nI 0 + nI 3 = nI 3 from by decide +kernel]
  refine o_sld (k := 3) hC hB (by decide) (by decide) dL_law_327 ?_
  refine o_aload_n hC dL_law_328 (by rfl) ?_
  refine o_iload hC dL_law_329 (by rfl) ?_
  refine o_iconst (v := nI 4) hC dL_law_331 (by decide +kernel) ?_
  refine o_iadd hC dL_law_332 ?_
  rw [show nI 0 + nI 4 = nI 4 from by decide +kernel]
  refine o_sld (k := 4) hC hB (by decide) (by decide) dL_law_333 ?_
  refine o_aload_n hC dL_law_334 (by rfl) ?_
  refine o_iload hC dL_law_335 (by rfl) ?_
  refine o_iconst (v := nI 5) hC dL_law_337 (by decide +kernel) ?_
  refine o_iadd hC dL_law_338 ?_
  rw [show nI 0 + nI 5 = nI 5 from by decide +kernel]
  refine o_sld (k := 5) hC hB (by decide) (by decide) dL_law_339 ?_
  refine o_callV5 hC rl_BW_good rl_Ns_nw (by exact hB.2.2.2.2.2) YX8_pick IX8_pick VX8_pick (mL_42 hC) (by rw [hB.1]; exact fr_X8_pick l D ids H0 _ _ m _ _ _ _ _ hm) (by exact hm.1) rfl rfl (Nat.le_of_ble_eq_true rfl) (by rw [hB.2.1]; first | exact Nat.le_of_ble_eq_true rfl | (dsimp only; omega)) (by rw [hB.2.1]; first | exact Nat.le_of_ble_eq_true rfl | (dsimp only; omega)) (by rw [hB.2.1]; first | exact Nat.le_of_ble_eq_true rfl | (dsimp only; omega)) (by rw [hB.2.1]; first | exact Nat.le_of_ble_eq_true rfl | (dsimp only; omega)) dL_law_340 (fun v h_340 n_340 p_340 => ?_)
  obtain ⟨rfl, rfl⟩ := p_340
  try dsimp only [Option.toList, List.cons_append, List.nil_append]
  refine o_icmp_eq (tgt := 1123) hC dL_law_343 (by decide) (fun c_343 => ?_) (fun c_343 => ?_)
  · exact lw_done l D ids H0 (by decide) hC hB (Nat.le_of_ble_eq_true rfl) (Nat.le_of_ble_eq_true rfl)
  · exact absurd rfl c_343

set_option maxHeartbeats 4000000 in
set_option maxRecDepth 100000 in
theorem lw_c4 (l : Launch) (hl : l.stackTraces = false) (D : va_G) (ids : Nat → ClassId) (H0 : Heap) {b x m ou : Nat} {xs : Nat → Int32} {X : rl_X} (hC : rl_C X (rl_e D ids H0) cL_law RL rl_BW rl_Ns) (hB : lw_B X (rl_e D ids H0) l b 6 xs) {h : rl_H} {n : Nat} (hmx : m = x + 70) (hx : rw_new ids h x) (hm : md_new ids h m) : rl_G X (rl_e D ids H0) 348 [some (.ref b), some (.ref x), some (.ref m), some (.ref ou), some (.int (nI 0)), none, none, none] [] h n 94 44572 := by
  refine o_aload_n hC dL_law_348 (by rfl) ?_
  refine o_aload_n hC dL_law_349 (by rfl) ?_
  refine o_iload hC dL_law_350 (by rfl) ?_
  refine o_iconst (v := nI 1) hC dL_law_352 (by decide +kernel) ?_
  refine o_iadd hC dL_law_353 ?_
  rw [show nI 0 + nI 1 = nI 1 from by decide +kernel]
  refine o_sld (k := 1) hC hB (by decide) (by decide) dL_law_354 ?_
  refine o_aload_n hC dL_law_355 (by rfl) ?_
  refine o_iload hC dL_law_356 (by rfl) ?_
  refine o_iconst (v := nI 2) hC dL_law_358 (by decide +kernel) ?_
  refine o_iadd hC dL_law_359 ?_
  rw [show nI 0 + nI 2 = nI 2 from by decide +kernel]
  refine o_sld (k := 2) hC hB (by decide) (by decide) dL_law_360 ?_
  refine o_callV2 hC rl_BW_good rl_Ns_nw (by exact hB.2.2.2.2.2) YX7_cols IX7_cols VX7_cols (mL_43 hC) (by rw [hB.1]; exact fr_X7_cols l D ids H0 _ _ x _ _ hx) (by exact hx.1) rfl rfl (Nat.le_of_ble_eq_true rfl) (by rw [hB.2.1]; first | exact Nat.le_of_ble_eq_true rfl | (dsimp only; omega)) (by rw [hB.2.1]; first | exact Nat.le_of_ble_eq_true rfl | (dsimp only; omega)) (by rw [hB.2.1]; first | exact Nat.le_of_ble_eq_true rfl | (dsimp only; omega)) (by rw [hB.2.1]; first | exact Nat.le_of_ble_eq_true rfl | (dsimp only; omega)) dL_law_361 (fun v h_361 n_361 p_361 => ?_)
  obtain ⟨rfl, rfl, rfl⟩ := p_361
  try dsimp only [Option.toList, List.cons_append, List.nil_append]
  refine o_aload_n hC dL_law_364 (by rfl) ?_
  refine o_aload_n hC dL_law_365 (by rfl) ?_
  refine o_iload hC dL_law_366 (by rfl) ?_
  refine o_iconst (v := nI 1) hC dL_law_368 (by decide +kernel) ?_
  refine o_iadd hC dL_law_369 ?_
  rw [show nI 0 + nI 1 = nI 1 from by decide +kernel]
  refine o_sld (k := 1) hC hB (by decide) (by decide) dL_law_370 ?_
  refine o_aload_n hC dL_law_371 (by rfl) ?_
  refine o_iload hC dL_law_372 (by rfl) ?_
  refine o_iconst (v := nI 2) hC dL_law_374 (by decide +kernel) ?_
  refine o_iadd hC dL_law_375 ?_
  rw [show nI 0 + nI 2 = nI 2 from by decide +kernel]
  refine o_sld (k := 2) hC hB (by decide) (by decide) dL_law_376 ?_
  refine o_callV2 hC rl_BW_good rl_Ns_nw (by exact hB.2.2.2.2.2) YX8_cols IX8_cols VX8_cols (mL_46 hC) (by rw [hB.1]; exact fr_X8_cols l D ids H0 _ _ m _ _ hm) (by exact hm.1) rfl rfl (Nat.le_of_ble_eq_true rfl) (by rw [hB.2.1]; first | exact Nat.le_of_ble_eq_true rfl | (dsimp only; omega)) (by rw [hB.2.1]; first | exact Nat.le_of_ble_eq_true rfl | (dsimp only; omega)) (by rw [hB.2.1]; first | exact Nat.le_of_ble_eq_true rfl | (dsimp only; omega)) (by rw [hB.2.1]; first | exact Nat.le_of_ble_eq_true rfl | (dsimp only; omega)) dL_law_377 (fun v h_377 n_377 p_377 => ?_)
  obtain ⟨rfl, rfl⟩ := p_377
  try dsimp only [Option.toList, List.cons_append, List.nil_append]
  refine o_icmp_eq (tgt := 1123) hC dL_law_380 (by decide) (fun c_380 => ?_) (fun c_380 => ?_)
  · exact lw_done l D ids H0 (by decide) hC hB (Nat.le_of_ble_eq_true rfl) (Nat.le_of_ble_eq_true rfl)
  · exact absurd rfl c_380

set_option maxHeartbeats 4000000 in
set_option maxRecDepth 100000 in
theorem lw_c5 (l : Launch) (hl : l.stackTraces = false) (D : va_G) (ids : Nat → ClassId) (H0 : Heap) {b x m ou : Nat} {xs : Nat → Int32} {X : rl_X} (hC : rl_C X (rl_e D ids H0) cL_law RL rl_BW rl_Ns) (hB : lw_B X (rl_e D ids H0) l b 6 xs) {h : rl_H} {n : Nat} (hmx : m = x + 70) (hx : rw_new ids h x) (hm : md_new ids h m) : rl_G X (rl_e D ids H0) 385 [some (.ref b), some (.ref x), some (.ref m), some (.ref ou), some (.int (nI 0)), none, none, none] [] h n 94 44572 := by
  refine o_aload_n hC dL_law_385 (by rfl) ?_
  refine o_aload_n hC dL_law_386 (by rfl) ?_
  refine o_iload hC dL_law_387 (by rfl) ?_
  refine o_iconst (v := nI 1) hC dL_law_389 (by decide +kernel) ?_
  refine o_iadd hC dL_law_390 ?_
  rw [show nI 0 + nI 1 = nI 1 from by decide +kernel]
  refine o_sld (k := 1) hC hB (by decide) (by decide) dL_law_391 ?_
  refine o_aload_n hC dL_law_392 (by rfl) ?_
  refine o_iload hC dL_law_393 (by rfl) ?_
  refine o_iconst (v := nI 2) hC dL_law_395 (by decide +kernel) ?_
  refine o_iadd hC dL_law_396 ?_
  rw [show nI 0 + nI 2 = nI 2 from by decide +kernel]
  refine o_sld (k := 2) hC hB (by decide) (by decide) dL_law_397 ?_
  refine o_aload_n hC dL_law_398 (by rfl) ?_
  refine o_iload hC dL_law_399 (by rfl) ?_
  refine o_iconst (v := nI 3) hC dL_law_401 (by decide +kernel) ?_
  refine o_iadd hC dL_law_402 ?_
  rw [show nI 0 + nI 3 = nI 3 from by decide +kernel]
  refine o_sld (k := 3) hC hB (by decide) (by decide) dL_law_403 ?_
  refine o_aload_n hC dL_law_404 (by rfl) ?_
  refine o_iload hC dL_law_405 (by rfl) ?_
  refine o_iconst (v := nI 4) hC dL_law_407 (by decide +kernel) ?_
  refine o_iadd hC dL_law_408 ?_
  rw [show nI 0 + nI 4 = nI 4 from by decide +kernel]
  refine o_sld (k := 4) hC hB (by decide) (by decide) dL_law_409 ?_
  refine o_callV4 hC rl_BW_good rl_Ns_nw (by exact hB.2.2.2.2.2) YX7_join IX7_join VX7_join (mL_47 hC) (by rw [hB.1]; exact fr_X7_join l D ids H0 _ _ x _ _ _ _ hx) (by exact hx.1) rfl rfl (Nat.le_of_ble_eq_true rfl) (by rw [hB.2.1]; first | exact Nat.le_of_ble_eq_true rfl | (dsimp only; omega)) (by rw [hB.2.1]; first | exact Nat.le_of_ble_eq_true rfl | (dsimp only; omega)) (by rw [hB.2.1]; first | exact Nat.le_of_ble_eq_true rfl | (dsimp only; omega)) (by rw [hB.2.1]; first | exact Nat.le_of_ble_eq_true rfl | (dsimp only; omega)) dL_law_410 (fun v h_410 n_410 p_410 => ?_)
  obtain ⟨rfl, rfl, rfl⟩ := p_410
  try dsimp only [Option.toList, List.cons_append, List.nil_append]
  refine o_aload_n hC dL_law_413 (by rfl) ?_
  refine o_aload_n hC dL_law_414 (by rfl) ?_
  refine o_iload hC dL_law_415 (by rfl) ?_
  refine o_iconst (v := nI 1) hC dL_law_417 (by decide +kernel) ?_
  refine o_iadd hC dL_law_418 ?_
  rw [show nI 0 + nI 1 = nI 1 from by decide +kernel]
  refine o_sld (k := 1) hC hB (by decide) (by decide) dL_law_419 ?_
  refine o_aload_n hC dL_law_420 (by rfl) ?_
  refine o_iload hC dL_law_421 (by rfl) ?_
  refine o_iconst (v := nI 2) hC dL_law_423 (by decide +kernel) ?_
  refine o_iadd hC dL_law_424 ?_
  rw [show nI 0 + nI 2 = nI 2 from by decide +kernel]
  refine o_sld (k := 2) hC hB (by decide) (by decide) dL_law_425 ?_
  refine o_aload_n hC dL_law_426 (by rfl) ?_
  refine o_iload hC dL_law_427 (by rfl) ?_
  refine o_iconst (v := nI 3) hC dL_law_429 (by decide +kernel) ?_
  refine o_iadd hC dL_law_430 ?_
  rw [show nI 0 + nI 3 = nI 3 from by decide +kernel]
  refine o_sld (k := 3) hC hB (by decide) (by decide) dL_law_431 ?_
  refine o_aload_n hC dL_law_432 (by rfl) ?_
  refine o_iload hC dL_law_433 (by rfl) ?_
  refine o_iconst (v := nI 4) hC dL_law_435 (by decide +kernel) ?_
  refine o_iadd hC dL_law_436 ?_
  rw [show nI 0 + nI 4 = nI 4 from by decide +kernel]
  refine o_sld (k := 4) hC hB (by decide) (by decide) dL_law_437 ?_
  refine o_callV4 hC rl_BW_good rl_Ns_nw (by exact hB.2.2.2.2.2) YX8_join IX8_join VX8_join (mL_51 hC) (by rw [hB.1]; exact fr_X8_join l D ids H0 _ _ m _ _ _ _ hm) (by exact hm.1) rfl rfl (Nat.le_of_ble_eq_true rfl) (by rw [hB.2.1]; first | exact Nat.le_of_ble_eq_true rfl | (dsimp only; omega)) (by rw [hB.2.1]; first | exact Nat.le_of_ble_eq_true rfl | (dsimp only; omega)) (by rw [hB.2.1]; first | exact Nat.le_of_ble_eq_true rfl | (dsimp only; omega)) (by rw [hB.2.1]; first | exact Nat.le_of_ble_eq_true rfl | (dsimp only; omega)) dL_law_438 (fun v h_438 n_438 p_438 => ?_)
  obtain ⟨rfl, rfl⟩ := p_438
  try dsimp only [Option.toList, List.cons_append, List.nil_append]
  refine o_icmp_eq (tgt := 1123) hC dL_law_441 (by decide) (fun c_441 => ?_) (fun c_441 => ?_)
  · exact lw_done l D ids H0 (by decide) hC hB (Nat.le_of_ble_eq_true rfl) (Nat.le_of_ble_eq_true rfl)
  · exact absurd rfl c_441

set_option maxHeartbeats 4000000 in
set_option maxRecDepth 100000 in
theorem lw_c6 (l : Launch) (hl : l.stackTraces = false) (D : va_G) (ids : Nat → ClassId) (H0 : Heap) {b x m ou : Nat} {xs : Nat → Int32} {X : rl_X} (hC : rl_C X (rl_e D ids H0) cL_law RL rl_BW rl_Ns) (hB : lw_B X (rl_e D ids H0) l b 6 xs) {h : rl_H} {n : Nat} (hmx : m = x + 70) (hx : rw_new ids h x) (hm : md_new ids h m) : rl_G X (rl_e D ids H0) 446 [some (.ref b), some (.ref x), some (.ref m), some (.ref ou), some (.int (nI 0)), none, none, none] [] h n 94 44572 := by
  refine o_aload_n hC dL_law_446 (by rfl) ?_
  refine o_aload_n hC dL_law_447 (by rfl) ?_
  refine o_iload hC dL_law_448 (by rfl) ?_
  refine o_iconst (v := nI 1) hC dL_law_450 (by decide +kernel) ?_
  refine o_iadd hC dL_law_451 ?_
  rw [show nI 0 + nI 1 = nI 1 from by decide +kernel]
  refine o_sld (k := 1) hC hB (by decide) (by decide) dL_law_452 ?_
  refine o_aload_n hC dL_law_453 (by rfl) ?_
  refine o_iload hC dL_law_454 (by rfl) ?_
  refine o_iconst (v := nI 2) hC dL_law_456 (by decide +kernel) ?_
  refine o_iadd hC dL_law_457 ?_
  rw [show nI 0 + nI 2 = nI 2 from by decide +kernel]
  refine o_sld (k := 2) hC hB (by decide) (by decide) dL_law_458 ?_
  refine o_callV2 hC rl_BW_good rl_Ns_nw (by exact hB.2.2.2.2.2) YX7_unite IX7_unite VX7_unite (mL_52 hC) (by rw [hB.1]; exact fr_X7_unite l D ids H0 _ _ x _ _ hx) (by exact hx.1) rfl rfl (Nat.le_of_ble_eq_true rfl) (by rw [hB.2.1]; first | exact Nat.le_of_ble_eq_true rfl | (dsimp only; omega)) (by rw [hB.2.1]; first | exact Nat.le_of_ble_eq_true rfl | (dsimp only; omega)) (by rw [hB.2.1]; first | exact Nat.le_of_ble_eq_true rfl | (dsimp only; omega)) (by rw [hB.2.1]; first | exact Nat.le_of_ble_eq_true rfl | (dsimp only; omega)) dL_law_459 (fun v h_459 n_459 p_459 => ?_)
  obtain ⟨rfl, rfl, rfl⟩ := p_459
  try dsimp only [Option.toList, List.cons_append, List.nil_append]
  refine o_aload_n hC dL_law_462 (by rfl) ?_
  refine o_aload_n hC dL_law_463 (by rfl) ?_
  refine o_iload hC dL_law_464 (by rfl) ?_
  refine o_iconst (v := nI 1) hC dL_law_466 (by decide +kernel) ?_
  refine o_iadd hC dL_law_467 ?_
  rw [show nI 0 + nI 1 = nI 1 from by decide +kernel]
  refine o_sld (k := 1) hC hB (by decide) (by decide) dL_law_468 ?_
  refine o_aload_n hC dL_law_469 (by rfl) ?_
  refine o_iload hC dL_law_470 (by rfl) ?_
  refine o_iconst (v := nI 2) hC dL_law_472 (by decide +kernel) ?_
  refine o_iadd hC dL_law_473 ?_
  rw [show nI 0 + nI 2 = nI 2 from by decide +kernel]
  refine o_sld (k := 2) hC hB (by decide) (by decide) dL_law_474 ?_
  refine o_callV2 hC rl_BW_good rl_Ns_nw (by exact hB.2.2.2.2.2) YX8_unite IX8_unite VX8_unite (mL_55 hC) (by rw [hB.1]; exact fr_X8_unite l D ids H0 _ _ m _ _ hm) (by exact hm.1) rfl rfl (Nat.le_of_ble_eq_true rfl) (by rw [hB.2.1]; first | exact Nat.le_of_ble_eq_true rfl | (dsimp only; omega)) (by rw [hB.2.1]; first | exact Nat.le_of_ble_eq_true rfl | (dsimp only; omega)) (by rw [hB.2.1]; first | exact Nat.le_of_ble_eq_true rfl | (dsimp only; omega)) (by rw [hB.2.1]; first | exact Nat.le_of_ble_eq_true rfl | (dsimp only; omega)) dL_law_475 (fun v h_475 n_475 p_475 => ?_)
  obtain ⟨rfl, rfl⟩ := p_475
  try dsimp only [Option.toList, List.cons_append, List.nil_append]
  refine o_icmp_eq (tgt := 1123) hC dL_law_478 (by decide) (fun c_478 => ?_) (fun c_478 => ?_)
  · exact lw_done l D ids H0 (by decide) hC hB (Nat.le_of_ble_eq_true rfl) (Nat.le_of_ble_eq_true rfl)
  · exact absurd rfl c_478

set_option maxHeartbeats 4000000 in
set_option maxRecDepth 100000 in
theorem lw_c7 (l : Launch) (hl : l.stackTraces = false) (D : va_G) (ids : Nat → ClassId) (H0 : Heap) {b x m ou : Nat} {xs : Nat → Int32} {X : rl_X} (hC : rl_C X (rl_e D ids H0) cL_law RL rl_BW rl_Ns) (hB : lw_B X (rl_e D ids H0) l b 6 xs) {h : rl_H} {n : Nat} (hmx : m = x + 70) (hx : rw_new ids h x) (hm : md_new ids h m) : rl_G X (rl_e D ids H0) 483 [some (.ref b), some (.ref x), some (.ref m), some (.ref ou), some (.int (nI 0)), none, none, none] [] h n 94 44572 := by
  refine o_aload_n hC dL_law_483 (by rfl) ?_
  refine o_aload_n hC dL_law_484 (by rfl) ?_
  refine o_iload hC dL_law_485 (by rfl) ?_
  refine o_iconst (v := nI 1) hC dL_law_487 (by decide +kernel) ?_
  refine o_iadd hC dL_law_488 ?_
  rw [show nI 0 + nI 1 = nI 1 from by decide +kernel]
  refine o_sld (k := 1) hC hB (by decide) (by decide) dL_law_489 ?_
  refine o_aload_n hC dL_law_490 (by rfl) ?_
  refine o_iload hC dL_law_491 (by rfl) ?_
  refine o_iconst (v := nI 2) hC dL_law_493 (by decide +kernel) ?_
  refine o_iadd hC dL_law_494 ?_
  rw [show nI 0 + nI 2 = nI 2 from by decide +kernel]
  refine o_sld (k := 2) hC hB (by decide) (by decide) dL_law_495 ?_
  refine o_callV2 hC rl_BW_good rl_Ns_nw (by exact hB.2.2.2.2.2) YX7_minus IX7_minus VX7_minus (mL_56 hC) (by rw [hB.1]; exact fr_X7_minus l D ids H0 _ _ x _ _ hx) (by exact hx.1) rfl rfl (Nat.le_of_ble_eq_true rfl) (by rw [hB.2.1]; first | exact Nat.le_of_ble_eq_true rfl | (dsimp only; omega)) (by rw [hB.2.1]; first | exact Nat.le_of_ble_eq_true rfl | (dsimp only; omega)) (by rw [hB.2.1]; first | exact Nat.le_of_ble_eq_true rfl | (dsimp only; omega)) (by rw [hB.2.1]; first | exact Nat.le_of_ble_eq_true rfl | (dsimp only; omega)) dL_law_496 (fun v h_496 n_496 p_496 => ?_)
  obtain ⟨rfl, rfl, rfl⟩ := p_496
  try dsimp only [Option.toList, List.cons_append, List.nil_append]
  refine o_aload_n hC dL_law_499 (by rfl) ?_
  refine o_aload_n hC dL_law_500 (by rfl) ?_
  refine o_iload hC dL_law_501 (by rfl) ?_
  refine o_iconst (v := nI 1) hC dL_law_503 (by decide +kernel) ?_
  refine o_iadd hC dL_law_504 ?_
  rw [show nI 0 + nI 1 = nI 1 from by decide +kernel]
  refine o_sld (k := 1) hC hB (by decide) (by decide) dL_law_505 ?_
  refine o_aload_n hC dL_law_506 (by rfl) ?_
  refine o_iload hC dL_law_507 (by rfl) ?_
  refine o_iconst (v := nI 2) hC dL_law_509 (by decide +kernel) ?_
  refine o_iadd hC dL_law_510 ?_
  rw [show nI 0 + nI 2 = nI 2 from by decide +kernel]
  refine o_sld (k := 2) hC hB (by decide) (by decide) dL_law_511 ?_
  refine o_callV2 hC rl_BW_good rl_Ns_nw (by exact hB.2.2.2.2.2) YX8_minus IX8_minus VX8_minus (mL_59 hC) (by rw [hB.1]; exact fr_X8_minus l D ids H0 _ _ m _ _ hm) (by exact hm.1) rfl rfl (Nat.le_of_ble_eq_true rfl) (by rw [hB.2.1]; first | exact Nat.le_of_ble_eq_true rfl | (dsimp only; omega)) (by rw [hB.2.1]; first | exact Nat.le_of_ble_eq_true rfl | (dsimp only; omega)) (by rw [hB.2.1]; first | exact Nat.le_of_ble_eq_true rfl | (dsimp only; omega)) (by rw [hB.2.1]; first | exact Nat.le_of_ble_eq_true rfl | (dsimp only; omega)) dL_law_512 (fun v h_512 n_512 p_512 => ?_)
  obtain ⟨rfl, rfl⟩ := p_512
  try dsimp only [Option.toList, List.cons_append, List.nil_append]
  refine o_icmp_eq (tgt := 1123) hC dL_law_515 (by decide) (fun c_515 => ?_) (fun c_515 => ?_)
  · exact lw_done l D ids H0 (by decide) hC hB (Nat.le_of_ble_eq_true rfl) (Nat.le_of_ble_eq_true rfl)
  · exact absurd rfl c_515

set_option maxHeartbeats 4000000 in
set_option maxRecDepth 100000 in
theorem lw_c8 (l : Launch) (hl : l.stackTraces = false) (D : va_G) (ids : Nat → ClassId) (H0 : Heap) {b x m ou : Nat} {xs : Nat → Int32} {X : rl_X} (hC : rl_C X (rl_e D ids H0) cL_law RL rl_BW rl_Ns) (hB : lw_B X (rl_e D ids H0) l b 6 xs) {h : rl_H} {n : Nat} (hmx : m = x + 70) (hx : rw_new ids h x) (hm : md_new ids h m) : rl_G X (rl_e D ids H0) 520 [some (.ref b), some (.ref x), some (.ref m), some (.ref ou), some (.int (nI 0)), none, none, none] [] h n 94 44572 := by
  refine o_aload_n hC dL_law_520 (by rfl) ?_
  refine o_aload_n hC dL_law_521 (by rfl) ?_
  refine o_iload hC dL_law_522 (by rfl) ?_
  refine o_iconst (v := nI 1) hC dL_law_524 (by decide +kernel) ?_
  refine o_iadd hC dL_law_525 ?_
  rw [show nI 0 + nI 1 = nI 1 from by decide +kernel]
  refine o_sld (k := 1) hC hB (by decide) (by decide) dL_law_526 ?_
  refine o_aload_n hC dL_law_527 (by rfl) ?_
  refine o_iload hC dL_law_528 (by rfl) ?_
  refine o_iconst (v := nI 2) hC dL_law_530 (by decide +kernel) ?_
  refine o_iadd hC dL_law_531 ?_
  rw [show nI 0 + nI 2 = nI 2 from by decide +kernel]
  refine o_sld (k := 2) hC hB (by decide) (by decide) dL_law_532 ?_
  refine o_aload_n hC dL_law_533 (by rfl) ?_
  refine o_iload hC dL_law_534 (by rfl) ?_
  refine o_iconst (v := nI 3) hC dL_law_536 (by decide +kernel) ?_
  refine o_iadd hC dL_law_537 ?_
  rw [show nI 0 + nI 3 = nI 3 from by decide +kernel]
  refine o_sld (k := 3) hC hB (by decide) (by decide) dL_law_538 ?_
  refine o_aload_n hC dL_law_539 (by rfl) ?_
  refine o_iload hC dL_law_540 (by rfl) ?_
  refine o_iconst (v := nI 4) hC dL_law_542 (by decide +kernel) ?_
  refine o_iadd hC dL_law_543 ?_
  rw [show nI 0 + nI 4 = nI 4 from by decide +kernel]
  refine o_sld (k := 4) hC hB (by decide) (by decide) dL_law_544 ?_
  refine o_callV4 hC rl_BW_good rl_Ns_nw (by exact hB.2.2.2.2.2) YX7_fold IX7_fold VX7_fold (mL_60 hC) (by rw [hB.1]; exact fr_X7_fold l D ids H0 _ _ x _ _ _ _ hx) (by exact hx.1) rfl rfl (Nat.le_of_ble_eq_true rfl) (by rw [hB.2.1]; first | exact Nat.le_of_ble_eq_true rfl | (dsimp only; omega)) (by rw [hB.2.1]; first | exact Nat.le_of_ble_eq_true rfl | (dsimp only; omega)) (by rw [hB.2.1]; first | exact Nat.le_of_ble_eq_true rfl | (dsimp only; omega)) (by rw [hB.2.1]; first | exact Nat.le_of_ble_eq_true rfl | (dsimp only; omega)) dL_law_545 (fun v h_545 n_545 p_545 => ?_)
  obtain ⟨rfl, rfl, rfl⟩ := p_545
  try dsimp only [Option.toList, List.cons_append, List.nil_append]
  refine o_aload_n hC dL_law_548 (by rfl) ?_
  refine o_aload_n hC dL_law_549 (by rfl) ?_
  refine o_iload hC dL_law_550 (by rfl) ?_
  refine o_iconst (v := nI 1) hC dL_law_552 (by decide +kernel) ?_
  refine o_iadd hC dL_law_553 ?_
  rw [show nI 0 + nI 1 = nI 1 from by decide +kernel]
  refine o_sld (k := 1) hC hB (by decide) (by decide) dL_law_554 ?_
  refine o_aload_n hC dL_law_555 (by rfl) ?_
  refine o_iload hC dL_law_556 (by rfl) ?_
  refine o_iconst (v := nI 2) hC dL_law_558 (by decide +kernel) ?_
  refine o_iadd hC dL_law_559 ?_
  rw [show nI 0 + nI 2 = nI 2 from by decide +kernel]
  refine o_sld (k := 2) hC hB (by decide) (by decide) dL_law_560 ?_
  refine o_aload_n hC dL_law_561 (by rfl) ?_
  refine o_iload hC dL_law_562 (by rfl) ?_
  refine o_iconst (v := nI 3) hC dL_law_564 (by decide +kernel) ?_
  refine o_iadd hC dL_law_565 ?_
  rw [show nI 0 + nI 3 = nI 3 from by decide +kernel]
  refine o_sld (k := 3) hC hB (by decide) (by decide) dL_law_566 ?_
  refine o_aload_n hC dL_law_567 (by rfl) ?_
  refine o_iload hC dL_law_568 (by rfl) ?_
  refine o_iconst (v := nI 4) hC dL_law_570 (by decide +kernel) ?_
  refine o_iadd hC dL_law_571 ?_
  rw [show nI 0 + nI 4 = nI 4 from by decide +kernel]
  refine o_sld (k := 4) hC hB (by decide) (by decide) dL_law_572 ?_
  refine o_callV4 hC rl_BW_good rl_Ns_nw (by exact hB.2.2.2.2.2) YX8_fold IX8_fold VX8_fold (mL_63 hC) (by rw [hB.1]; exact fr_X8_fold l D ids H0 _ _ m _ _ _ _ hm) (by exact hm.1) rfl rfl (Nat.le_of_ble_eq_true rfl) (by rw [hB.2.1]; first | exact Nat.le_of_ble_eq_true rfl | (dsimp only; omega)) (by rw [hB.2.1]; first | exact Nat.le_of_ble_eq_true rfl | (dsimp only; omega)) (by rw [hB.2.1]; first | exact Nat.le_of_ble_eq_true rfl | (dsimp only; omega)) (by rw [hB.2.1]; first | exact Nat.le_of_ble_eq_true rfl | (dsimp only; omega)) dL_law_573 (fun v h_573 n_573 p_573 => ?_)
  obtain ⟨rfl, rfl⟩ := p_573
  try dsimp only [Option.toList, List.cons_append, List.nil_append]
  refine o_icmp_eq (tgt := 1123) hC dL_law_576 (by decide) (fun c_576 => ?_) (fun c_576 => ?_)
  · exact lw_done l D ids H0 (by decide) hC hB (Nat.le_of_ble_eq_true rfl) (Nat.le_of_ble_eq_true rfl)
  · exact absurd rfl c_576

set_option maxHeartbeats 4000000 in
set_option maxRecDepth 100000 in
theorem lw_c9 (l : Launch) (hl : l.stackTraces = false) (D : va_G) (ids : Nat → ClassId) (H0 : Heap) {b x m ou : Nat} {xs : Nat → Int32} {X : rl_X} (hC : rl_C X (rl_e D ids H0) cL_law RL rl_BW rl_Ns) (hB : lw_B X (rl_e D ids H0) l b 6 xs) {h : rl_H} {n : Nat} (hmx : m = x + 70) (hx : rw_new ids h x) (hm : md_new ids h m) : rl_G X (rl_e D ids H0) 581 [some (.ref b), some (.ref x), some (.ref m), some (.ref ou), some (.int (nI 0)), none, none, none] [] h n 94 44572 := by
  refine o_aload_n hC dL_law_581 (by rfl) ?_
  refine o_aload_n hC dL_law_582 (by rfl) ?_
  refine o_iload hC dL_law_583 (by rfl) ?_
  refine o_iconst (v := nI 1) hC dL_law_585 (by decide +kernel) ?_
  refine o_iadd hC dL_law_586 ?_
  rw [show nI 0 + nI 1 = nI 1 from by decide +kernel]
  refine o_sld (k := 1) hC hB (by decide) (by decide) dL_law_587 ?_
  refine o_callV1 hC rl_BW_good rl_Ns_nw (by exact hB.2.2.2.2.2) YX7_columns IX7_columns VX7_columns (mL_64 hC) (by rw [hB.1]; exact fr_X7_columns l D ids H0 _ _ x _ hx) (by exact hx.1) rfl rfl (Nat.le_of_ble_eq_true rfl) (by rw [hB.2.1]; first | exact Nat.le_of_ble_eq_true rfl | (dsimp only; omega)) (by rw [hB.2.1]; first | exact Nat.le_of_ble_eq_true rfl | (dsimp only; omega)) (by rw [hB.2.1]; first | exact Nat.le_of_ble_eq_true rfl | (dsimp only; omega)) (by rw [hB.2.1]; first | exact Nat.le_of_ble_eq_true rfl | (dsimp only; omega)) dL_law_588 (fun v h_588 n_588 p_588 => ?_)
  obtain ⟨rfl, rfl, rfl⟩ := p_588
  try dsimp only [Option.toList, List.cons_append, List.nil_append]
  refine o_aload_n hC dL_law_591 (by rfl) ?_
  refine o_aload_n hC dL_law_592 (by rfl) ?_
  refine o_iload hC dL_law_593 (by rfl) ?_
  refine o_iconst (v := nI 1) hC dL_law_595 (by decide +kernel) ?_
  refine o_iadd hC dL_law_596 ?_
  rw [show nI 0 + nI 1 = nI 1 from by decide +kernel]
  refine o_sld (k := 1) hC hB (by decide) (by decide) dL_law_597 ?_
  refine o_callV1 hC rl_BW_good rl_Ns_nw (by exact hB.2.2.2.2.2) YX8_columns IX8_columns VX8_columns (mL_67 hC) (by rw [hB.1]; exact fr_X8_columns l D ids H0 _ _ m _ hm) (by exact hm.1) rfl rfl (Nat.le_of_ble_eq_true rfl) (by rw [hB.2.1]; first | exact Nat.le_of_ble_eq_true rfl | (dsimp only; omega)) (by rw [hB.2.1]; first | exact Nat.le_of_ble_eq_true rfl | (dsimp only; omega)) (by rw [hB.2.1]; first | exact Nat.le_of_ble_eq_true rfl | (dsimp only; omega)) (by rw [hB.2.1]; first | exact Nat.le_of_ble_eq_true rfl | (dsimp only; omega)) dL_law_598 (fun v h_598 n_598 p_598 => ?_)
  obtain ⟨rfl, rfl⟩ := p_598
  try dsimp only [Option.toList, List.cons_append, List.nil_append]
  refine o_icmp_eq (tgt := 1123) hC dL_law_601 (by decide) (fun c_601 => ?_) (fun c_601 => ?_)
  · exact lw_done l D ids H0 (by decide) hC hB (Nat.le_of_ble_eq_true rfl) (Nat.le_of_ble_eq_true rfl)
  · exact absurd rfl c_601

set_option maxHeartbeats 4000000 in
set_option maxRecDepth 100000 in
theorem lw_c10 (l : Launch) (hl : l.stackTraces = false) (D : va_G) (ids : Nat → ClassId) (H0 : Heap) {b x m ou : Nat} {xs : Nat → Int32} {X : rl_X} (hC : rl_C X (rl_e D ids H0) cL_law RL rl_BW rl_Ns) (hB : lw_B X (rl_e D ids H0) l b 6 xs) {h : rl_H} {n : Nat} (hmx : m = x + 70) (hx : rw_new ids h x) (hm : md_new ids h m) : rl_G X (rl_e D ids H0) 606 [some (.ref b), some (.ref x), some (.ref m), some (.ref ou), some (.int (nI 0)), none, none, none] [] h n 94 44572 := by
  refine o_aload_n hC dL_law_606 (by rfl) ?_
  refine o_aload_n hC dL_law_607 (by rfl) ?_
  refine o_iload hC dL_law_608 (by rfl) ?_
  refine o_iconst (v := nI 1) hC dL_law_610 (by decide +kernel) ?_
  refine o_iadd hC dL_law_611 ?_
  rw [show nI 0 + nI 1 = nI 1 from by decide +kernel]
  refine o_sld (k := 1) hC hB (by decide) (by decide) dL_law_612 ?_
  refine o_callV1 hC rl_BW_good rl_Ns_nw (by exact hB.2.2.2.2.2) YX7_run IX7_run VX7_run (mL_68 hC) (by rw [hB.1]; exact fr_X7_run l D ids H0 _ _ x _ hx) (by exact hx.1) rfl rfl (Nat.le_of_ble_eq_true rfl) (by rw [hB.2.1]; first | exact Nat.le_of_ble_eq_true rfl | (dsimp only; omega)) (by rw [hB.2.1]; first | exact Nat.le_of_ble_eq_true rfl | (dsimp only; omega)) (by rw [hB.2.1]; first | exact Nat.le_of_ble_eq_true rfl | (dsimp only; omega)) (by rw [hB.2.1]; first | exact Nat.le_of_ble_eq_true rfl | (dsimp only; omega)) dL_law_613 (fun v h_613 n_613 p_613 => ?_)
  obtain ⟨rfl, rfl, rfl⟩ := p_613
  try dsimp only [Option.toList, List.cons_append, List.nil_append]
  refine o_aload_n hC dL_law_616 (by rfl) ?_
  refine o_aload_n hC dL_law_617 (by rfl) ?_
  refine o_iload hC dL_law_618 (by rfl) ?_
  refine o_iconst (v := nI 1) hC dL_law_620 (by decide +kernel) ?_
  refine o_iadd hC dL_law_621 ?_
  rw [show nI 0 + nI 1 = nI 1 from by decide +kernel]
  refine o_sld (k := 1) hC hB (by decide) (by decide) dL_law_622 ?_
  refine o_callV1 hC rl_BW_good rl_Ns_nw (by exact hB.2.2.2.2.2) YX8_run IX8_run VX8_run (mL_71 hC) (by rw [hB.1]; exact fr_X8_run l D ids H0 _ _ m _ hm) (by exact hm.1) rfl rfl (Nat.le_of_ble_eq_true rfl) (by rw [hB.2.1]; first | exact Nat.le_of_ble_eq_true rfl | (dsimp only; omega)) (by rw [hB.2.1]; first | exact Nat.le_of_ble_eq_true rfl | (dsimp only; omega)) (by rw [hB.2.1]; first | exact Nat.le_of_ble_eq_true rfl | (dsimp only; omega)) (by rw [hB.2.1]; first | exact Nat.le_of_ble_eq_true rfl | (dsimp only; omega)) dL_law_623 (fun v h_623 n_623 p_623 => ?_)
  obtain ⟨rfl, rfl⟩ := p_623
  try dsimp only [Option.toList, List.cons_append, List.nil_append]
  refine o_icmp_eq (tgt := 1123) hC dL_law_626 (by decide) (fun c_626 => ?_) (fun c_626 => ?_)
  · exact lw_done l D ids H0 (by decide) hC hB (Nat.le_of_ble_eq_true rfl) (Nat.le_of_ble_eq_true rfl)
  · exact absurd rfl c_626

set_option maxHeartbeats 4000000 in
set_option maxRecDepth 100000 in
theorem lw_c11 (l : Launch) (hl : l.stackTraces = false) (D : va_G) (ids : Nat → ClassId) (H0 : Heap) {b x m ou : Nat} {xs : Nat → Int32} {X : rl_X} (hC : rl_C X (rl_e D ids H0) cL_law RL rl_BW rl_Ns) (hB : lw_B X (rl_e D ids H0) l b 6 xs) {h : rl_H} {n : Nat} (hmx : m = x + 70) (hx : rw_new ids h x) (hm : md_new ids h m) : rl_G X (rl_e D ids H0) 631 [some (.ref b), some (.ref x), some (.ref m), some (.ref ou), some (.int (nI 0)), none, none, none] [] h n 94 44572 := by
  refine o_aload_n hC dL_law_631 (by rfl) ?_
  refine o_aload_n hC dL_law_632 (by rfl) ?_
  refine o_iload hC dL_law_633 (by rfl) ?_
  refine o_iconst (v := nI 1) hC dL_law_635 (by decide +kernel) ?_
  refine o_iadd hC dL_law_636 ?_
  rw [show nI 0 + nI 1 = nI 1 from by decide +kernel]
  refine o_sld (k := 1) hC hB (by decide) (by decide) dL_law_637 ?_
  refine o_aload_n hC dL_law_638 (by rfl) ?_
  refine o_iload hC dL_law_639 (by rfl) ?_
  refine o_iconst (v := nI 2) hC dL_law_641 (by decide +kernel) ?_
  refine o_iadd hC dL_law_642 ?_
  rw [show nI 0 + nI 2 = nI 2 from by decide +kernel]
  refine o_sld (k := 2) hC hB (by decide) (by decide) dL_law_643 ?_
  refine o_aload_n hC dL_law_644 (by rfl) ?_
  refine o_callSW (As := [.ref x, .int (xs 1), .int (xs 2), .ref ou]) (rest := []) hC rl_BW_good rl_Ns_nw hB.2.2.2.1 (by exact hB.2.2.2.2.2) wL_cell zL sL_cell lL_cell ⟨by decide +kernel, by decide +kernel, (by decide +kernel : (parseMethodDescriptor yL_cell.desc).map (fun d => d.parameters.length) = some 4)⟩ (by rw [hB.1]; exact fr_L_cell l D ids H0 _ _ x ou _ _ hl hx) (Nat.le_of_ble_eq_true rfl) (by rw [hB.2.1]; first | exact Nat.le_of_ble_eq_true rfl | (dsimp only; omega)) (by rw [hB.2.1]; first | exact Nat.le_of_ble_eq_true rfl | (dsimp only; omega)) (by rw [hB.2.1]; first | exact Nat.le_of_ble_eq_true rfl | (dsimp only; omega)) (by rw [hB.2.1]; first | exact Nat.le_of_ble_eq_true rfl | (dsimp only; omega)) dL_law_645 (fun v h_645 n_645 p_645 => ?_)
  obtain ⟨rfl, rfl, hn1⟩ := p_645
  try dsimp only [Option.toList, List.cons_append, List.nil_append]
  refine o_istore hC dL_law_648 (Nat.le_of_ble_eq_true rfl) ?_
  refine o_aload_n hC dL_law_650 (by rfl) ?_
  refine o_aload_n hC dL_law_651 (by rfl) ?_
  refine o_iload hC dL_law_652 (by rfl) ?_
  refine o_iconst (v := nI 1) hC dL_law_654 (by decide +kernel) ?_
  refine o_iadd hC dL_law_655 ?_
  rw [show nI 0 + nI 1 = nI 1 from by decide +kernel]
  refine o_sld (k := 1) hC hB (by decide) (by decide) dL_law_656 ?_
  refine o_aload_n hC dL_law_657 (by rfl) ?_
  refine o_iload hC dL_law_658 (by rfl) ?_
  refine o_iconst (v := nI 2) hC dL_law_660 (by decide +kernel) ?_
  refine o_iadd hC dL_law_661 ?_
  rw [show nI 0 + nI 2 = nI 2 from by decide +kernel]
  refine o_sld (k := 2) hC hB (by decide) (by decide) dL_law_662 ?_
  refine o_callV2 hC rl_BW_good rl_Ns_nw (by exact hB.2.2.2.2.2) YX8_cell IX8_cell VX8_cell (mL_77 hC) (by rw [hB.1]; exact fr_X8_cell l D ids H0 _ _ m _ _ hm) (by exact hm.1) rfl rfl (Nat.le_of_ble_eq_true rfl) (by rw [hB.2.1]; first | exact Nat.le_of_ble_eq_true rfl | (dsimp only; omega)) (by rw [hB.2.1]; first | exact Nat.le_of_ble_eq_true rfl | (dsimp only; omega)) (by rw [hB.2.1]; first | exact Nat.le_of_ble_eq_true rfl | (dsimp only; omega)) (by rw [hB.2.1]; first | exact Nat.le_of_ble_eq_true rfl | (dsimp only; omega)) dL_law_663 (fun v h_663 n_663 p_663 => ?_)
  obtain ⟨rfl, rfl, e1⟩ := p_663
  try dsimp only [Option.toList, List.cons_append, List.nil_append]
  refine o_istore hC dL_law_666 (Nat.le_of_ble_eq_true rfl) ?_
  refine o_aload_n hC dL_law_668 (by rfl) ?_
  refine o_callV0 hC rl_BW_good rl_Ns_nw (by exact hB.2.2.2.2.2) YX8_thrown IX8_thrown VX8_thrown (mL_78 hC) (by rw [hB.1]; exact ct_X8_thrown l D ids H0 _ _ m _ _ e1 rfl) (by exact e1) rfl rfl (Nat.le_of_ble_eq_true rfl) (by rw [hB.2.1]; first | exact Nat.le_of_ble_eq_true rfl | (dsimp only; omega)) (by rw [hB.2.1]; first | exact Nat.le_of_ble_eq_true rfl | (dsimp only; omega)) (by rw [hB.2.1]; first | exact Nat.le_of_ble_eq_true rfl | (dsimp only; omega)) (by rw [hB.2.1]; first | exact Nat.le_of_ble_eq_true rfl | (dsimp only; omega)) dL_law_669 (fun v h_669 n_669 p_669 => ?_)
  obtain ⟨rfl, rfl, rfl⟩ := p_669
  try dsimp only [Option.toList, List.cons_append, List.nil_append]
  refine o_iload hC dL_law_672 (by rfl) ?_
  refine o_icmp_eq (tgt := 679) hC dL_law_674 (by decide) (fun c_674 => ?_) (fun c_674 => ?_)
  · refine o_iload hC dL_law_679 (by rfl) ?_
    refine o_if_ne (tgt := 696) hC dL_law_681 (by decide) (fun c_681 => ?_) (fun c_681 => ?_)
    · refine o_goto (tgt := 1123) hC dL_law_696 (by decide) ?_
      exact lw_done l D ids H0 (by decide) hC hB (Nat.le_of_ble_eq_true rfl) (Nat.le_of_ble_eq_true rfl)
    · exact absurd c_681 (by decide +kernel)
  · exact absurd rfl c_674

set_option maxHeartbeats 4000000 in
set_option maxRecDepth 100000 in
theorem lw_c12 (l : Launch) (hl : l.stackTraces = false) (D : va_G) (ids : Nat → ClassId) (H0 : Heap) {b x m ou : Nat} {xs : Nat → Int32} {X : rl_X} (hC : rl_C X (rl_e D ids H0) cL_law RL rl_BW rl_Ns) (hB : lw_B X (rl_e D ids H0) l b 6 xs) {h : rl_H} {n : Nat} (hmx : m = x + 70) (hx : rw_new ids h x) (hm : md_new ids h m) : rl_G X (rl_e D ids H0) 699 [some (.ref b), some (.ref x), some (.ref m), some (.ref ou), some (.int (nI 0)), none, none, none] [] h n 94 44572 := by
  refine o_aload_n hC dL_law_699 (by rfl) ?_
  refine o_aload_n hC dL_law_700 (by rfl) ?_
  refine o_iload hC dL_law_701 (by rfl) ?_
  refine o_iconst (v := nI 1) hC dL_law_703 (by decide +kernel) ?_
  refine o_iadd hC dL_law_704 ?_
  rw [show nI 0 + nI 1 = nI 1 from by decide +kernel]
  refine o_sld (k := 1) hC hB (by decide) (by decide) dL_law_705 ?_
  refine o_callV1 hC rl_BW_good rl_Ns_nw (by exact hB.2.2.2.2.2) YX7_ways IX7_ways VX7_ways (mL_82 hC) (by rw [hB.1]; exact fr_X7_ways l D ids H0 _ _ x _ hx) (by exact hx.1) rfl rfl (Nat.le_of_ble_eq_true rfl) (by rw [hB.2.1]; first | exact Nat.le_of_ble_eq_true rfl | (dsimp only; omega)) (by rw [hB.2.1]; first | exact Nat.le_of_ble_eq_true rfl | (dsimp only; omega)) (by rw [hB.2.1]; first | exact Nat.le_of_ble_eq_true rfl | (dsimp only; omega)) (by rw [hB.2.1]; first | exact Nat.le_of_ble_eq_true rfl | (dsimp only; omega)) dL_law_706 (fun v h_706 n_706 p_706 => ?_)
  obtain ⟨rfl, rfl, rfl⟩ := p_706
  try dsimp only [Option.toList, List.cons_append, List.nil_append]
  refine o_aload_n hC dL_law_709 (by rfl) ?_
  refine o_aload_n hC dL_law_710 (by rfl) ?_
  refine o_iload hC dL_law_711 (by rfl) ?_
  refine o_iconst (v := nI 1) hC dL_law_713 (by decide +kernel) ?_
  refine o_iadd hC dL_law_714 ?_
  rw [show nI 0 + nI 1 = nI 1 from by decide +kernel]
  refine o_sld (k := 1) hC hB (by decide) (by decide) dL_law_715 ?_
  refine o_callV1 hC rl_BW_good rl_Ns_nw (by exact hB.2.2.2.2.2) YX8_ways IX8_ways VX8_ways (mL_85 hC) (by rw [hB.1]; exact fr_X8_ways l D ids H0 _ _ m _ hm) (by exact hm.1) rfl rfl (Nat.le_of_ble_eq_true rfl) (by rw [hB.2.1]; first | exact Nat.le_of_ble_eq_true rfl | (dsimp only; omega)) (by rw [hB.2.1]; first | exact Nat.le_of_ble_eq_true rfl | (dsimp only; omega)) (by rw [hB.2.1]; first | exact Nat.le_of_ble_eq_true rfl | (dsimp only; omega)) (by rw [hB.2.1]; first | exact Nat.le_of_ble_eq_true rfl | (dsimp only; omega)) dL_law_716 (fun v h_716 n_716 p_716 => ?_)
  obtain ⟨rfl, rfl⟩ := p_716
  try dsimp only [Option.toList, List.cons_append, List.nil_append]
  refine o_icmp_eq (tgt := 1123) hC dL_law_719 (by decide) (fun c_719 => ?_) (fun c_719 => ?_)
  · exact lw_done l D ids H0 (by decide) hC hB (Nat.le_of_ble_eq_true rfl) (Nat.le_of_ble_eq_true rfl)
  · exact absurd rfl c_719

set_option maxHeartbeats 4000000 in
set_option maxRecDepth 100000 in
theorem lw_c13 (l : Launch) (hl : l.stackTraces = false) (D : va_G) (ids : Nat → ClassId) (H0 : Heap) {b x m ou : Nat} {xs : Nat → Int32} {X : rl_X} (hC : rl_C X (rl_e D ids H0) cL_law RL rl_BW rl_Ns) (hB : lw_B X (rl_e D ids H0) l b 6 xs) {h : rl_H} {n : Nat} (hmx : m = x + 70) (hx : rw_new ids h x) (hm : md_new ids h m) : rl_G X (rl_e D ids H0) 724 [some (.ref b), some (.ref x), some (.ref m), some (.ref ou), some (.int (nI 0)), none, none, none] [] h n 94 44572 := by
  refine o_aload_n hC dL_law_724 (by rfl) ?_
  refine o_aload_n hC dL_law_725 (by rfl) ?_
  refine o_iload hC dL_law_726 (by rfl) ?_
  refine o_iconst (v := nI 1) hC dL_law_728 (by decide +kernel) ?_
  refine o_iadd hC dL_law_729 ?_
  rw [show nI 0 + nI 1 = nI 1 from by decide +kernel]
  refine o_sld (k := 1) hC hB (by decide) (by decide) dL_law_730 ?_
  refine o_aload_n hC dL_law_731 (by rfl) ?_
  refine o_iload hC dL_law_732 (by rfl) ?_
  refine o_iconst (v := nI 2) hC dL_law_734 (by decide +kernel) ?_
  refine o_iadd hC dL_law_735 ?_
  rw [show nI 0 + nI 2 = nI 2 from by decide +kernel]
  refine o_sld (k := 2) hC hB (by decide) (by decide) dL_law_736 ?_
  refine o_aload_n hC dL_law_737 (by rfl) ?_
  refine o_iload hC dL_law_738 (by rfl) ?_
  refine o_iconst (v := nI 3) hC dL_law_740 (by decide +kernel) ?_
  refine o_iadd hC dL_law_741 ?_
  rw [show nI 0 + nI 3 = nI 3 from by decide +kernel]
  refine o_sld (k := 3) hC hB (by decide) (by decide) dL_law_742 ?_
  refine o_aload_n hC dL_law_743 (by rfl) ?_
  refine o_callSW (As := [.ref x, .int (xs 1), .int (xs 2), .int (xs 3), .ref ou]) (rest := []) hC rl_BW_good rl_Ns_nw hB.2.2.2.1 (by exact hB.2.2.2.2.2) wL_way zL sL_way lL_way ⟨by decide +kernel, by decide +kernel, (by decide +kernel : (parseMethodDescriptor yL_way.desc).map (fun d => d.parameters.length) = some 5)⟩ (by rw [hB.1]; exact fr_L_way l D ids H0 _ _ x ou _ _ _ hl hx) (Nat.le_of_ble_eq_true rfl) (by rw [hB.2.1]; first | exact Nat.le_of_ble_eq_true rfl | (dsimp only; omega)) (by rw [hB.2.1]; first | exact Nat.le_of_ble_eq_true rfl | (dsimp only; omega)) (by rw [hB.2.1]; first | exact Nat.le_of_ble_eq_true rfl | (dsimp only; omega)) (by rw [hB.2.1]; first | exact Nat.le_of_ble_eq_true rfl | (dsimp only; omega)) dL_law_744 (fun v h_744 n_744 p_744 => ?_)
  obtain ⟨rfl, rfl, hn1⟩ := p_744
  try dsimp only [Option.toList, List.cons_append, List.nil_append]
  refine o_istore hC dL_law_747 (Nat.le_of_ble_eq_true rfl) ?_
  refine o_aload_n hC dL_law_749 (by rfl) ?_
  refine o_aload_n hC dL_law_750 (by rfl) ?_
  refine o_iload hC dL_law_751 (by rfl) ?_
  refine o_iconst (v := nI 1) hC dL_law_753 (by decide +kernel) ?_
  refine o_iadd hC dL_law_754 ?_
  rw [show nI 0 + nI 1 = nI 1 from by decide +kernel]
  refine o_sld (k := 1) hC hB (by decide) (by decide) dL_law_755 ?_
  refine o_aload_n hC dL_law_756 (by rfl) ?_
  refine o_iload hC dL_law_757 (by rfl) ?_
  refine o_iconst (v := nI 2) hC dL_law_759 (by decide +kernel) ?_
  refine o_iadd hC dL_law_760 ?_
  rw [show nI 0 + nI 2 = nI 2 from by decide +kernel]
  refine o_sld (k := 2) hC hB (by decide) (by decide) dL_law_761 ?_
  refine o_aload_n hC dL_law_762 (by rfl) ?_
  refine o_iload hC dL_law_763 (by rfl) ?_
  refine o_iconst (v := nI 3) hC dL_law_765 (by decide +kernel) ?_
  refine o_iadd hC dL_law_766 ?_
  rw [show nI 0 + nI 3 = nI 3 from by decide +kernel]
  refine o_sld (k := 3) hC hB (by decide) (by decide) dL_law_767 ?_
  refine o_callV3 hC rl_BW_good rl_Ns_nw (by exact hB.2.2.2.2.2) YX8_way IX8_way VX8_way (mL_89 hC) (by rw [hB.1]; exact fr_X8_way l D ids H0 _ _ m _ _ _ hm) (by exact hm.1) rfl rfl (Nat.le_of_ble_eq_true rfl) (by rw [hB.2.1]; first | exact Nat.le_of_ble_eq_true rfl | (dsimp only; omega)) (by rw [hB.2.1]; first | exact Nat.le_of_ble_eq_true rfl | (dsimp only; omega)) (by rw [hB.2.1]; first | exact Nat.le_of_ble_eq_true rfl | (dsimp only; omega)) (by rw [hB.2.1]; first | exact Nat.le_of_ble_eq_true rfl | (dsimp only; omega)) dL_law_768 (fun v h_768 n_768 p_768 => ?_)
  obtain ⟨rfl, rfl, e1⟩ := p_768
  try dsimp only [Option.toList, List.cons_append, List.nil_append]
  refine o_lstore hC dL_law_771 (Nat.le_of_ble_eq_true rfl) ?_
  refine o_aload_n hC dL_law_773 (by rfl) ?_
  refine o_callV0 hC rl_BW_good rl_Ns_nw (by exact hB.2.2.2.2.2) YX8_thrown IX8_thrown VX8_thrown (mL_78 hC) (by rw [hB.1]; exact ct_X8_thrown l D ids H0 _ _ m _ _ e1 rfl) (by exact e1) rfl rfl (Nat.le_of_ble_eq_true rfl) (by rw [hB.2.1]; first | exact Nat.le_of_ble_eq_true rfl | (dsimp only; omega)) (by rw [hB.2.1]; first | exact Nat.le_of_ble_eq_true rfl | (dsimp only; omega)) (by rw [hB.2.1]; first | exact Nat.le_of_ble_eq_true rfl | (dsimp only; omega)) (by rw [hB.2.1]; first | exact Nat.le_of_ble_eq_true rfl | (dsimp only; omega)) dL_law_774 (fun v h_774 n_774 p_774 => ?_)
  obtain ⟨rfl, rfl, rfl⟩ := p_774
  try dsimp only [Option.toList, List.cons_append, List.nil_append]
  refine o_iload hC dL_law_777 (by rfl) ?_
  refine o_icmp_eq (tgt := 784) hC dL_law_779 (by decide) (fun c_779 => ?_) (fun c_779 => ?_)
  · refine o_iload hC dL_law_784 (by rfl) ?_
    refine o_if_ne (tgt := 800) hC dL_law_786 (by decide) (fun c_786 => ?_) (fun c_786 => ?_)
    · refine o_goto (tgt := 1123) hC dL_law_800 (by decide) ?_
      exact lw_done l D ids H0 (by decide) hC hB (Nat.le_of_ble_eq_true rfl) (Nat.le_of_ble_eq_true rfl)
    · exact absurd c_786 (by decide +kernel)
  · exact absurd rfl c_779

set_option maxHeartbeats 4000000 in
set_option maxRecDepth 100000 in
theorem lw_c14 (l : Launch) (hl : l.stackTraces = false) (D : va_G) (ids : Nat → ClassId) (H0 : Heap) {b x m ou : Nat} {xs : Nat → Int32} {X : rl_X} (hC : rl_C X (rl_e D ids H0) cL_law RL rl_BW rl_Ns) (hB : lw_B X (rl_e D ids H0) l b 6 xs) {h : rl_H} {n : Nat} (hmx : m = x + 70) (hx : rw_new ids h x) (hm : md_new ids h m) : rl_G X (rl_e D ids H0) 803 [some (.ref b), some (.ref x), some (.ref m), some (.ref ou), some (.int (nI 0)), none, none, none] [] h n 94 44572 := by
  refine o_aload_n hC dL_law_803 (by rfl) ?_
  refine o_aload_n hC dL_law_804 (by rfl) ?_
  refine o_iload hC dL_law_805 (by rfl) ?_
  refine o_iconst (v := nI 1) hC dL_law_807 (by decide +kernel) ?_
  refine o_iadd hC dL_law_808 ?_
  rw [show nI 0 + nI 1 = nI 1 from by decide +kernel]
  refine o_sld (k := 1) hC hB (by decide) (by decide) dL_law_809 ?_
  refine o_aload_n hC dL_law_810 (by rfl) ?_
  refine o_iload hC dL_law_811 (by rfl) ?_
  refine o_iconst (v := nI 2) hC dL_law_813 (by decide +kernel) ?_
  refine o_iadd hC dL_law_814 ?_
  rw [show nI 0 + nI 2 = nI 2 from by decide +kernel]
  refine o_sld (k := 2) hC hB (by decide) (by decide) dL_law_815 ?_
  refine o_if_eq (tgt := 823) hC dL_law_816 (by decide) (fun c_816 => ?_) (fun c_816 => ?_)
  · refine o_iconst (v := nI 0) hC dL_law_823 (by decide +kernel) ?_
    refine o_callV2 hC rl_BW_good rl_Ns_nw (by exact hB.2.2.2.2.2) YX7_drop IX7_drop VX7_drop (mL_90 hC) (by rw [hB.1]; exact fr_X7_drop l D ids H0 _ _ x _ _ hx) (by exact hx.1) rfl rfl (Nat.le_of_ble_eq_true rfl) (by rw [hB.2.1]; first | exact Nat.le_of_ble_eq_true rfl | (dsimp only; omega)) (by rw [hB.2.1]; first | exact Nat.le_of_ble_eq_true rfl | (dsimp only; omega)) (by rw [hB.2.1]; first | exact Nat.le_of_ble_eq_true rfl | (dsimp only; omega)) (by rw [hB.2.1]; first | exact Nat.le_of_ble_eq_true rfl | (dsimp only; omega)) dL_law_824 (fun v h_824 n_824 p_824 => ?_)
    obtain ⟨rfl, rfl, rfl⟩ := p_824
    try dsimp only [Option.toList, List.cons_append, List.nil_append]
    refine o_aload_n hC dL_law_827 (by rfl) ?_
    refine o_aload_n hC dL_law_828 (by rfl) ?_
    refine o_iload hC dL_law_829 (by rfl) ?_
    refine o_iconst (v := nI 1) hC dL_law_831 (by decide +kernel) ?_
    refine o_iadd hC dL_law_832 ?_
    rw [show nI 0 + nI 1 = nI 1 from by decide +kernel]
    refine o_sld (k := 1) hC hB (by decide) (by decide) dL_law_833 ?_
    refine o_aload_n hC dL_law_834 (by rfl) ?_
    refine o_iload hC dL_law_835 (by rfl) ?_
    refine o_iconst (v := nI 2) hC dL_law_837 (by decide +kernel) ?_
    refine o_iadd hC dL_law_838 ?_
    rw [show nI 0 + nI 2 = nI 2 from by decide +kernel]
    refine o_sld (k := 2) hC hB (by decide) (by decide) dL_law_839 ?_
    refine o_if_eq (tgt := 847) hC dL_law_840 (by decide) (fun c_840 => ?_) (fun c_840 => ?_)
    · refine o_iconst (v := nI 0) hC dL_law_847 (by decide +kernel) ?_
      refine o_callV2 hC rl_BW_good rl_Ns_nw (by exact hB.2.2.2.2.2) YX8_drop IX8_drop VX8_drop (mL_94 hC) (by rw [hB.1]; exact fr_X8_drop l D ids H0 _ _ m _ _ hm) (by exact hm.1) rfl rfl (Nat.le_of_ble_eq_true rfl) (by rw [hB.2.1]; first | exact Nat.le_of_ble_eq_true rfl | (dsimp only; omega)) (by rw [hB.2.1]; first | exact Nat.le_of_ble_eq_true rfl | (dsimp only; omega)) (by rw [hB.2.1]; first | exact Nat.le_of_ble_eq_true rfl | (dsimp only; omega)) (by rw [hB.2.1]; first | exact Nat.le_of_ble_eq_true rfl | (dsimp only; omega)) dL_law_848 (fun v h_848 n_848 p_848 => ?_)
      obtain ⟨rfl, rfl⟩ := p_848
      try dsimp only [Option.toList, List.cons_append, List.nil_append]
      refine o_icmp_eq (tgt := 1123) hC dL_law_851 (by decide) (fun c_851 => ?_) (fun c_851 => ?_)
      · exact lw_done l D ids H0 (by decide) hC hB (Nat.le_of_ble_eq_true rfl) (Nat.le_of_ble_eq_true rfl)
      · exact absurd rfl c_851
    · refine o_iconst (v := nI 1) hC dL_law_843 (by decide +kernel) ?_
      refine o_goto (tgt := 848) hC dL_law_844 (by decide) ?_
      refine o_callV2 hC rl_BW_good rl_Ns_nw (by exact hB.2.2.2.2.2) YX8_drop IX8_drop VX8_drop (mL_94 hC) (by rw [hB.1]; exact fr_X8_drop l D ids H0 _ _ m _ _ hm) (by exact hm.1) rfl rfl (Nat.le_of_ble_eq_true rfl) (by rw [hB.2.1]; first | exact Nat.le_of_ble_eq_true rfl | (dsimp only; omega)) (by rw [hB.2.1]; first | exact Nat.le_of_ble_eq_true rfl | (dsimp only; omega)) (by rw [hB.2.1]; first | exact Nat.le_of_ble_eq_true rfl | (dsimp only; omega)) (by rw [hB.2.1]; first | exact Nat.le_of_ble_eq_true rfl | (dsimp only; omega)) dL_law_848 (fun v h_848 n_848 p_848 => ?_)
      obtain ⟨rfl, rfl⟩ := p_848
      try dsimp only [Option.toList, List.cons_append, List.nil_append]
      refine o_icmp_eq (tgt := 1123) hC dL_law_851 (by decide) (fun c_851 => ?_) (fun c_851 => ?_)
      · exact lw_done l D ids H0 (by decide) hC hB (Nat.le_of_ble_eq_true rfl) (Nat.le_of_ble_eq_true rfl)
      · exact absurd rfl c_851
  · refine o_iconst (v := nI 1) hC dL_law_819 (by decide +kernel) ?_
    refine o_goto (tgt := 824) hC dL_law_820 (by decide) ?_
    refine o_callV2 hC rl_BW_good rl_Ns_nw (by exact hB.2.2.2.2.2) YX7_drop IX7_drop VX7_drop (mL_90 hC) (by rw [hB.1]; exact fr_X7_drop l D ids H0 _ _ x _ _ hx) (by exact hx.1) rfl rfl (Nat.le_of_ble_eq_true rfl) (by rw [hB.2.1]; first | exact Nat.le_of_ble_eq_true rfl | (dsimp only; omega)) (by rw [hB.2.1]; first | exact Nat.le_of_ble_eq_true rfl | (dsimp only; omega)) (by rw [hB.2.1]; first | exact Nat.le_of_ble_eq_true rfl | (dsimp only; omega)) (by rw [hB.2.1]; first | exact Nat.le_of_ble_eq_true rfl | (dsimp only; omega)) dL_law_824 (fun v h_824 n_824 p_824 => ?_)
    obtain ⟨rfl, rfl, rfl⟩ := p_824
    try dsimp only [Option.toList, List.cons_append, List.nil_append]
    refine o_aload_n hC dL_law_827 (by rfl) ?_
    refine o_aload_n hC dL_law_828 (by rfl) ?_
    refine o_iload hC dL_law_829 (by rfl) ?_
    refine o_iconst (v := nI 1) hC dL_law_831 (by decide +kernel) ?_
    refine o_iadd hC dL_law_832 ?_
    rw [show nI 0 + nI 1 = nI 1 from by decide +kernel]
    refine o_sld (k := 1) hC hB (by decide) (by decide) dL_law_833 ?_
    refine o_aload_n hC dL_law_834 (by rfl) ?_
    refine o_iload hC dL_law_835 (by rfl) ?_
    refine o_iconst (v := nI 2) hC dL_law_837 (by decide +kernel) ?_
    refine o_iadd hC dL_law_838 ?_
    rw [show nI 0 + nI 2 = nI 2 from by decide +kernel]
    refine o_sld (k := 2) hC hB (by decide) (by decide) dL_law_839 ?_
    refine o_if_eq (tgt := 847) hC dL_law_840 (by decide) (fun c_840 => ?_) (fun c_840 => ?_)
    · refine o_iconst (v := nI 0) hC dL_law_847 (by decide +kernel) ?_
      refine o_callV2 hC rl_BW_good rl_Ns_nw (by exact hB.2.2.2.2.2) YX8_drop IX8_drop VX8_drop (mL_94 hC) (by rw [hB.1]; exact fr_X8_drop l D ids H0 _ _ m _ _ hm) (by exact hm.1) rfl rfl (Nat.le_of_ble_eq_true rfl) (by rw [hB.2.1]; first | exact Nat.le_of_ble_eq_true rfl | (dsimp only; omega)) (by rw [hB.2.1]; first | exact Nat.le_of_ble_eq_true rfl | (dsimp only; omega)) (by rw [hB.2.1]; first | exact Nat.le_of_ble_eq_true rfl | (dsimp only; omega)) (by rw [hB.2.1]; first | exact Nat.le_of_ble_eq_true rfl | (dsimp only; omega)) dL_law_848 (fun v h_848 n_848 p_848 => ?_)
      obtain ⟨rfl, rfl⟩ := p_848
      try dsimp only [Option.toList, List.cons_append, List.nil_append]
      refine o_icmp_eq (tgt := 1123) hC dL_law_851 (by decide) (fun c_851 => ?_) (fun c_851 => ?_)
      · exact lw_done l D ids H0 (by decide) hC hB (Nat.le_of_ble_eq_true rfl) (Nat.le_of_ble_eq_true rfl)
      · exact absurd rfl c_851
    · refine o_iconst (v := nI 1) hC dL_law_843 (by decide +kernel) ?_
      refine o_goto (tgt := 848) hC dL_law_844 (by decide) ?_
      refine o_callV2 hC rl_BW_good rl_Ns_nw (by exact hB.2.2.2.2.2) YX8_drop IX8_drop VX8_drop (mL_94 hC) (by rw [hB.1]; exact fr_X8_drop l D ids H0 _ _ m _ _ hm) (by exact hm.1) rfl rfl (Nat.le_of_ble_eq_true rfl) (by rw [hB.2.1]; first | exact Nat.le_of_ble_eq_true rfl | (dsimp only; omega)) (by rw [hB.2.1]; first | exact Nat.le_of_ble_eq_true rfl | (dsimp only; omega)) (by rw [hB.2.1]; first | exact Nat.le_of_ble_eq_true rfl | (dsimp only; omega)) (by rw [hB.2.1]; first | exact Nat.le_of_ble_eq_true rfl | (dsimp only; omega)) dL_law_848 (fun v h_848 n_848 p_848 => ?_)
      obtain ⟨rfl, rfl⟩ := p_848
      try dsimp only [Option.toList, List.cons_append, List.nil_append]
      refine o_icmp_eq (tgt := 1123) hC dL_law_851 (by decide) (fun c_851 => ?_) (fun c_851 => ?_)
      · exact lw_done l D ids H0 (by decide) hC hB (Nat.le_of_ble_eq_true rfl) (Nat.le_of_ble_eq_true rfl)
      · exact absurd rfl c_851

set_option maxHeartbeats 4000000 in
set_option maxRecDepth 100000 in
theorem lw_c15 (l : Launch) (hl : l.stackTraces = false) (D : va_G) (ids : Nat → ClassId) (H0 : Heap) {b x m ou : Nat} {xs : Nat → Int32} {X : rl_X} (hC : rl_C X (rl_e D ids H0) cL_law RL rl_BW rl_Ns) (hB : lw_B X (rl_e D ids H0) l b 6 xs) {h : rl_H} {n : Nat} (hmx : m = x + 70) (hx : rw_new ids h x) (hm : md_new ids h m) : rl_G X (rl_e D ids H0) 856 [some (.ref b), some (.ref x), some (.ref m), some (.ref ou), some (.int (nI 0)), none, none, none] [] h n 94 44572 := by
  refine o_aload_n hC dL_law_856 (by rfl) ?_
  refine o_aload_n hC dL_law_857 (by rfl) ?_
  refine o_iload hC dL_law_858 (by rfl) ?_
  refine o_iconst (v := nI 1) hC dL_law_860 (by decide +kernel) ?_
  refine o_iadd hC dL_law_861 ?_
  rw [show nI 0 + nI 1 = nI 1 from by decide +kernel]
  refine o_sld (k := 1) hC hB (by decide) (by decide) dL_law_862 ?_
  refine o_callV1 hC rl_BW_good rl_Ns_nw (by exact hB.2.2.2.2.2) YX7_holds IX7_holds VX7_holds (mL_95 hC) (by rw [hB.1]; exact fr_X7_holds l D ids H0 _ _ x _ hx) (by exact hx.1) rfl rfl (Nat.le_of_ble_eq_true rfl) (by rw [hB.2.1]; first | exact Nat.le_of_ble_eq_true rfl | (dsimp only; omega)) (by rw [hB.2.1]; first | exact Nat.le_of_ble_eq_true rfl | (dsimp only; omega)) (by rw [hB.2.1]; first | exact Nat.le_of_ble_eq_true rfl | (dsimp only; omega)) (by rw [hB.2.1]; first | exact Nat.le_of_ble_eq_true rfl | (dsimp only; omega)) dL_law_863 (fun v h_863 n_863 p_863 => ?_)
  obtain ⟨rfl, rfl, rfl⟩ := p_863
  try dsimp only [Option.toList, List.cons_append, List.nil_append]
  refine o_aload_n hC dL_law_866 (by rfl) ?_
  refine o_aload_n hC dL_law_867 (by rfl) ?_
  refine o_iload hC dL_law_868 (by rfl) ?_
  refine o_iconst (v := nI 1) hC dL_law_870 (by decide +kernel) ?_
  refine o_iadd hC dL_law_871 ?_
  rw [show nI 0 + nI 1 = nI 1 from by decide +kernel]
  refine o_sld (k := 1) hC hB (by decide) (by decide) dL_law_872 ?_
  refine o_callV1 hC rl_BW_good rl_Ns_nw (by exact hB.2.2.2.2.2) YX8_holds IX8_holds VX8_holds (mL_98 hC) (by rw [hB.1]; exact fr_X8_holds l D ids H0 _ _ m _ hm) (by exact hm.1) rfl rfl (Nat.le_of_ble_eq_true rfl) (by rw [hB.2.1]; first | exact Nat.le_of_ble_eq_true rfl | (dsimp only; omega)) (by rw [hB.2.1]; first | exact Nat.le_of_ble_eq_true rfl | (dsimp only; omega)) (by rw [hB.2.1]; first | exact Nat.le_of_ble_eq_true rfl | (dsimp only; omega)) (by rw [hB.2.1]; first | exact Nat.le_of_ble_eq_true rfl | (dsimp only; omega)) dL_law_873 (fun v h_873 n_873 p_873 => ?_)
  obtain ⟨rfl, rfl⟩ := p_873
  try dsimp only [Option.toList, List.cons_append, List.nil_append]
  refine o_icmp_eq (tgt := 1123) hC dL_law_876 (by decide) (fun c_876 => ?_) (fun c_876 => ?_)
  · exact lw_done l D ids H0 (by decide) hC hB (Nat.le_of_ble_eq_true rfl) (Nat.le_of_ble_eq_true rfl)
  · exact absurd rfl c_876

set_option maxHeartbeats 4000000 in
set_option maxRecDepth 100000 in
theorem lw_c16 (l : Launch) (hl : l.stackTraces = false) (D : va_G) (ids : Nat → ClassId) (H0 : Heap) {b x m ou : Nat} {xs : Nat → Int32} {X : rl_X} (hC : rl_C X (rl_e D ids H0) cL_law RL rl_BW rl_Ns) (hB : lw_B X (rl_e D ids H0) l b 6 xs) {h : rl_H} {n : Nat} (hmx : m = x + 70) (hx : rw_new ids h x) (hm : md_new ids h m) : rl_G X (rl_e D ids H0) 881 [some (.ref b), some (.ref x), some (.ref m), some (.ref ou), some (.int (nI 0)), none, none, none] [] h n 94 44572 := by
  refine o_aload_n hC dL_law_881 (by rfl) ?_
  refine o_aload_n hC dL_law_882 (by rfl) ?_
  refine o_iload hC dL_law_883 (by rfl) ?_
  refine o_iconst (v := nI 1) hC dL_law_885 (by decide +kernel) ?_
  refine o_iadd hC dL_law_886 ?_
  rw [show nI 0 + nI 1 = nI 1 from by decide +kernel]
  refine o_sld (k := 1) hC hB (by decide) (by decide) dL_law_887 ?_
  refine o_callV1 hC rl_BW_good rl_Ns_nw (by exact hB.2.2.2.2.2) YX7_made IX7_made VX7_made (mL_99 hC) (by rw [hB.1]; exact fr_X7_made l D ids H0 _ _ x _ hx) (by exact hx.1) rfl rfl (Nat.le_of_ble_eq_true rfl) (by rw [hB.2.1]; first | exact Nat.le_of_ble_eq_true rfl | (dsimp only; omega)) (by rw [hB.2.1]; first | exact Nat.le_of_ble_eq_true rfl | (dsimp only; omega)) (by rw [hB.2.1]; first | exact Nat.le_of_ble_eq_true rfl | (dsimp only; omega)) (by rw [hB.2.1]; first | exact Nat.le_of_ble_eq_true rfl | (dsimp only; omega)) dL_law_888 (fun v h_888 n_888 p_888 => ?_)
  obtain ⟨rfl, rfl, rfl⟩ := p_888
  try dsimp only [Option.toList, List.cons_append, List.nil_append]
  refine o_aload_n hC dL_law_891 (by rfl) ?_
  refine o_aload_n hC dL_law_892 (by rfl) ?_
  refine o_iload hC dL_law_893 (by rfl) ?_
  refine o_iconst (v := nI 1) hC dL_law_895 (by decide +kernel) ?_
  refine o_iadd hC dL_law_896 ?_
  rw [show nI 0 + nI 1 = nI 1 from by decide +kernel]
  refine o_sld (k := 1) hC hB (by decide) (by decide) dL_law_897 ?_
  refine o_callV1 hC rl_BW_good rl_Ns_nw (by exact hB.2.2.2.2.2) YX8_made IX8_made VX8_made (mL_102 hC) (by rw [hB.1]; exact fr_X8_made l D ids H0 _ _ m _ hm) (by exact hm.1) rfl rfl (Nat.le_of_ble_eq_true rfl) (by rw [hB.2.1]; first | exact Nat.le_of_ble_eq_true rfl | (dsimp only; omega)) (by rw [hB.2.1]; first | exact Nat.le_of_ble_eq_true rfl | (dsimp only; omega)) (by rw [hB.2.1]; first | exact Nat.le_of_ble_eq_true rfl | (dsimp only; omega)) (by rw [hB.2.1]; first | exact Nat.le_of_ble_eq_true rfl | (dsimp only; omega)) dL_law_898 (fun v h_898 n_898 p_898 => ?_)
  obtain ⟨rfl, rfl⟩ := p_898
  try dsimp only [Option.toList, List.cons_append, List.nil_append]
  refine o_icmp_eq (tgt := 1123) hC dL_law_901 (by decide) (fun c_901 => ?_) (fun c_901 => ?_)
  · exact lw_done l D ids H0 (by decide) hC hB (Nat.le_of_ble_eq_true rfl) (Nat.le_of_ble_eq_true rfl)
  · exact absurd rfl c_901

set_option maxHeartbeats 4000000 in
set_option maxRecDepth 100000 in
theorem lw_c17 (l : Launch) (hl : l.stackTraces = false) (D : va_G) (ids : Nat → ClassId) (H0 : Heap) {b x m ou : Nat} {xs : Nat → Int32} {X : rl_X} (hC : rl_C X (rl_e D ids H0) cL_law RL rl_BW rl_Ns) (hB : lw_B X (rl_e D ids H0) l b 6 xs) {h : rl_H} {n : Nat} (hmx : m = x + 70) (hx : rw_new ids h x) (hm : md_new ids h m) : rl_G X (rl_e D ids H0) 906 [some (.ref b), some (.ref x), some (.ref m), some (.ref ou), some (.int (nI 0)), none, none, none] [] h n 94 44572 := by
  refine o_aload_n hC dL_law_906 (by rfl) ?_
  refine o_aload_n hC dL_law_907 (by rfl) ?_
  refine o_iload hC dL_law_908 (by rfl) ?_
  refine o_iconst (v := nI 1) hC dL_law_910 (by decide +kernel) ?_
  refine o_iadd hC dL_law_911 ?_
  rw [show nI 0 + nI 1 = nI 1 from by decide +kernel]
  refine o_sld (k := 1) hC hB (by decide) (by decide) dL_law_912 ?_
  refine o_aload_n hC dL_law_913 (by rfl) ?_
  refine o_iload hC dL_law_914 (by rfl) ?_
  refine o_iconst (v := nI 2) hC dL_law_916 (by decide +kernel) ?_
  refine o_iadd hC dL_law_917 ?_
  rw [show nI 0 + nI 2 = nI 2 from by decide +kernel]
  refine o_sld (k := 2) hC hB (by decide) (by decide) dL_law_918 ?_
  refine o_i2l hC dL_law_919 ?_
  refine o_bipush (v := nI 32) hC dL_law_920 (by decide +kernel) ?_
  refine o_lshl hC dL_law_922 ?_
  refine o_aload_n hC dL_law_923 (by rfl) ?_
  refine o_iload hC dL_law_924 (by rfl) ?_
  refine o_iconst (v := nI 3) hC dL_law_926 (by decide +kernel) ?_
  refine o_iadd hC dL_law_927 ?_
  rw [show nI 0 + nI 3 = nI 3 from by decide +kernel]
  refine o_sld (k := 3) hC hB (by decide) (by decide) dL_law_928 ?_
  refine o_i2l hC dL_law_929 ?_
  refine o_ldc2 hC nL_103 dL_law_930 ?_
  refine o_land hC dL_law_933 ?_
  refine o_lor hC dL_law_934 ?_
  refine o_callV2 hC rl_BW_good rl_Ns_nw (by exact hB.2.2.2.2.2) YX7_under IX7_under VX7_under (mL_105 hC) (by rw [hB.1]; exact fr_X7_under l D ids H0 _ _ x _ _ hx) (by exact hx.1) rfl rfl (Nat.le_of_ble_eq_true rfl) (by rw [hB.2.1]; first | exact Nat.le_of_ble_eq_true rfl | (dsimp only; omega)) (by rw [hB.2.1]; first | exact Nat.le_of_ble_eq_true rfl | (dsimp only; omega)) (by rw [hB.2.1]; first | exact Nat.le_of_ble_eq_true rfl | (dsimp only; omega)) (by rw [hB.2.1]; first | exact Nat.le_of_ble_eq_true rfl | (dsimp only; omega)) dL_law_935 (fun v h_935 n_935 p_935 => ?_)
  obtain ⟨rfl, rfl, rfl⟩ := p_935
  try dsimp only [Option.toList, List.cons_append, List.nil_append]
  refine o_aload_n hC dL_law_938 (by rfl) ?_
  refine o_aload_n hC dL_law_939 (by rfl) ?_
  refine o_iload hC dL_law_940 (by rfl) ?_
  refine o_iconst (v := nI 1) hC dL_law_942 (by decide +kernel) ?_
  refine o_iadd hC dL_law_943 ?_
  rw [show nI 0 + nI 1 = nI 1 from by decide +kernel]
  refine o_sld (k := 1) hC hB (by decide) (by decide) dL_law_944 ?_
  refine o_aload_n hC dL_law_945 (by rfl) ?_
  refine o_iload hC dL_law_946 (by rfl) ?_
  refine o_iconst (v := nI 2) hC dL_law_948 (by decide +kernel) ?_
  refine o_iadd hC dL_law_949 ?_
  rw [show nI 0 + nI 2 = nI 2 from by decide +kernel]
  refine o_sld (k := 2) hC hB (by decide) (by decide) dL_law_950 ?_
  refine o_i2l hC dL_law_951 ?_
  refine o_bipush (v := nI 32) hC dL_law_952 (by decide +kernel) ?_
  refine o_lshl hC dL_law_954 ?_
  refine o_aload_n hC dL_law_955 (by rfl) ?_
  refine o_iload hC dL_law_956 (by rfl) ?_
  refine o_iconst (v := nI 3) hC dL_law_958 (by decide +kernel) ?_
  refine o_iadd hC dL_law_959 ?_
  rw [show nI 0 + nI 3 = nI 3 from by decide +kernel]
  refine o_sld (k := 3) hC hB (by decide) (by decide) dL_law_960 ?_
  refine o_i2l hC dL_law_961 ?_
  refine o_ldc2 hC nL_103 dL_law_962 ?_
  refine o_land hC dL_law_965 ?_
  refine o_lor hC dL_law_966 ?_
  refine o_callV2 hC rl_BW_good rl_Ns_nw (by exact hB.2.2.2.2.2) YX8_under IX8_under VX8_under (mL_109 hC) (by rw [hB.1]; exact fr_X8_under l D ids H0 _ _ m _ _ hm) (by exact hm.1) rfl rfl (Nat.le_of_ble_eq_true rfl) (by rw [hB.2.1]; first | exact Nat.le_of_ble_eq_true rfl | (dsimp only; omega)) (by rw [hB.2.1]; first | exact Nat.le_of_ble_eq_true rfl | (dsimp only; omega)) (by rw [hB.2.1]; first | exact Nat.le_of_ble_eq_true rfl | (dsimp only; omega)) (by rw [hB.2.1]; first | exact Nat.le_of_ble_eq_true rfl | (dsimp only; omega)) dL_law_967 (fun v h_967 n_967 p_967 => ?_)
  obtain ⟨rfl, rfl⟩ := p_967
  try dsimp only [Option.toList, List.cons_append, List.nil_append]
  refine o_icmp_eq (tgt := 1123) hC dL_law_970 (by decide) (fun c_970 => ?_) (fun c_970 => ?_)
  · exact lw_done l D ids H0 (by decide) hC hB (Nat.le_of_ble_eq_true rfl) (Nat.le_of_ble_eq_true rfl)
  · exact absurd rfl c_970

set_option maxHeartbeats 4000000 in
set_option maxRecDepth 100000 in
theorem lw_c18 (l : Launch) (hl : l.stackTraces = false) (D : va_G) (ids : Nat → ClassId) (H0 : Heap) {b x m ou : Nat} {xs : Nat → Int32} {X : rl_X} (hC : rl_C X (rl_e D ids H0) cL_law RL rl_BW rl_Ns) (hB : lw_B X (rl_e D ids H0) l b 6 xs) {h : rl_H} {n : Nat} (hmx : m = x + 70) (hx : rw_new ids h x) (hm : md_new ids h m) : rl_G X (rl_e D ids H0) 975 [some (.ref b), some (.ref x), some (.ref m), some (.ref ou), some (.int (nI 0)), none, none, none] [] h n 94 44572 := by
  refine o_aload_n hC dL_law_975 (by rfl) ?_
  refine o_aload_n hC dL_law_976 (by rfl) ?_
  refine o_iload hC dL_law_977 (by rfl) ?_
  refine o_iconst (v := nI 1) hC dL_law_979 (by decide +kernel) ?_
  refine o_iadd hC dL_law_980 ?_
  rw [show nI 0 + nI 1 = nI 1 from by decide +kernel]
  refine o_sld (k := 1) hC hB (by decide) (by decide) dL_law_981 ?_
  refine o_callV1 hC rl_BW_good rl_Ns_nw (by exact hB.2.2.2.2.2) YX7_forward IX7_forward VX7_forward (mL_110 hC) (by rw [hB.1]; exact fr_X7_forward l D ids H0 _ _ x _ hx) (by exact hx.1) rfl rfl (Nat.le_of_ble_eq_true rfl) (by rw [hB.2.1]; first | exact Nat.le_of_ble_eq_true rfl | (dsimp only; omega)) (by rw [hB.2.1]; first | exact Nat.le_of_ble_eq_true rfl | (dsimp only; omega)) (by rw [hB.2.1]; first | exact Nat.le_of_ble_eq_true rfl | (dsimp only; omega)) (by rw [hB.2.1]; first | exact Nat.le_of_ble_eq_true rfl | (dsimp only; omega)) dL_law_982 (fun v h_982 n_982 p_982 => ?_)
  obtain ⟨rfl, rfl, rfl⟩ := p_982
  try dsimp only [Option.toList, List.cons_append, List.nil_append]
  refine o_aload_n hC dL_law_985 (by rfl) ?_
  refine o_aload_n hC dL_law_986 (by rfl) ?_
  refine o_iload hC dL_law_987 (by rfl) ?_
  refine o_iconst (v := nI 1) hC dL_law_989 (by decide +kernel) ?_
  refine o_iadd hC dL_law_990 ?_
  rw [show nI 0 + nI 1 = nI 1 from by decide +kernel]
  refine o_sld (k := 1) hC hB (by decide) (by decide) dL_law_991 ?_
  refine o_callV1 hC rl_BW_good rl_Ns_nw (by exact hB.2.2.2.2.2) YX8_forward IX8_forward VX8_forward (mL_113 hC) (by rw [hB.1]; exact fr_X8_forward l D ids H0 _ _ m _ hm) (by exact hm.1) rfl rfl (Nat.le_of_ble_eq_true rfl) (by rw [hB.2.1]; first | exact Nat.le_of_ble_eq_true rfl | (dsimp only; omega)) (by rw [hB.2.1]; first | exact Nat.le_of_ble_eq_true rfl | (dsimp only; omega)) (by rw [hB.2.1]; first | exact Nat.le_of_ble_eq_true rfl | (dsimp only; omega)) (by rw [hB.2.1]; first | exact Nat.le_of_ble_eq_true rfl | (dsimp only; omega)) dL_law_992 (fun v h_992 n_992 p_992 => ?_)
  obtain ⟨rfl, rfl⟩ := p_992
  try dsimp only [Option.toList, List.cons_append, List.nil_append]
  refine o_icmp_eq (tgt := 1123) hC dL_law_995 (by decide) (fun c_995 => ?_) (fun c_995 => ?_)
  · exact lw_done l D ids H0 (by decide) hC hB (Nat.le_of_ble_eq_true rfl) (Nat.le_of_ble_eq_true rfl)
  · exact absurd rfl c_995

set_option maxHeartbeats 4000000 in
set_option maxRecDepth 100000 in
theorem lw_c19 (l : Launch) (hl : l.stackTraces = false) (D : va_G) (ids : Nat → ClassId) (H0 : Heap) {b x m ou : Nat} {xs : Nat → Int32} {X : rl_X} (hC : rl_C X (rl_e D ids H0) cL_law RL rl_BW rl_Ns) (hB : lw_B X (rl_e D ids H0) l b 6 xs) {h : rl_H} {n : Nat} (hmx : m = x + 70) (hx : rw_new ids h x) (hm : md_new ids h m) : rl_G X (rl_e D ids H0) 1000 [some (.ref b), some (.ref x), some (.ref m), some (.ref ou), some (.int (nI 0)), none, none, none] [] h n 94 44572 := by
  refine o_aload_n hC dL_law_1000 (by rfl) ?_
  refine o_aload_n hC dL_law_1001 (by rfl) ?_
  refine o_iload hC dL_law_1002 (by rfl) ?_
  refine o_iconst (v := nI 1) hC dL_law_1004 (by decide +kernel) ?_
  refine o_iadd hC dL_law_1005 ?_
  rw [show nI 0 + nI 1 = nI 1 from by decide +kernel]
  refine o_sld (k := 1) hC hB (by decide) (by decide) dL_law_1006 ?_
  refine o_callV1 hC rl_BW_good rl_Ns_nw (by exact hB.2.2.2.2.2) YX7_count IX7_count VX7_count (mL_114 hC) (by rw [hB.1]; exact fr_X7_count l D ids H0 _ _ x _ hx) (by exact hx.1) rfl rfl (Nat.le_of_ble_eq_true rfl) (by rw [hB.2.1]; first | exact Nat.le_of_ble_eq_true rfl | (dsimp only; omega)) (by rw [hB.2.1]; first | exact Nat.le_of_ble_eq_true rfl | (dsimp only; omega)) (by rw [hB.2.1]; first | exact Nat.le_of_ble_eq_true rfl | (dsimp only; omega)) (by rw [hB.2.1]; first | exact Nat.le_of_ble_eq_true rfl | (dsimp only; omega)) dL_law_1007 (fun v h_1007 n_1007 p_1007 => ?_)
  obtain ⟨rfl, rfl, rfl⟩ := p_1007
  try dsimp only [Option.toList, List.cons_append, List.nil_append]
  refine o_aload_n hC dL_law_1010 (by rfl) ?_
  refine o_aload_n hC dL_law_1011 (by rfl) ?_
  refine o_iload hC dL_law_1012 (by rfl) ?_
  refine o_iconst (v := nI 1) hC dL_law_1014 (by decide +kernel) ?_
  refine o_iadd hC dL_law_1015 ?_
  rw [show nI 0 + nI 1 = nI 1 from by decide +kernel]
  refine o_sld (k := 1) hC hB (by decide) (by decide) dL_law_1016 ?_
  refine o_callV1 hC rl_BW_good rl_Ns_nw (by exact hB.2.2.2.2.2) YX8_count IX8_count VX8_count (mL_117 hC) (by rw [hB.1]; exact fr_X8_count l D ids H0 _ _ m _ hm) (by exact hm.1) rfl rfl (Nat.le_of_ble_eq_true rfl) (by rw [hB.2.1]; first | exact Nat.le_of_ble_eq_true rfl | (dsimp only; omega)) (by rw [hB.2.1]; first | exact Nat.le_of_ble_eq_true rfl | (dsimp only; omega)) (by rw [hB.2.1]; first | exact Nat.le_of_ble_eq_true rfl | (dsimp only; omega)) (by rw [hB.2.1]; first | exact Nat.le_of_ble_eq_true rfl | (dsimp only; omega)) dL_law_1017 (fun v h_1017 n_1017 p_1017 => ?_)
  obtain ⟨rfl, rfl⟩ := p_1017
  try dsimp only [Option.toList, List.cons_append, List.nil_append]
  refine o_icmp_eq (tgt := 1123) hC dL_law_1020 (by decide) (fun c_1020 => ?_) (fun c_1020 => ?_)
  · exact lw_done l D ids H0 (by decide) hC hB (Nat.le_of_ble_eq_true rfl) (Nat.le_of_ble_eq_true rfl)
  · exact absurd rfl c_1020

set_option maxHeartbeats 4000000 in
set_option maxRecDepth 100000 in
theorem lw_c20 (l : Launch) (hl : l.stackTraces = false) (D : va_G) (ids : Nat → ClassId) (H0 : Heap) {b x m ou : Nat} {xs : Nat → Int32} {X : rl_X} (hC : rl_C X (rl_e D ids H0) cL_law RL rl_BW rl_Ns) (hB : lw_B X (rl_e D ids H0) l b 6 xs) {h : rl_H} {n : Nat} (hmx : m = x + 70) (hx : rw_new ids h x) (hm : md_new ids h m) : rl_G X (rl_e D ids H0) 1025 [some (.ref b), some (.ref x), some (.ref m), some (.ref ou), some (.int (nI 0)), none, none, none] [] h n 94 44572 := by
  refine o_aload_n hC dL_law_1025 (by rfl) ?_
  refine o_aload_n hC dL_law_1026 (by rfl) ?_
  refine o_iload hC dL_law_1027 (by rfl) ?_
  refine o_iconst (v := nI 1) hC dL_law_1029 (by decide +kernel) ?_
  refine o_iadd hC dL_law_1030 ?_
  rw [show nI 0 + nI 1 = nI 1 from by decide +kernel]
  refine o_sld (k := 1) hC hB (by decide) (by decide) dL_law_1031 ?_
  refine o_aload_n hC dL_law_1032 (by rfl) ?_
  refine o_iload hC dL_law_1033 (by rfl) ?_
  refine o_iconst (v := nI 2) hC dL_law_1035 (by decide +kernel) ?_
  refine o_iadd hC dL_law_1036 ?_
  rw [show nI 0 + nI 2 = nI 2 from by decide +kernel]
  refine o_sld (k := 2) hC hB (by decide) (by decide) dL_law_1037 ?_
  refine o_callV2 hC rl_BW_good rl_Ns_nw (by exact hB.2.2.2.2.2) YX7_matters IX7_matters VX7_matters (mL_118 hC) (by rw [hB.1]; exact fr_X7_matters l D ids H0 _ _ x _ _ hx) (by exact hx.1) rfl rfl (Nat.le_of_ble_eq_true rfl) (by rw [hB.2.1]; first | exact Nat.le_of_ble_eq_true rfl | (dsimp only; omega)) (by rw [hB.2.1]; first | exact Nat.le_of_ble_eq_true rfl | (dsimp only; omega)) (by rw [hB.2.1]; first | exact Nat.le_of_ble_eq_true rfl | (dsimp only; omega)) (by rw [hB.2.1]; first | exact Nat.le_of_ble_eq_true rfl | (dsimp only; omega)) dL_law_1038 (fun v h_1038 n_1038 p_1038 => ?_)
  obtain ⟨rfl, rfl, rfl⟩ := p_1038
  try dsimp only [Option.toList, List.cons_append, List.nil_append]
  refine o_aload_n hC dL_law_1041 (by rfl) ?_
  refine o_aload_n hC dL_law_1042 (by rfl) ?_
  refine o_iload hC dL_law_1043 (by rfl) ?_
  refine o_iconst (v := nI 1) hC dL_law_1045 (by decide +kernel) ?_
  refine o_iadd hC dL_law_1046 ?_
  rw [show nI 0 + nI 1 = nI 1 from by decide +kernel]
  refine o_sld (k := 1) hC hB (by decide) (by decide) dL_law_1047 ?_
  refine o_aload_n hC dL_law_1048 (by rfl) ?_
  refine o_iload hC dL_law_1049 (by rfl) ?_
  refine o_iconst (v := nI 2) hC dL_law_1051 (by decide +kernel) ?_
  refine o_iadd hC dL_law_1052 ?_
  rw [show nI 0 + nI 2 = nI 2 from by decide +kernel]
  refine o_sld (k := 2) hC hB (by decide) (by decide) dL_law_1053 ?_
  refine o_callV2 hC rl_BW_good rl_Ns_nw (by exact hB.2.2.2.2.2) YX8_matters IX8_matters VX8_matters (mL_121 hC) (by rw [hB.1]; exact fr_X8_matters l D ids H0 _ _ m _ _ hm) (by exact hm.1) rfl rfl (Nat.le_of_ble_eq_true rfl) (by rw [hB.2.1]; first | exact Nat.le_of_ble_eq_true rfl | (dsimp only; omega)) (by rw [hB.2.1]; first | exact Nat.le_of_ble_eq_true rfl | (dsimp only; omega)) (by rw [hB.2.1]; first | exact Nat.le_of_ble_eq_true rfl | (dsimp only; omega)) (by rw [hB.2.1]; first | exact Nat.le_of_ble_eq_true rfl | (dsimp only; omega)) dL_law_1054 (fun v h_1054 n_1054 p_1054 => ?_)
  obtain ⟨rfl, rfl⟩ := p_1054
  try dsimp only [Option.toList, List.cons_append, List.nil_append]
  refine o_icmp_eq (tgt := 1123) hC dL_law_1057 (by decide) (fun c_1057 => ?_) (fun c_1057 => ?_)
  · exact lw_done l D ids H0 (by decide) hC hB (Nat.le_of_ble_eq_true rfl) (Nat.le_of_ble_eq_true rfl)
  · exact absurd rfl c_1057

set_option maxHeartbeats 4000000 in
set_option maxRecDepth 100000 in
theorem lw_c21 (l : Launch) (hl : l.stackTraces = false) (D : va_G) (ids : Nat → ClassId) (H0 : Heap) {b x m ou : Nat} {xs : Nat → Int32} {X : rl_X} (hC : rl_C X (rl_e D ids H0) cL_law RL rl_BW rl_Ns) (hB : lw_B X (rl_e D ids H0) l b 6 xs) {h : rl_H} {n : Nat} (hmx : m = x + 70) (hx : rw_new ids h x) (hm : md_new ids h m) : rl_G X (rl_e D ids H0) 1062 [some (.ref b), some (.ref x), some (.ref m), some (.ref ou), some (.int (nI 0)), none, none, none] [] h n 94 44572 := by
  refine o_aload_n hC dL_law_1062 (by rfl) ?_
  refine o_aload_n hC dL_law_1063 (by rfl) ?_
  refine o_iload hC dL_law_1064 (by rfl) ?_
  refine o_iconst (v := nI 1) hC dL_law_1066 (by decide +kernel) ?_
  refine o_iadd hC dL_law_1067 ?_
  rw [show nI 0 + nI 1 = nI 1 from by decide +kernel]
  refine o_sld (k := 1) hC hB (by decide) (by decide) dL_law_1068 ?_
  refine o_callV1 hC rl_BW_good rl_Ns_nw (by exact hB.2.2.2.2.2) YX7_blame IX7_blame VX7_blame (mL_122 hC) (by rw [hB.1]; exact fr_X7_blame l D ids H0 _ _ x _ hx) (by exact hx.1) rfl rfl (Nat.le_of_ble_eq_true rfl) (by rw [hB.2.1]; first | exact Nat.le_of_ble_eq_true rfl | (dsimp only; omega)) (by rw [hB.2.1]; first | exact Nat.le_of_ble_eq_true rfl | (dsimp only; omega)) (by rw [hB.2.1]; first | exact Nat.le_of_ble_eq_true rfl | (dsimp only; omega)) (by rw [hB.2.1]; first | exact Nat.le_of_ble_eq_true rfl | (dsimp only; omega)) dL_law_1069 (fun v h_1069 n_1069 p_1069 => ?_)
  obtain ⟨rfl, rfl, rfl⟩ := p_1069
  try dsimp only [Option.toList, List.cons_append, List.nil_append]
  refine o_aload_n hC dL_law_1072 (by rfl) ?_
  refine o_aload_n hC dL_law_1073 (by rfl) ?_
  refine o_iload hC dL_law_1074 (by rfl) ?_
  refine o_iconst (v := nI 1) hC dL_law_1076 (by decide +kernel) ?_
  refine o_iadd hC dL_law_1077 ?_
  rw [show nI 0 + nI 1 = nI 1 from by decide +kernel]
  refine o_sld (k := 1) hC hB (by decide) (by decide) dL_law_1078 ?_
  refine o_callV1 hC rl_BW_good rl_Ns_nw (by exact hB.2.2.2.2.2) YX8_blame IX8_blame VX8_blame (mL_125 hC) (by rw [hB.1]; exact fr_X8_blame l D ids H0 _ _ m _ hm) (by exact hm.1) rfl rfl (Nat.le_of_ble_eq_true rfl) (by rw [hB.2.1]; first | exact Nat.le_of_ble_eq_true rfl | (dsimp only; omega)) (by rw [hB.2.1]; first | exact Nat.le_of_ble_eq_true rfl | (dsimp only; omega)) (by rw [hB.2.1]; first | exact Nat.le_of_ble_eq_true rfl | (dsimp only; omega)) (by rw [hB.2.1]; first | exact Nat.le_of_ble_eq_true rfl | (dsimp only; omega)) dL_law_1079 (fun v h_1079 n_1079 p_1079 => ?_)
  obtain ⟨rfl, rfl⟩ := p_1079
  try dsimp only [Option.toList, List.cons_append, List.nil_append]
  refine o_icmp_eq (tgt := 1123) hC dL_law_1082 (by decide) (fun c_1082 => ?_) (fun c_1082 => ?_)
  · exact lw_done l D ids H0 (by decide) hC hB (Nat.le_of_ble_eq_true rfl) (Nat.le_of_ble_eq_true rfl)
  · exact absurd rfl c_1082

set_option maxHeartbeats 4000000 in
set_option maxRecDepth 100000 in
theorem lw_c22 (l : Launch) (hl : l.stackTraces = false) (D : va_G) (ids : Nat → ClassId) (H0 : Heap) {b x m ou : Nat} {xs : Nat → Int32} {X : rl_X} (hC : rl_C X (rl_e D ids H0) cL_law RL rl_BW rl_Ns) (hB : lw_B X (rl_e D ids H0) l b 6 xs) {h : rl_H} {n : Nat} (hmx : m = x + 70) (hx : rw_new ids h x) (hm : md_new ids h m) : rl_G X (rl_e D ids H0) 1087 [some (.ref b), some (.ref x), some (.ref m), some (.ref ou), some (.int (nI 0)), none, none, none] [] h n 94 44572 := by
  refine o_aload_n hC dL_law_1087 (by rfl) ?_
  refine o_aload_n hC dL_law_1088 (by rfl) ?_
  refine o_iload hC dL_law_1089 (by rfl) ?_
  refine o_iconst (v := nI 1) hC dL_law_1091 (by decide +kernel) ?_
  refine o_iadd hC dL_law_1092 ?_
  rw [show nI 0 + nI 1 = nI 1 from by decide +kernel]
  refine o_sld (k := 1) hC hB (by decide) (by decide) dL_law_1093 ?_
  refine o_callV1 hC rl_BW_good rl_Ns_nw (by exact hB.2.2.2.2.2) YX7_told IX7_told VX7_told (mL_126 hC) (by rw [hB.1]; exact fr_X7_told l D ids H0 _ _ x _ hx) (by exact hx.1) rfl rfl (Nat.le_of_ble_eq_true rfl) (by rw [hB.2.1]; first | exact Nat.le_of_ble_eq_true rfl | (dsimp only; omega)) (by rw [hB.2.1]; first | exact Nat.le_of_ble_eq_true rfl | (dsimp only; omega)) (by rw [hB.2.1]; first | exact Nat.le_of_ble_eq_true rfl | (dsimp only; omega)) (by rw [hB.2.1]; first | exact Nat.le_of_ble_eq_true rfl | (dsimp only; omega)) dL_law_1094 (fun v h_1094 n_1094 p_1094 => ?_)
  obtain ⟨rfl, rfl, rfl⟩ := p_1094
  try dsimp only [Option.toList, List.cons_append, List.nil_append]
  refine o_aload_n hC dL_law_1097 (by rfl) ?_
  refine o_aload_n hC dL_law_1098 (by rfl) ?_
  refine o_iload hC dL_law_1099 (by rfl) ?_
  refine o_iconst (v := nI 1) hC dL_law_1101 (by decide +kernel) ?_
  refine o_iadd hC dL_law_1102 ?_
  rw [show nI 0 + nI 1 = nI 1 from by decide +kernel]
  refine o_sld (k := 1) hC hB (by decide) (by decide) dL_law_1103 ?_
  refine o_callV1 hC rl_BW_good rl_Ns_nw (by exact hB.2.2.2.2.2) YX8_told IX8_told VX8_told (mL_129 hC) (by rw [hB.1]; exact fr_X8_told l D ids H0 _ _ m _ hm) (by exact hm.1) rfl rfl (Nat.le_of_ble_eq_true rfl) (by rw [hB.2.1]; first | exact Nat.le_of_ble_eq_true rfl | (dsimp only; omega)) (by rw [hB.2.1]; first | exact Nat.le_of_ble_eq_true rfl | (dsimp only; omega)) (by rw [hB.2.1]; first | exact Nat.le_of_ble_eq_true rfl | (dsimp only; omega)) (by rw [hB.2.1]; first | exact Nat.le_of_ble_eq_true rfl | (dsimp only; omega)) dL_law_1104 (fun v h_1104 n_1104 p_1104 => ?_)
  obtain ⟨rfl, rfl⟩ := p_1104
  try dsimp only [Option.toList, List.cons_append, List.nil_append]
  refine o_icmp_eq (tgt := 1123) hC dL_law_1107 (by decide) (fun c_1107 => ?_) (fun c_1107 => ?_)
  · exact lw_done l D ids H0 (by decide) hC hB (Nat.le_of_ble_eq_true rfl) (Nat.le_of_ble_eq_true rfl)
  · exact absurd rfl c_1107

set_option maxHeartbeats 4000000 in
set_option maxRecDepth 100000 in
theorem lw_c23 (l : Launch) (hl : l.stackTraces = false) (D : va_G) (ids : Nat → ClassId) (H0 : Heap) {b x m ou : Nat} {xs : Nat → Int32} {X : rl_X} (hC : rl_C X (rl_e D ids H0) cL_law RL rl_BW rl_Ns) (hB : lw_B X (rl_e D ids H0) l b 6 xs) {h : rl_H} {n : Nat} (hmx : m = x + 70) (hx : rw_new ids h x) (hm : md_new ids h m) : rl_G X (rl_e D ids H0) 1112 [some (.ref b), some (.ref x), some (.ref m), some (.ref ou), some (.int (nI 0)), none, none, none] [] h n 94 44572 := by
  refine o_aload_n hC dL_law_1112 (by rfl) ?_
  refine o_callV0 hC rl_BW_good rl_Ns_nw (by exact hB.2.2.2.2.2) YX7_clear IX7_clear VX7_clear (mL_130 hC) (by rw [hB.1]; exact fr_X7_clear l D ids H0 _ _ x  hx) (by exact hx.1) rfl rfl (Nat.le_of_ble_eq_true rfl) (by rw [hB.2.1]; first | exact Nat.le_of_ble_eq_true rfl | (dsimp only; omega)) (by rw [hB.2.1]; first | exact Nat.le_of_ble_eq_true rfl | (dsimp only; omega)) (by rw [hB.2.1]; first | exact Nat.le_of_ble_eq_true rfl | (dsimp only; omega)) (by rw [hB.2.1]; first | exact Nat.le_of_ble_eq_true rfl | (dsimp only; omega)) dL_law_1113 (fun v h_1113 n_1113 p_1113 => ?_)
  obtain ⟨rfl, rfl, f1⟩ := p_1113
  have hm1 : md_new ids h_1113 m := hm.eqv (fun q q1 q2 => f1 q (by omega))
  try dsimp only [Option.toList, List.cons_append, List.nil_append]
  refine o_aload_n hC dL_law_1116 (by rfl) ?_
  refine o_callV0 hC rl_BW_good rl_Ns_nw (by exact hB.2.2.2.2.2) YX8_clear IX8_clear VX8_clear (mL_133 hC) (by rw [hB.1]; exact fr_X8_clear l D ids H0 _ _ m  hm1) (by exact hm1.1) rfl rfl (Nat.le_of_ble_eq_true rfl) (by rw [hB.2.1]; first | exact Nat.le_of_ble_eq_true rfl | (dsimp only; omega)) (by rw [hB.2.1]; first | exact Nat.le_of_ble_eq_true rfl | (dsimp only; omega)) (by rw [hB.2.1]; first | exact Nat.le_of_ble_eq_true rfl | (dsimp only; omega)) (by rw [hB.2.1]; first | exact Nat.le_of_ble_eq_true rfl | (dsimp only; omega)) dL_law_1117 (fun v h_1117 n_1117 p_1117 => ?_)
  obtain ⟨rfl, rfl⟩ := p_1117
  try dsimp only [Option.toList, List.cons_append, List.nil_append]
  refine o_goto (tgt := 1123) hC dL_law_1120 (by decide) ?_
  exact lw_done l D ids H0 (by decide) hC hB (Nat.le_of_ble_eq_true rfl) (Nat.le_of_ble_eq_true rfl)

set_option maxHeartbeats 4000000 in
set_option maxRecDepth 100000 in
theorem lw_switch (l : Launch) (hl : l.stackTraces = false) (D : va_G) (ids : Nat → ClassId) (H0 : Heap) {b x m ou : Nat} {xs : Nat → Int32} {X : rl_X} (hC : rl_C X (rl_e D ids H0) cL_law RL rl_BW rl_Ns) (hB : lw_B X (rl_e D ids H0) l b 6 xs) {h : rl_H} {n : Nat} (hmx : m = x + 70) (hx : rw_new ids h x) (hm : md_new ids h m) (w : Int32) : rl_G X (rl_e D ids H0) 40 [some (.ref b), some (.ref x), some (.ref m), some (.ref ou), some (.int (nI 0)), none, none, none] [.int w] h n 94 44572 := by
  by_cases hw : w < 0 ∨ nI 23 < w
  · refine o_tableOut (tgt := 1123) hC dL_law_40 (rl_out (by decide) hw) (by decide) ?_
    exact lw_done l D ids H0 (by decide) hC hB (Nat.le_of_ble_eq_true rfl) (Nat.le_of_ble_eq_true rfl)
  · obtain ⟨j, hj, rfl⟩ := rl_inn (by decide) hw
    rcases (show j = 0 ∨ j = 1 ∨ j = 2 ∨ j = 3 ∨ j = 4 ∨ j = 5 ∨ j = 6 ∨ j = 7 ∨ j = 8 ∨ j = 9 ∨ j = 10 ∨ j = 11 ∨ j = 12 ∨ j = 13 ∨ j = 14 ∨ j = 15 ∨ j = 16 ∨ j = 17 ∨ j = 18 ∨ j = 19 ∨ j = 20 ∨ j = 21 ∨ j = 22 ∨ j = 23 by omega) with rfl | rfl | rfl | rfl | rfl | rfl | rfl | rfl | rfl | rfl | rfl | rfl | rfl | rfl | rfl | rfl | rfl | rfl | rfl | rfl | rfl | rfl | rfl | rfl
    · refine o_tableIn (off := 112) (tgt := 152) hC dL_law_40 (by decide +kernel) (by decide +kernel) (by decide +kernel) (by decide) ?_
      exact lw_c0 l hl D ids H0 hC hB hmx hx hm
    · refine o_tableIn (off := 137) (tgt := 177) hC dL_law_40 (by decide +kernel) (by decide +kernel) (by decide +kernel) (by decide) ?_
      exact lw_c1 l hl D ids H0 hC hB hmx hx hm
    · refine o_tableIn (off := 210) (tgt := 250) hC dL_law_40 (by decide +kernel) (by decide +kernel) (by decide +kernel) (by decide) ?_
      exact lw_c2 l hl D ids H0 hC hB hmx hx hm
    · refine o_tableIn (off := 235) (tgt := 275) hC dL_law_40 (by decide +kernel) (by decide +kernel) (by decide +kernel) (by decide) ?_
      exact lw_c3 l hl D ids H0 hC hB hmx hx hm
    · refine o_tableIn (off := 308) (tgt := 348) hC dL_law_40 (by decide +kernel) (by decide +kernel) (by decide +kernel) (by decide) ?_
      exact lw_c4 l hl D ids H0 hC hB hmx hx hm
    · refine o_tableIn (off := 345) (tgt := 385) hC dL_law_40 (by decide +kernel) (by decide +kernel) (by decide +kernel) (by decide) ?_
      exact lw_c5 l hl D ids H0 hC hB hmx hx hm
    · refine o_tableIn (off := 406) (tgt := 446) hC dL_law_40 (by decide +kernel) (by decide +kernel) (by decide +kernel) (by decide) ?_
      exact lw_c6 l hl D ids H0 hC hB hmx hx hm
    · refine o_tableIn (off := 443) (tgt := 483) hC dL_law_40 (by decide +kernel) (by decide +kernel) (by decide +kernel) (by decide) ?_
      exact lw_c7 l hl D ids H0 hC hB hmx hx hm
    · refine o_tableIn (off := 480) (tgt := 520) hC dL_law_40 (by decide +kernel) (by decide +kernel) (by decide +kernel) (by decide) ?_
      exact lw_c8 l hl D ids H0 hC hB hmx hx hm
    · refine o_tableIn (off := 541) (tgt := 581) hC dL_law_40 (by decide +kernel) (by decide +kernel) (by decide +kernel) (by decide) ?_
      exact lw_c9 l hl D ids H0 hC hB hmx hx hm
    · refine o_tableIn (off := 566) (tgt := 606) hC dL_law_40 (by decide +kernel) (by decide +kernel) (by decide +kernel) (by decide) ?_
      exact lw_c10 l hl D ids H0 hC hB hmx hx hm
    · refine o_tableIn (off := 591) (tgt := 631) hC dL_law_40 (by decide +kernel) (by decide +kernel) (by decide +kernel) (by decide) ?_
      exact lw_c11 l hl D ids H0 hC hB hmx hx hm
    · refine o_tableIn (off := 659) (tgt := 699) hC dL_law_40 (by decide +kernel) (by decide +kernel) (by decide +kernel) (by decide) ?_
      exact lw_c12 l hl D ids H0 hC hB hmx hx hm
    · refine o_tableIn (off := 684) (tgt := 724) hC dL_law_40 (by decide +kernel) (by decide +kernel) (by decide +kernel) (by decide) ?_
      exact lw_c13 l hl D ids H0 hC hB hmx hx hm
    · refine o_tableIn (off := 763) (tgt := 803) hC dL_law_40 (by decide +kernel) (by decide +kernel) (by decide +kernel) (by decide) ?_
      exact lw_c14 l hl D ids H0 hC hB hmx hx hm
    · refine o_tableIn (off := 816) (tgt := 856) hC dL_law_40 (by decide +kernel) (by decide +kernel) (by decide +kernel) (by decide) ?_
      exact lw_c15 l hl D ids H0 hC hB hmx hx hm
    · refine o_tableIn (off := 841) (tgt := 881) hC dL_law_40 (by decide +kernel) (by decide +kernel) (by decide +kernel) (by decide) ?_
      exact lw_c16 l hl D ids H0 hC hB hmx hx hm
    · refine o_tableIn (off := 866) (tgt := 906) hC dL_law_40 (by decide +kernel) (by decide +kernel) (by decide +kernel) (by decide) ?_
      exact lw_c17 l hl D ids H0 hC hB hmx hx hm
    · refine o_tableIn (off := 935) (tgt := 975) hC dL_law_40 (by decide +kernel) (by decide +kernel) (by decide +kernel) (by decide) ?_
      exact lw_c18 l hl D ids H0 hC hB hmx hx hm
    · refine o_tableIn (off := 960) (tgt := 1000) hC dL_law_40 (by decide +kernel) (by decide +kernel) (by decide +kernel) (by decide) ?_
      exact lw_c19 l hl D ids H0 hC hB hmx hx hm
    · refine o_tableIn (off := 985) (tgt := 1025) hC dL_law_40 (by decide +kernel) (by decide +kernel) (by decide +kernel) (by decide) ?_
      exact lw_c20 l hl D ids H0 hC hB hmx hx hm
    · refine o_tableIn (off := 1022) (tgt := 1062) hC dL_law_40 (by decide +kernel) (by decide +kernel) (by decide +kernel) (by decide) ?_
      exact lw_c21 l hl D ids H0 hC hB hmx hx hm
    · refine o_tableIn (off := 1047) (tgt := 1087) hC dL_law_40 (by decide +kernel) (by decide +kernel) (by decide +kernel) (by decide) ?_
      exact lw_c22 l hl D ids H0 hC hB hmx hx hm
    · refine o_tableIn (off := 1072) (tgt := 1112) hC dL_law_40 (by decide +kernel) (by decide +kernel) (by decide +kernel) (by decide) ?_
      exact lw_c23 l hl D ids H0 hC hB hmx hx hm

set_option maxHeartbeats 4000000 in
set_option maxRecDepth 100000 in
theorem lw_one (l : Launch) (hl : l.stackTraces = false) (D : va_G) (ids : Nat → ClassId) (H0 : Heap) {b L : Nat} {xs : Nat → Int32} {X : rl_X} (hL : L ≤ 6) (hC : rl_C X (rl_e D ids H0) cL_law RL rl_BW rl_Ns) (hB : lw_B X (rl_e D ids H0) l b L xs) (n : Nat) : rl_G X (rl_e D ids H0) 0 (rl_in 8 [.ref b]) [] (fun _ => none) n 0 0 := by
  show rl_G X (rl_e D ids H0) 0 [some (.ref b), none, none, none, none, none, none, none] [] (fun _ => none) n 0 0
  refine o_new (ci := 7) (fs := [.null, .null, .null, .null, .null, .null, .int (nI 0), .int (nI 0), .long 0]) hC rfl uX7 tyX7 tyX7_ok kL_8 iX7 zX7 (by decide +kernel) (by rw [hB.2.1]; first | exact Nat.le_of_ble_eq_true rfl | (dsimp only; omega)) (by rw [hB.2.1]; first | exact Nat.le_of_ble_eq_true rfl | (dsimp only; omega)) dL_law_0 ?_
  refine o_dup hC dL_law_3 rfl ?_
  refine o_callI0 hC rl_BW_good rl_Ns_nw (by exact hB.2.2.2.2.2) YX7_init rfl IX7_init (mL_21 hC) (by rw [hB.1]; exact ct_X7_init l D ids H0 _ _ n (by repeat (first | with_reducible assumption | (rw [rl_u_s]; done) | (rw [rl_u_s]; rfl) | rw [rl_u_n (by first | with_reducible assumption | omega)])) rfl) (Nat.le_of_ble_eq_true rfl) (by rw [hB.2.1]; first | exact Nat.le_of_ble_eq_true rfl | (dsimp only; omega)) (by rw [hB.2.1]; first | exact Nat.le_of_ble_eq_true rfl | (dsimp only; omega)) (by rw [hB.2.1]; first | exact Nat.le_of_ble_eq_true rfl | (dsimp only; omega)) (by rw [hB.2.1]; first | exact Nat.le_of_ble_eq_true rfl | (dsimp only; omega)) dL_law_4 (fun v h_4 n_4 p_4 => ?_)
  obtain ⟨rfl, rfl, r1, r2⟩ := p_4
  try dsimp only [Option.toList, List.cons_append, List.nil_append]
  refine o_astore_n hC dL_law_7 (Nat.le_of_ble_eq_true rfl) ?_
  refine o_new (ci := 8) (fs := [.int (nI 0), .int (nI 0), .null, .int (nI 0), .null, .null, .long 0, .int (nI 0), .null, .null, .null, .null, .null, .null, .null, .null, .null, .null, .null, .int (nI 0), .null, .null, .null, .int (nI 0), .null, .null, .int (nI 0), .null, .null, .null, .int (nI 0)]) hC rfl uX8 tyX8 tyX8_ok kL_22 iX8 zX8 (by decide +kernel) (by rw [hB.2.1]; first | exact Nat.le_of_ble_eq_true rfl | (dsimp only; omega)) (by rw [hB.2.1]; first | exact Nat.le_of_ble_eq_true rfl | (dsimp only; omega)) dL_law_8 ?_
  refine o_dup hC dL_law_11 rfl ?_
  refine o_callI0 hC rl_BW_good rl_Ns_nw (by exact hB.2.2.2.2.2) YX8_init rfl IX8_init (mL_24 hC) (by rw [hB.1]; exact ct_X8_init l D ids H0 _ _ (n + 70) (by repeat (first | with_reducible assumption | (rw [rl_u_s]; done) | (rw [rl_u_s]; rfl) | rw [rl_u_n (by first | with_reducible assumption | omega)])) rfl) (Nat.le_of_ble_eq_true rfl) (by rw [hB.2.1]; first | exact Nat.le_of_ble_eq_true rfl | (dsimp only; omega)) (by rw [hB.2.1]; first | exact Nat.le_of_ble_eq_true rfl | (dsimp only; omega)) (by rw [hB.2.1]; first | exact Nat.le_of_ble_eq_true rfl | (dsimp only; omega)) (by rw [hB.2.1]; first | exact Nat.le_of_ble_eq_true rfl | (dsimp only; omega)) dL_law_12 (fun v h_12 n_12 p_12 => ?_)
  obtain ⟨rfl, rfl, r3, r4⟩ := p_12
  have r5 : rw_new ids h_12 n := r1.eqv (fun q q1 q2 => by rw [r4 q (by omega), rl_u_n (by omega)])
  try dsimp only [Option.toList, List.cons_append, List.nil_append]
  refine o_astore_n hC dL_law_15 (Nat.le_of_ble_eq_true rfl) ?_
  refine o_iconst (v := nI 1) hC dL_law_16 (by decide +kernel) ?_
  refine o_newa (atype := .long) (ty := .long) (t0 := 1) (N' := 1) (x := .inr (.inl (fun _ => 0))) hC rfl (fun C q => by cases q) aw_long rfl rfl (nI_pos (by decide)) (nI_clamp (by decide)) (by decide) (by rw [hB.2.1]; first | exact Nat.le_of_ble_eq_true rfl | (dsimp only; omega)) (by rw [hB.2.1]; first | exact Nat.le_of_ble_eq_true rfl | (dsimp only; omega)) dL_law_17 ?_
  refine o_astore_n hC dL_law_19 (Nat.le_of_ble_eq_true rfl) ?_
  refine o_iconst (v := nI 0) hC dL_law_20 (by decide +kernel) ?_
  refine o_istore hC dL_law_21 (Nat.le_of_ble_eq_true rfl) ?_
  refine o_iload hC dL_law_23 (by rfl) ?_
  refine o_aload_n hC dL_law_25 (by rfl) ?_
  refine o_slen hC hB dL_law_26 ?_
  refine o_bipush (v := nI 6) hC dL_law_27 (by decide +kernel) ?_
  refine o_isub hC dL_law_29 ?_
  refine o_icmp_gt (tgt := 1129) hC dL_law_30 (by decide) (fun c => ?_) (fun c => ?_)
  · refine o_iconst (v := nI 1) hC dL_law_1129 (by decide +kernel) ?_
    exact hB.2.2.2.2.1 _ _ _ _ _ _ dL_law_1130 (Nat.le_of_ble_eq_true rfl) (Nat.le_of_ble_eq_true rfl)
  obtain rfl : L = 6 := by
    rcases (by omega : L = 0 ∨ L = 1 ∨ L = 2 ∨ L = 3 ∨ L = 4 ∨ L = 5 ∨ L = 6) with rfl | rfl | rfl | rfl | rfl | rfl | rfl <;> first | rfl | exact absurd (by decide +kernel) c
  refine o_aload_n hC dL_law_33 (by rfl) ?_
  refine o_iload hC dL_law_34 (by rfl) ?_
  refine o_sld (k := 0) hC hB (by decide) (by decide) dL_law_36 ?_
  refine o_bipush (v := nI 31) hC dL_law_37 (by decide +kernel) ?_
  refine o_iand hC dL_law_39 ?_
  exact lw_switch l hl D ids H0 hC hB rfl (r5.eqv (fun q q1 q2 => rl_u_n (by omega))) (md_new.eqv r3 (fun q q1 q2 => rl_u_n (by omega))) _

/-- the law over a script of at most 6 ints -/
theorem lw_short {p : Program} {e : Env} {s : State} {m : MethodId} {below : List Frame} {meth : Method} {c : Code} (l : Launch) (hl : l.stackTraces = false) {b L : Nat} {xs : Nat → Int32} (hL : L ≤ 6) (C0 : lw_At p s m meth c b L xs) : W p l e room_1 s m #[Value.ref b] below meth c s.heap [] 0 0 (lw_Z below #[Value.ref b] s) (entryFrame m ([Value.ref b] : List Value).toArray 8) :=
  lw_into l C0 (fun D ids X hC hB => lw_one l hl D ids s.heap hL hC hB s.heap.size)
