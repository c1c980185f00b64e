/-! cell and way, functionally -/
section RLXP
variable {X : rl_X} {E : rl_E} {cc : ByteArray} {own : String} {BW Ns : List Cond} {pc : Nat} {lo : List (Option Value)} {st : List Value} {h : rl_H} {n ce sl : Nat}
theorem o_callVXp {bytes : ByteArray} {maxL idx b ci N : Nat} {C : String} {T : u_T} {fs As rest : List Value} {ret' : Option FieldType} {rm' : Room} {y' : MethodName} {Post' : Option Value → rl_H → Nat → Prop} {PX : String → Prop} {nm : String} {x : ExceptionTableEntry} {suf : List ExceptionTableEntry}
    (hC : rl_C X E cc own BW Ns) (hG : ∀ w ∈ BW, goodWord w = true) (hN : ∀ w ∈ Ns, rl_nw w = true) (hS : rl_S0 X E) (hml : X.2.1.2.2.2.2.maxLocals = lo.length) (hY : rl_Y BW y' bytes maxL ret' As.length) (h1 : Cond.instanceMethod y' ∈ BW) (h2 : Cond.selects y'.cls y' y' ∈ BW) (hl : Cond.methodLink own idx y' ∈ BW)
    (hM : rl_MetX X.1.2.1 E BW Ns y' bytes maxL ret' rm' (.ref b :: As) h n Post' PX) (hb : h b = some (.inr (ci, fs))) (hc : E.2.1[ci]? = some (C, T, N)) (hCy : C = y'.cls)
    (hst : (rest.map fun v => v.category).sum ≤ 8) (hr1 : rm'.frames + 1 ≤ X.1.2.2.2.1.frames) (hr2 : 8 + (maxL + 11) + rm'.locals ≤ X.1.2.2.2.1.locals) (hr3 : ce + rm'.cells ≤ X.1.2.2.2.1.cells) (hr4 : sl + rm'.slots ≤ X.1.2.2.2.1.slots) (hd : decode cc pc = .ok (.invokevirtual idx, 3))
    (hsplit : X.2.1.2.2.2.2.exceptionTable.toList = x :: suf) (hx : covers x pc = true) (hx0 : x.catchType ≠ 0) (hxl : Cond.classLink own x.catchType nm ∈ BW) (hcast : ∀ F : String, PX F → Cond.castable F nm ∈ rl_Xs)
    (kx : ∀ (q n' : Nat), n ≤ n' → (∃ F : String, PX F) → rl_G X E x.handlerPc lo [.ref q] h n' (ce + rm'.cells) (sl + rm'.slots))
    (kk : ∀ (v : Option Value) (h' : rl_H) (n' : Nat), Post' v h' n' → rl_G X E (pc + 3) lo (v.toList ++ rest) h' n' (ce + rm'.cells) (sl + rm'.slots)) : rl_G X E pc lo (As.reverse ++ .ref b :: rest) h n ce sl := by
  subst hCy
  intro H locs ls a1 b1 c1
  have hts := hC.2.2.2.1
  obtain ⟨⟨h0, n00, r0⟩, kX⟩ := hS
  have hfix : CallFix X.1.1 X.2.1.1 X.2.1.2.2.2.2 cc lo.length X.1.2.2.2.2 X.2.1.2.1 BW own := ⟨hC.1, hC.2.1, hml, hC.2.2.1, hts⟩
  have hrecv : ∃ cellB : Cell, H[b]? = some cellB ∧ cellB.vm.isStatics = false ∧ X.1.2.2.2.2.vm.findClass y'.cls = some cellB.cls := va_recv hC.2.2.2.2.2.1 (rl_P1 a1 hb) hc (q0 := 0) rfl
  have hpre : PreV X.1.2.2.2.2 H y'.cls b (rl_PcX E Ns (.ref b :: As) h n) As := ⟨rl_blindX hN, hrecv, fun U hU hW => ⟨rfl, (rl_pre (av := .ref b :: As) hC hN a1 U hU hW).2, kX.to hW (fun a ha => by rw [hU, a1.2.2.1 a ha, r0.2.2.1 a ha])⟩⟩
  have hr : vx_Run X.1.1 X.1.2.1 X.1.2.2.1 X.1.2.2.2.1 X.1.2.2.2.2 X.2.1.1 X.2.1.2.1 X.2.1.2.2.1 X.2.1.2.2.2.1 X.2.1.2.2.2.2 H locs ce sl rm'.cells rm'.slots (F0 X.2.1.1 pc ls (As.reverse ++ .ref b :: rest)) rest (rl_Qc E Post' (Value.ref b :: As).toArray) (rl_XC E h n PX) (fun q => E.2.2.2.size ≤ q) := vx_runV (y := y') (As := As) (rest := rest) (g := F0 X.2.1.1 pc ls (As.reverse ++ .ref b :: rest)) hfix hM ⟨callB_of As.length hts (rl_good hG hY.1) rfl rfl rfl (hts _ hY.2.1) (hts _ hl) hY.2.2 ⟨hr1, hr2⟩, hts _ h1, hts _ h2⟩ hpre rfl rfl c1.1 rfl (lv_room hst) hd ⟨hr3, hr4⟩
  intro T0 hT S
  rcases hr T0 hT S with ⟨v, st0, t, T', L, e0, S', hL, e1, e2, ⟨v', h', n', hv, hp, hR⟩, go⟩ | ⟨q, st0, t, T', L, F, ce0, e0, S', hL, e1, e2, ⟨hpx, n', hn', hR⟩, hce, hcv, hcl, stp⟩
  · cases hv
    obtain ⟨t', y1, y2⟩ := kk v h' n' hp T'.heap (locs ++ L) ls (by rw [e1]; exact hR) (fun q hq => (List.mem_append.mp hq).elim (b1 q) (hL q)) c1 T' rfl S'
    exact ⟨t', go _ y1, y2⟩
  · have hW : vx_W X.1.1 X.1.2.1 X.1.2.2.1 X.1.2.2.2.1 X.1.2.2.2.2 X.2.1.1 X.2.1.2.1 X.2.1.2.2.1 X.2.1.2.2.2.1 X.2.1.2.2.2.2 T'.heap (locs ++ L) (ce + rm'.cells) (sl + rm'.slots) X.2.2 (F0 X.2.1.1 pc ls rest) q :=
      vx_catch (E := F) (ce := ce0) (name := nm) hC.2.2.1 [] x suf hsplit (fun z hz => by cases hz) hx hx0 (hts _ hxl) (va_Nw.use rfl (kX.1 _ (hcast F hpx))) (by rw [e1]; exact hce) hcv hcl (kx q n' hn' ⟨F, hpx⟩ T'.heap (locs ++ L) ls (by rw [e1]; exact hR) (fun q hq => (List.mem_append.mp hq).elim (b1 q) (hL q)) c1)
    obtain ⟨t', y1, y2⟩ := hW T' rfl S'
    exact ⟨t', stp.trans y1, y2⟩
theorem o_callVYp {bytes : ByteArray} {maxL idx b ci N : Nat} {C : String} {T : u_T} {fs As rest : List Value} {ret' : Option FieldType} {rm' : Room} {y' : MethodName} {Post' : Option Value → rl_H → Nat → Prop} {PX P1 : String → Prop} {nm nm2 : String} {x x2 : ExceptionTableEntry} {suf : List ExceptionTableEntry}
    (hC : rl_C X E cc own BW Ns) (hG : ∀ w ∈ BW, goodWord w = true) (hN : ∀ w ∈ Ns, rl_nw w = true) (hS : rl_S0 X E) (hml : X.2.1.2.2.2.2.maxLocals = lo.length) (hY : rl_Y BW y' bytes maxL ret' As.length) (h1 : Cond.instanceMethod y' ∈ BW) (h2 : Cond.selects y'.cls y' y' ∈ BW) (hl : Cond.methodLink own idx y' ∈ BW)
    (hM : rl_MetX X.1.2.1 E BW Ns y' bytes maxL ret' rm' (.ref b :: As) h n Post' PX) (hb : h b = some (.inr (ci, fs))) (hc : E.2.1[ci]? = some (C, T, N)) (hCy : C = y'.cls)
    (hst : (rest.map fun v => v.category).sum ≤ 8) (hr1 : rm'.frames + 1 ≤ X.1.2.2.2.1.frames) (hr2 : 8 + (maxL + 11) + rm'.locals ≤ X.1.2.2.2.1.locals) (hr3 : ce + rm'.cells ≤ X.1.2.2.2.1.cells) (hr4 : sl + rm'.slots ≤ X.1.2.2.2.1.slots) (hd : decode cc pc = .ok (.invokevirtual idx, 3))
    (hsplit : X.2.1.2.2.2.2.exceptionTable.toList = x :: x2 :: suf) (hx : covers x pc = true) (hx0 : x.catchType ≠ 0) (hxl : Cond.classLink own x.catchType nm ∈ BW) (hx2 : covers x2 pc = true) (hx20 : x2.catchType ≠ 0) (hxl2 : Cond.classLink own x2.catchType nm2 ∈ BW) (hcast : ∀ F : String, PX F → (P1 F ∧ Cond.castable F nm ∈ rl_Xs) ∨ ((F = "java/lang/IllegalArgumentException" ∧ nm = "java/lang/IndexOutOfBoundsException") ∧ Cond.castable F nm2 ∈ rl_Xs))
    (kx : ∀ (q n' : Nat), n ≤ n' → (∃ F : String, PX F ∧ P1 F) → rl_G X E x.handlerPc lo [.ref q] h n' (ce + rm'.cells) (sl + rm'.slots))
    (kx2 : ∀ (q n' : Nat), n ≤ n' → PX "java/lang/IllegalArgumentException" → rl_G X E x2.handlerPc lo [.ref q] h n' (ce + rm'.cells) (sl + rm'.slots))
    (kk : ∀ (v : Option Value) (h' : rl_H) (n' : Nat), Post' v h' n' → rl_G X E (pc + 3) lo (v.toList ++ rest) h' n' (ce + rm'.cells) (sl + rm'.slots)) : rl_G X E pc lo (As.reverse ++ .ref b :: rest) h n ce sl := by
  subst hCy
  intro H locs ls a1 b1 c1
  have hts := hC.2.2.2.1
  obtain ⟨⟨h0, n00, r0⟩, kX⟩ := hS
  have hfix : CallFix X.1.1 X.2.1.1 X.2.1.2.2.2.2 cc lo.length X.1.2.2.2.2 X.2.1.2.1 BW own := ⟨hC.1, hC.2.1, hml, hC.2.2.1, hts⟩
  have hrecv : ∃ cellB : Cell, H[b]? = some cellB ∧ cellB.vm.isStatics = false ∧ X.1.2.2.2.2.vm.findClass y'.cls = some cellB.cls := va_recv hC.2.2.2.2.2.1 (rl_P1 a1 hb) hc (q0 := 0) rfl
  have hpre : PreV X.1.2.2.2.2 H y'.cls b (rl_PcX E Ns (.ref b :: As) h n) As := ⟨rl_blindX hN, hrecv, fun U hU hW => ⟨rfl, (rl_pre (av := .ref b :: As) hC hN a1 U hU hW).2, kX.to hW (fun a ha => by rw [hU, a1.2.2.1 a ha, r0.2.2.1 a ha])⟩⟩
  have hr : vx_Run X.1.1 X.1.2.1 X.1.2.2.1 X.1.2.2.2.1 X.1.2.2.2.2 X.2.1.1 X.2.1.2.1 X.2.1.2.2.1 X.2.1.2.2.2.1 X.2.1.2.2.2.2 H locs ce sl rm'.cells rm'.slots (F0 X.2.1.1 pc ls (As.reverse ++ .ref b :: rest)) rest (rl_Qc E Post' (Value.ref b :: As).toArray) (rl_XC E h n PX) (fun q => E.2.2.2.size ≤ q) := vx_runV (y := y') (As := As) (rest := rest) (g := F0 X.2.1.1 pc ls (As.reverse ++ .ref b :: rest)) hfix hM ⟨callB_of As.length hts (rl_good hG hY.1) rfl rfl rfl (hts _ hY.2.1) (hts _ hl) hY.2.2 ⟨hr1, hr2⟩, hts _ h1, hts _ h2⟩ hpre rfl rfl c1.1 rfl (lv_room hst) hd ⟨hr3, hr4⟩
  intro T0 hT S
  rcases hr T0 hT S with ⟨v, st0, t, T', L, e0, S', hL, e1, e2, ⟨v', h', n', hv, hp, hR⟩, go⟩ | ⟨q, st0, t, T', L, F, ce0, e0, S', hL, e1, e2, ⟨hpx, n', hn', hR⟩, hce, hcv, hcl, stp⟩
  · cases hv
    obtain ⟨t', y1, y2⟩ := kk v h' n' hp T'.heap (locs ++ L) ls (by rw [e1]; exact hR) (fun q hq => (List.mem_append.mp hq).elim (b1 q) (hL q)) c1 T' rfl S'
    exact ⟨t', go _ y1, y2⟩
  · have hW : vx_W X.1.1 X.1.2.1 X.1.2.2.1 X.1.2.2.2.1 X.1.2.2.2.2 X.2.1.1 X.2.1.2.1 X.2.1.2.2.1 X.2.1.2.2.2.1 X.2.1.2.2.2.2 T'.heap (locs ++ L) (ce + rm'.cells) (sl + rm'.slots) X.2.2 (F0 X.2.1.1 pc ls rest) q := by
      rcases hcast F hpx with ⟨hp1, hcc⟩ | ⟨⟨rfl, rfl⟩, hcc⟩
      · exact vx_catch (E := F) (ce := ce0) (name := nm) hC.2.2.1 [] x (x2 :: suf) hsplit (fun z hz => by cases hz) hx hx0 (hts _ hxl) (va_Nw.use rfl (kX.1 _ hcc)) (by rw [e1]; exact hce) hcv hcl (kx q n' hn' ⟨F, hpx, hp1⟩ T'.heap (locs ++ L) ls (by rw [e1]; exact hR) (fun q hq => (List.mem_append.mp hq).elim (b1 q) (hL q)) c1)
      · exact vx_catch (E := "java/lang/IllegalArgumentException") (ce := ce0) (name := nm2) hC.2.2.1 [x] x2 suf hsplit (fun z hz => by rw [List.mem_singleton.mp hz]; exact Or.inr ⟨hx0, _, hts _ hxl, kX.2.2.2.2⟩) hx2 hx20 (hts _ hxl2) (va_Nw.use rfl (kX.1 _ hcc)) (by rw [e1]; exact hce) hcv hcl (kx2 q n' hn' hpx T'.heap (locs ++ L) ls (by rw [e1]; exact hR) (fun q hq => (List.mem_append.mp hq).elim (b1 q) (hL q)) c1)
    obtain ⟨t', y1, y2⟩ := hW T' rfl S'
    exact ⟨t', stp.trans y1, y2⟩
end RLXP

theorem cl_rs.wl {ids : Nat → ClassId} {h : rl_H} {c : cl_N} {res : List arow} {rw : Nat} (H : (c.2.2.2.2.1 = -1 ∧ res = []) ∨ ∃ j : Nat, j < c.2.2.1 ∧ c.2.2.2.2.1 = nI j ∧ c.2.2.2.1 j 1 = nI rw ∧ ctb ids h (c.1 j + 1) rw res ∧ aok rw res) : ∀ t0 : Nat, t0 < res.length → (ark res t0).2.length ≤ 12 := by
  intro t0 h0
  rcases H with ⟨-, e⟩ | ⟨j, -, -, -, ⟨P, S, ht, -, hrow⟩, -⟩
  · rw [e] at h0
    exact absurd h0 (Nat.not_lt_zero _)
  · have e := hrow t0 h0
    have e2 : tls (S.2.1 (P t0)) (S.2.2.1 (P t0)) (S.2.2.2 (P t0)) = (ark res t0).2 := congrArg Prod.snd e
    obtain ⟨t1, ⟨tf, t2, t3⟩, t4, t5, t6, t7⟩ := ht
    obtain ⟨e3, e4, e5⟩ := t5 (P t0) (t4 t0 (by omega))
    have := e5.2.2.2
    rw [← e2, tls_len]
    exact this

set_option maxHeartbeats 4000000 in
set_option maxRecDepth 100000 in
theorem cd_X7_cell (l : Launch) (D : va_G) (ids : Nat → ClassId) (H0 : Heap) (h : rl_H) (n : Nat) (x L : Nat) (s : cl_S) (c : cl_N) (res : List arow) (rw : Nat) (q kk : Int32) (hl : l.stackTraces = false) (hk : cl_ok ids h n x L s c) (hd : cl_dp ids h s c) (hr : cl_rs s c res rw) : rl_MetX l (rl_e D ids H0) rl_BW rl_Ns yX7_cell cX7_cell 4 (some .int) ({ frames := 6, cells := 1, slots := 6, locals := 90 }) [.ref x, .int q, .int kk] h n (fun v h' n' => ∃ r : Int32, v = some (.int r) ∧ h' = h ∧ n' = n ∧ ∃ t0 k0 : Nat, t0 < res.length ∧ q = nI t0 ∧ k0 < rw ∧ kk = nI k0 ∧ r = (ark res t0).1.getD k0 0) (fun C => C = "java/lang/IndexOutOfBoundsException" ∧ ¬ (∃ t0 k0 : Nat, t0 < res.length ∧ q = nI t0 ∧ k0 < rw ∧ kk = nI k0)) := by
  have nc16 := cl_nc hk
  have hc := hk.1
  obtain ⟨c1, c2, c3, ⟨pn, c4, c5⟩, ⟨pt, c6, c7⟩, c8, c9, c10, c11, c12, c13, c14, c15⟩ := id hc
  have htb := hr.tb hd (fun k hk9 => cl_wd hk hk9)
  refine rl_MetX.of (by decide +kernel) (Nat.le_of_ble_eq_true rfl) ?_
  intro X hC hB hS hn0
  show rl_G X (rl_e D ids H0) 0 [some (.ref x), some (.int q), some (.int kk), none] [] h n 0 0
  refine o_aload_n hC dX7_cell_0 (by rfl) ?_
  refine o_iload_n hC dX7_cell_1 (by rfl) ?_
  refine o_callV1 hC rl_BW_good rl_Ns_nw (by exact hB.2.2.2.2.1) YX7_resultTuple IX7_resultTuple VX7_resultTuple (mX7_141 hC) (by rw [hB.1]; exact cd_X7_resultTuple l D ids H0 _ _ x L s c res rw _ hk hd hr) (by exact c1) rfl rfl (Nat.le_of_ble_eq_true rfl) (by rw [hB.2.1]; first | exact Nat.le_of_ble_eq_true rfl | (dsimp only; omega)) (by rw [hB.2.1]; first | exact Nat.le_of_ble_eq_true rfl | (dsimp only; omega)) (by rw [hB.2.1]; first | exact Nat.le_of_ble_eq_true rfl | (dsimp only; omega)) (by rw [hB.2.1]; first | exact Nat.le_of_ble_eq_true rfl | (dsimp only; omega)) dX7_cell_2 (fun v h_2 n_2 p_2 => ?_)
  obtain ⟨zv, rfl, rfl, rfl, hz⟩ := p_2
  try dsimp only [Option.toList, List.cons_append, List.nil_append]
  rcases hz with ⟨rfl, hz⟩ | ⟨t, j, i, htl, rfl, hj, hrs, hi, rfl, P, S, ht, er⟩
  · try dsimp only [Option.toList, List.cons_append, List.nil_append]
    refine o_astore_nN hC dX7_cell_5 (Nat.le_of_ble_eq_true rfl) ?_
    refine o_aload_nN hC dX7_cell_6 (by rfl) ?_
    refine o_ifnonnullN hC dX7_cell_7 ?_
    exact o_throwS (cls := "java/lang/IndexOutOfBoundsException") (text := "no such tuple") (names := rl_exn) (ik := 145) (is := 147) (ic := 149) hC hl hB hS hn0 (Nat.le_refl _) (by decide +kernel) (by decide +kernel) kX7_145 zIOB (hS.2.2.2.2.1 (147, "no such tuple") (by decide)) tg1 tg2 tg3 dX7_cell_10 dX7_cell_13 dX7_cell_14 dX7_cell_16 dX7_cell_19 (by decide) (by decide) (by decide) (by decide) (by exact hB.2.2.2.2.1) ⟨rfl, fun ⟨t0, k0, a, b, _⟩ => hz ⟨t0, a, b⟩⟩
  · try dsimp only [Option.toList, List.cons_append, List.nil_append]
    obtain ⟨t1, ⟨tf, t2, t3⟩, t4, t5, t6, t7⟩ := id ht
    obtain ⟨e1, e2, e3⟩ := t5 i hi
    obtain ⟨w1, w2, w3, w4⟩ := id e3
    have ew : tls (S.2.1 i) (S.2.2.1 i) (S.2.2.2 i) = (ark res t).2 := congrArg Prod.snd er
    refine o_astore_n hC dX7_cell_5 (Nat.le_of_ble_eq_true rfl) ?_
    refine o_aload_n hC dX7_cell_6 (by rfl) ?_
    refine o_ifnonnull (tgt := 20) hC dX7_cell_7 (by decide) ?_
    refine o_iload_n hC dX7_cell_20 (by rfl) ?_
    refine o_if_lt (tgt := 39) hC dX7_cell_21 (by decide) (fun c_21 => ?_) (fun c_21 => ?_)
    · exact o_throwS (cls := "java/lang/IndexOutOfBoundsException") (text := "no such column") (names := rl_exn) (ik := 145) (is := 153) (ic := 149) hC hl hB hS hn0 (Nat.le_refl _) (by decide +kernel) (by decide +kernel) kX7_145 zIOB (hS.2.2.2.2.1 (153, "no such column") (by decide)) tg1 tg2 tg3 dX7_cell_39 dX7_cell_42 dX7_cell_43 dX7_cell_45 dX7_cell_48 (by decide) (by decide) (by decide) (by decide) (by exact hB.2.2.2.2.1) ⟨rfl, by first | exact (fun ⟨t0, k0, _, _, a, e⟩ => absurd c_21 (by rw [e]; exact nI_pos (by omega))) | exact (fun ⟨t0, k0, _, _, a, e⟩ => c_36 (by rw [e]; exact nI_lt a (by omega)))⟩
    · refine o_iload_n hC dX7_cell_24 (by rfl) ?_
      refine o_aload_n hC dX7_cell_25 (by rfl) ?_
      refine o_aload_n hC dX7_cell_26 (by rfl) ?_
      refine o_getf hC (fX7_49 hC rfl) dX7_cell_27 (by repeat (first | with_reducible assumption | (rw [rl_u_s]; done) | (rw [rl_u_s]; rfl) | rw [rl_u_n (by first | with_reducible assumption | omega)])) (by first | rfl | with_reducible assumption) ?_
      refine o_callV1 hC rl_BW_good rl_Ns_nw (by exact hB.2.2.2.2.1) YX7_tableOf IX7_tableOf VX7_tableOf (mX7_127 hC) (by rw [hB.1]; exact cg_X7_tableOf l D ids H0 _ _ x s c _ hc) (by exact c1) rfl rfl (Nat.le_of_ble_eq_true rfl) (by rw [hB.2.1]; first | exact Nat.le_of_ble_eq_true rfl | (dsimp only; omega)) (by rw [hB.2.1]; first | exact Nat.le_of_ble_eq_true rfl | (dsimp only; omega)) (by rw [hB.2.1]; first | exact Nat.le_of_ble_eq_true rfl | (dsimp only; omega)) (by rw [hB.2.1]; first | exact Nat.le_of_ble_eq_true rfl | (dsimp only; omega)) dX7_cell_30 (fun v h_30 n_30 p_30 => ?_)
      obtain ⟨z30, rfl, rfl, rfl, hz3⟩ := p_30
      have hz4 : z30 = c.1 j + 1 := by
        rcases hz3 with ⟨-, u⟩ | ⟨j2, u1, u2, u3⟩
        · exact absurd ⟨j, hj, hrs⟩ u
        · rw [u3, nI_inj2 (by omega) (by omega) (hrs.symm.trans u2)]
      subst hz4
      try dsimp only [Option.toList, List.cons_append, List.nil_append]
      refine o_getf hC (fX7_152 hC rfl) dX7_cell_33 (by repeat (first | with_reducible assumption | (rw [rl_u_s]; done) | (rw [rl_u_s]; rfl) | rw [rl_u_n (by first | with_reducible assumption | omega)])) (by first | rfl | with_reducible assumption) ?_
      refine o_icmp_lt (tgt := 49) hC dX7_cell_36 (by decide) (fun c_36 => ?_) (fun c_36 => ?_)
      · refine o_aload_n hC dX7_cell_49 (by rfl) ?_
        refine o_getf hC (fX7_155 hC rfl) dX7_cell_50 (by repeat (first | with_reducible assumption | (rw [rl_u_s]; done) | (rw [rl_u_s]; rfl) | rw [rl_u_n (by first | with_reducible assumption | omega)])) (by first | rfl | with_reducible assumption) ?_
        refine o_iload_n hC dX7_cell_53 (by rfl) ?_
        obtain ⟨k0, hk0, rfl⟩ := nI_of_lt (k := rw) (by omega) c_21 (fun w => absurd c_36 (Int32.not_lt.mpr w))
        refine o_ialdN (t0 := 0) (k := k0) hC rfl dX7_cell_54 e2 (by omega) (by decide) ?_
        refine o_iretX hC hB dX7_cell_55 (Nat.le_of_ble_eq_true rfl) (Nat.le_of_ble_eq_true rfl) ?_
        exact ⟨_, rfl, rfl, rfl, t, k0, htl, rfl, hk0, rfl, by rw [← show rcl (S.1 i) rw = (ark res t).1 from congrArg Prod.fst er]; exact (rsg_get hk0).symm⟩
      · exact o_throwS (cls := "java/lang/IndexOutOfBoundsException") (text := "no such column") (names := rl_exn) (ik := 145) (is := 153) (ic := 149) hC hl hB hS hn0 (Nat.le_refl _) (by decide +kernel) (by decide +kernel) kX7_145 zIOB (hS.2.2.2.2.1 (153, "no such column") (by decide)) tg1 tg2 tg3 dX7_cell_39 dX7_cell_42 dX7_cell_43 dX7_cell_45 dX7_cell_48 (by decide) (by decide) (by decide) (by decide) (by exact hB.2.2.2.2.1) ⟨rfl, by first | exact (fun ⟨t0, k0, _, _, a, e⟩ => absurd c_21 (by rw [e]; exact nI_pos (by omega))) | exact (fun ⟨t0, k0, _, _, a, e⟩ => c_36 (by rw [e]; exact nI_lt a (by omega)))⟩

set_option maxHeartbeats 4000000 in
set_option maxRecDepth 100000 in
theorem cd_X7_way (l : Launch) (D : va_G) (ids : Nat → ClassId) (H0 : Heap) (h : rl_H) (n : Nat) (x L : Nat) (s : cl_S) (c : cl_N) (res : List arow) (rw : Nat) (q kk w : Int32) (hl : l.stackTraces = false) (hk : cl_ok ids h n x L s c) (hd : cl_dp ids h s c) (hr : cl_rs s c res rw) : rl_MetX l (rl_e D ids H0) rl_BW rl_Ns yX7_way cX7_way 5 (some .long) ({ frames := 6, cells := 1, slots := 6, locals := 90 }) [.ref x, .int q, .int kk, .int w] h n (fun v h' n' => ∃ r : Int64, v = some (.long r) ∧ h' = h ∧ n' = n ∧ ∃ t0 k0 : Nat, t0 < res.length ∧ q = nI t0 ∧ k0 < (ark res t0).2.length ∧ kk = nI k0 ∧ ((w = nI 0 ∧ r = (tfn (ark res t0).2 k0).1) ∨ (w = nI 1 ∧ r = (tfn (ark res t0).2 k0).2))) (fun C => (C = "java/lang/IndexOutOfBoundsException" ∧ ¬ (∃ t0 k0 : Nat, t0 < res.length ∧ q = nI t0 ∧ k0 < (ark res t0).2.length ∧ kk = nI k0)) ∨ (C = "java/lang/IllegalArgumentException" ∧ (∃ t0 k0 : Nat, t0 < res.length ∧ q = nI t0 ∧ k0 < (ark res t0).2.length ∧ kk = nI k0) ∧ w ≠ nI 0 ∧ w ≠ nI 1)) := by
  have nc16 := cl_nc hk
  have hc := hk.1
  obtain ⟨c1, c2, c3, ⟨pn, c4, c5⟩, ⟨pt, c6, c7⟩, c8, c9, c10, c11, c12, c13, c14, c15⟩ := id hc
  have htb := hr.tb hd (fun k hk9 => cl_wd hk hk9)
  have hle : ∀ t0 : Nat, t0 < res.length → (ark res t0).2.length ≤ 12 := cl_rs.wl htb
  refine rl_MetX.of (by decide +kernel) (Nat.le_of_ble_eq_true rfl) ?_
  intro X hC hB hS hn0
  show rl_G X (rl_e D ids H0) 0 [some (.ref x), some (.int q), some (.int kk), some (.int w), none] [] h n 0 0
  refine o_aload_n hC dX7_way_0 (by rfl) ?_
  refine o_iload_n hC dX7_way_1 (by rfl) ?_
  refine o_callV1 hC rl_BW_good rl_Ns_nw (by exact hB.2.2.2.2.1) YX7_resultTuple IX7_resultTuple VX7_resultTuple (mX7_141 hC) (by rw [hB.1]; exact cd_X7_resultTuple l D ids H0 _ _ x L s c res rw _ hk hd hr) (by exact c1) rfl rfl (Nat.le_of_ble_eq_true rfl) (by rw [hB.2.1]; first | exact Nat.le_of_ble_eq_true rfl | (dsimp only; omega)) (by rw [hB.2.1]; first | exact Nat.le_of_ble_eq_true rfl | (dsimp only; omega)) (by rw [hB.2.1]; first | exact Nat.le_of_ble_eq_true rfl | (dsimp only; omega)) (by rw [hB.2.1]; first | exact Nat.le_of_ble_eq_true rfl | (dsimp only; omega)) dX7_way_2 (fun v h_2 n_2 p_2 => ?_)
  obtain ⟨zv, rfl, rfl, rfl, hz⟩ := p_2
  try dsimp only [Option.toList, List.cons_append, List.nil_append]
  rcases hz with ⟨rfl, hz⟩ | ⟨t, j, i, htl, rfl, hj, hrs, hi, rfl, P, S, ht, er⟩
  · try dsimp only [Option.toList, List.cons_append, List.nil_append]
    refine o_astoreN hC dX7_way_5 (Nat.le_of_ble_eq_true rfl) ?_
    refine o_aloadN hC dX7_way_7 (by rfl) ?_
    refine o_ifnonnullN hC dX7_way_9 ?_
    exact o_throwS (cls := "java/lang/IndexOutOfBoundsException") (text := "no such tuple") (names := rl_exn) (ik := 145) (is := 147) (ic := 149) hC hl hB hS hn0 (Nat.le_refl _) (by decide +kernel) (by decide +kernel) kX7_145 zIOB (hS.2.2.2.2.1 (147, "no such tuple") (by decide)) tg1 tg2 tg3 dX7_way_12 dX7_way_15 dX7_way_16 dX7_way_18 dX7_way_21 (by decide) (by decide) (by decide) (by decide) (by exact hB.2.2.2.2.1) (Or.inl ⟨rfl, fun ⟨t0, k0, a, b, _⟩ => hz ⟨t0, a, b⟩⟩)
  · try dsimp only [Option.toList, List.cons_append, List.nil_append]
    obtain ⟨t1, ⟨tf, t2, t3⟩, t4, t5, t6, t7⟩ := id ht
    obtain ⟨e1, e2, e3⟩ := t5 i hi
    obtain ⟨w1, w2, w3, w4⟩ := id e3
    have ew : tls (S.2.1 i) (S.2.2.1 i) (S.2.2.2 i) = (ark res t).2 := congrArg Prod.snd er
    refine o_astore hC dX7_way_5 (Nat.le_of_ble_eq_true rfl) ?_
    refine o_aload hC dX7_way_7 (by rfl) ?_
    refine o_ifnonnull (tgt := 22) hC dX7_way_9 (by decide) ?_
    refine o_iload_n hC dX7_way_22 (by rfl) ?_
    refine o_if_lt (tgt := 38) hC dX7_way_23 (by decide) (fun c_23 => ?_) (fun c_23 => ?_)
    · have el : (ark res t).2.length = S.2.2.2 i := by rw [← ew, tls_len]
      exact o_throwS (cls := "java/lang/IndexOutOfBoundsException") (text := "no such term") (names := rl_exn) (ik := 145) (is := 164) (ic := 149) hC hl hB hS hn0 (Nat.le_refl _) (by decide +kernel) (by decide +kernel) kX7_145 zIOB (hS.2.2.2.2.1 (164, "no such term") (by decide)) tg1 tg2 tg3 dX7_way_38 dX7_way_41 dX7_way_42 dX7_way_44 dX7_way_47 (by decide) (by decide) (by decide) (by decide) (by exact hB.2.2.2.2.1) (Or.inl ⟨rfl, by first | exact (fun ⟨t0, k0, a0, b0, a, e⟩ => absurd c_23 (by have := hle t0 a0; rw [e]; exact nI_pos (by omega))) | exact (fun ⟨t0, k0, a0, b0, a, e⟩ => c_35 (by have := nI_inj2 (by omega) (by omega) b0; subst this; rw [e]; exact nI_lt (by omega) (by omega)))⟩)
    · refine o_iload_n hC dX7_way_26 (by rfl) ?_
      refine o_aload hC dX7_way_27 (by rfl) ?_
      refine o_getf hC (fX7_160 hC rfl) dX7_way_29 (by repeat (first | with_reducible assumption | (rw [rl_u_s]; done) | (rw [rl_u_s]; rfl) | rw [rl_u_n (by first | with_reducible assumption | omega)])) (by first | rfl | with_reducible assumption) ?_
      refine o_getf hC (fX7_163 hC rfl) dX7_way_32 (by repeat (first | with_reducible assumption | (rw [rl_u_s]; done) | (rw [rl_u_s]; rfl) | rw [rl_u_n (by first | with_reducible assumption | omega)])) (by first | rfl | with_reducible assumption) ?_
      refine o_icmp_lt (tgt := 48) hC dX7_way_35 (by decide) (fun c_35 => ?_) (fun c_35 => ?_)
      · refine o_iload_n hC dX7_way_48 (by rfl) ?_
        refine o_if_eq (tgt := 67) hC dX7_way_49 (by decide) (fun c_49 => ?_) (fun c_49 => ?_)
        · refine o_iload_n hC dX7_way_67 (by rfl) ?_
          refine o_if_ne (tgt := 84) hC dX7_way_68 (by decide) (fun c_68 => ?_) (fun c_68 => ?_)
          · refine o_aload hC dX7_way_84 (by rfl) ?_
            refine o_getf hC (fX7_160 hC rfl) dX7_way_86 (by repeat (first | with_reducible assumption | (rw [rl_u_s]; done) | (rw [rl_u_s]; rfl) | rw [rl_u_n (by first | with_reducible assumption | omega)])) (by first | rfl | with_reducible assumption) ?_
            refine o_getf hC (fX7_175 hC rfl) dX7_way_89 (by repeat (first | with_reducible assumption | (rw [rl_u_s]; done) | (rw [rl_u_s]; rfl) | rw [rl_u_n (by first | with_reducible assumption | omega)])) (by first | rfl | with_reducible assumption) ?_
            refine o_iload_n hC dX7_way_92 (by rfl) ?_
            have el : (ark res t).2.length = S.2.2.2 i := by rw [← ew, tls_len]
            obtain ⟨k0, hk0, rfl⟩ := nI_of_lt (k := S.2.2.2 i) (by omega) c_23 (fun w => absurd c_35 (Int32.not_lt.mpr w))
            refine o_laldN (t0 := 1) (k := k0) hC rfl dX7_way_93 w3 (by omega) (by decide) ?_
            refine o_lretX hC hB dX7_way_94 (Nat.le_of_ble_eq_true rfl) (Nat.le_of_ble_eq_true rfl) ?_
            first
            | exact ⟨_, rfl, rfl, rfl, t, k0, htl, rfl, by omega, rfl, Or.inl ⟨c_68, by rw [← ew, tfn_tls hk0]⟩⟩
            | exact ⟨_, rfl, rfl, rfl, t, k0, htl, rfl, by omega, rfl, Or.inr ⟨c_54, by rw [← ew, tfn_tls hk0]⟩⟩
            | exact absurd c_49 c_68
          · refine o_aload hC dX7_way_71 (by rfl) ?_
            refine o_getf hC (fX7_160 hC rfl) dX7_way_73 (by repeat (first | with_reducible assumption | (rw [rl_u_s]; done) | (rw [rl_u_s]; rfl) | rw [rl_u_n (by first | with_reducible assumption | omega)])) (by first | rfl | with_reducible assumption) ?_
            refine o_getf hC (fX7_171 hC rfl) dX7_way_76 (by repeat (first | with_reducible assumption | (rw [rl_u_s]; done) | (rw [rl_u_s]; rfl) | rw [rl_u_n (by first | with_reducible assumption | omega)])) (by first | rfl | with_reducible assumption) ?_
            refine o_iload_n hC dX7_way_79 (by rfl) ?_
            have el : (ark res t).2.length = S.2.2.2 i := by rw [← ew, tls_len]
            obtain ⟨k0, hk0, rfl⟩ := nI_of_lt (k := S.2.2.2 i) (by omega) c_23 (fun w => absurd c_35 (Int32.not_lt.mpr w))
            refine o_laldN (t0 := 1) (k := k0) hC rfl dX7_way_80 w2 (by omega) (by decide) ?_
            refine o_goto (tgt := 94) hC dX7_way_81 (by decide) ?_
            refine o_lretX hC hB dX7_way_94 (Nat.le_of_ble_eq_true rfl) (Nat.le_of_ble_eq_true rfl) ?_
            first
            | exact ⟨_, rfl, rfl, rfl, t, k0, htl, rfl, by omega, rfl, Or.inl ⟨c_68, by rw [← ew, tfn_tls hk0]⟩⟩
            | exact ⟨_, rfl, rfl, rfl, t, k0, htl, rfl, by omega, rfl, Or.inr ⟨c_54, by rw [← ew, tfn_tls hk0]⟩⟩
            | exact absurd c_49 c_68
        · refine o_iload_n hC dX7_way_52 (by rfl) ?_
          refine o_iconst (v := nI 1) hC dX7_way_53 (by decide +kernel) ?_
          refine o_icmp_eq (tgt := 67) hC dX7_way_54 (by decide) (fun c_54 => ?_) (fun c_54 => ?_)
          · refine o_iload_n hC dX7_way_67 (by rfl) ?_
            refine o_if_ne (tgt := 84) hC dX7_way_68 (by decide) (fun c_68 => ?_) (fun c_68 => ?_)
            · refine o_aload hC dX7_way_84 (by rfl) ?_
              refine o_getf hC (fX7_160 hC rfl) dX7_way_86 (by repeat (first | with_reducible assumption | (rw [rl_u_s]; done) | (rw [rl_u_s]; rfl) | rw [rl_u_n (by first | with_reducible assumption | omega)])) (by first | rfl | with_reducible assumption) ?_
              refine o_getf hC (fX7_175 hC rfl) dX7_way_89 (by repeat (first | with_reducible assumption | (rw [rl_u_s]; done) | (rw [rl_u_s]; rfl) | rw [rl_u_n (by first | with_reducible assumption | omega)])) (by first | rfl | with_reducible assumption) ?_
              refine o_iload_n hC dX7_way_92 (by rfl) ?_
              have el : (ark res t).2.length = S.2.2.2 i := by rw [← ew, tls_len]
              obtain ⟨k0, hk0, rfl⟩ := nI_of_lt (k := S.2.2.2 i) (by omega) c_23 (fun w => absurd c_35 (Int32.not_lt.mpr w))
              refine o_laldN (t0 := 1) (k := k0) hC rfl dX7_way_93 w3 (by omega) (by decide) ?_
              refine o_lretX hC hB dX7_way_94 (Nat.le_of_ble_eq_true rfl) (Nat.le_of_ble_eq_true rfl) ?_
              first
              | exact ⟨_, rfl, rfl, rfl, t, k0, htl, rfl, by omega, rfl, Or.inl ⟨c_68, by rw [← ew, tfn_tls hk0]⟩⟩
              | exact ⟨_, rfl, rfl, rfl, t, k0, htl, rfl, by omega, rfl, Or.inr ⟨c_54, by rw [← ew, tfn_tls hk0]⟩⟩
              | exact absurd c_49 c_68
            · refine o_aload hC dX7_way_71 (by rfl) ?_
              refine o_getf hC (fX7_160 hC rfl) dX7_way_73 (by repeat (first | with_reducible assumption | (rw [rl_u_s]; done) | (rw [rl_u_s]; rfl) | rw [rl_u_n (by first | with_reducible assumption | omega)])) (by first | rfl | with_reducible assumption) ?_
              refine o_getf hC (fX7_171 hC rfl) dX7_way_76 (by repeat (first | with_reducible assumption | (rw [rl_u_s]; done) | (rw [rl_u_s]; rfl) | rw [rl_u_n (by first | with_reducible assumption | omega)])) (by first | rfl | with_reducible assumption) ?_
              refine o_iload_n hC dX7_way_79 (by rfl) ?_
              have el : (ark res t).2.length = S.2.2.2 i := by rw [← ew, tls_len]
              obtain ⟨k0, hk0, rfl⟩ := nI_of_lt (k := S.2.2.2 i) (by omega) c_23 (fun w => absurd c_35 (Int32.not_lt.mpr w))
              refine o_laldN (t0 := 1) (k := k0) hC rfl dX7_way_80 w2 (by omega) (by decide) ?_
              refine o_goto (tgt := 94) hC dX7_way_81 (by decide) ?_
              refine o_lretX hC hB dX7_way_94 (Nat.le_of_ble_eq_true rfl) (Nat.le_of_ble_eq_true rfl) ?_
              first
              | exact ⟨_, rfl, rfl, rfl, t, k0, htl, rfl, by omega, rfl, Or.inl ⟨c_68, by rw [← ew, tfn_tls hk0]⟩⟩
              | exact ⟨_, rfl, rfl, rfl, t, k0, htl, rfl, by omega, rfl, Or.inr ⟨c_54, by rw [← ew, tfn_tls hk0]⟩⟩
              | exact absurd c_49 c_68
          · have el : (ark res t).2.length = S.2.2.2 i := by rw [← ew, tls_len]
            have hok : (∃ t0 k0 : Nat, t0 < res.length ∧ nI t = nI t0 ∧ k0 < (ark res t0).2.length ∧ kk = nI k0) := by
              obtain ⟨k0, hk0, e9⟩ := nI_of_lt (k := S.2.2.2 i) (by omega) c_23 (fun w => absurd c_35 (Int32.not_lt.mpr w))
              exact ⟨t, k0, htl, rfl, by omega, e9⟩
            exact o_throwS (cls := "java/lang/IllegalArgumentException") (text := "what is 0 or 1") (names := rl_exn) (ik := 166) (is := 168) (ic := 170) hC hl hB hS hn0 (Nat.le_refl _) (by decide +kernel) (by decide +kernel) kX7_166 zIAE (hS.2.2.2.2.1 (168, "what is 0 or 1") (by decide)) th1 th2 th3 dX7_way_57 dX7_way_60 dX7_way_61 dX7_way_63 dX7_way_66 (by decide) (by decide) (by decide) (by decide) (by exact hB.2.2.2.2.1) (Or.inr ⟨rfl, hok, c_49, c_54⟩)
      · have el : (ark res t).2.length = S.2.2.2 i := by rw [← ew, tls_len]
        exact o_throwS (cls := "java/lang/IndexOutOfBoundsException") (text := "no such term") (names := rl_exn) (ik := 145) (is := 164) (ic := 149) hC hl hB hS hn0 (Nat.le_refl _) (by decide +kernel) (by decide +kernel) kX7_145 zIOB (hS.2.2.2.2.1 (164, "no such term") (by decide)) tg1 tg2 tg3 dX7_way_38 dX7_way_41 dX7_way_42 dX7_way_44 dX7_way_47 (by decide) (by decide) (by decide) (by decide) (by exact hB.2.2.2.2.1) (Or.inl ⟨rfl, by first | exact (fun ⟨t0, k0, a0, b0, a, e⟩ => absurd c_23 (by have := hle t0 a0; rw [e]; exact nI_pos (by omega))) | exact (fun ⟨t0, k0, a0, b0, a, e⟩ => c_35 (by have := nI_inj2 (by omega) (by omega) b0; subst this; rw [e]; exact nI_lt (by omega) (by omega)))⟩)

set_option maxHeartbeats 4000000 in
set_option maxRecDepth 100000 in
theorem cd_L_cell (l : Launch) (D : va_G) (ids : Nat → ClassId) (H0 : Heap) (h : rl_H) (n : Nat) (x ou L : Nat) (s : cl_S) (c : cl_N) (res : List arow) (rw : Nat) (of : Nat → Int64) (q kk : Int32) (hl : l.stackTraces = false) (hk : cl_ok ids h n x L s c) (hd : cl_dp ids h s c) (hr : cl_rs s c res rw) (hou : h ou = some (.inl (ids 1, 1, .inr (.inl of)))) : rl_MetW l (rl_e D ids H0) rl_BW rl_Ns yL_cell cL_cell 5 (some .int) [(0, 10, 13, 13)] ({ frames := 7, cells := 1, slots := 6, locals := 113 }) [.ref x, .int q, .int kk, .ref ou] h n (fun v h' n' => ∃ r : Int32, v = some (.int r) ∧ n ≤ n' ∧ (∀ q : Nat, q ≠ ou → h' q = h q) ∧ (∃ f : Nat → Int64, h' ou = some (.inl (ids 1, 1, .inr (.inl f))) ∧ ((¬ (∃ t0 k0 : Nat, t0 < res.length ∧ q = nI t0 ∧ k0 < rw ∧ kk = nI k0) ∧ r = nI 1) ∨ (r = nI 0 ∧ ∃ cv : Int32, f 0 = cv.toInt64 ∧ ∃ t0 k0 : Nat, t0 < res.length ∧ q = nI t0 ∧ k0 < rw ∧ kk = nI k0 ∧ cv = (ark res t0).1.getD k0 0)))) := by
  have hc := hk.1
  refine rl_MetW.of (by decide +kernel) (Nat.le_of_ble_eq_true rfl) ?_
  intro X hC hB hS ht0
  have ht : X.2.1.2.2.2.2.exceptionTable.toList = { startPc := 0, endPc := 10, handlerPc := 13, catchType := 13 } :: [] := ht0
  show rl_G X (rl_e D ids H0) 0 [some (.ref x), some (.int q), some (.int kk), some (.ref ou), none] [] h n 0 0
  refine o_aload_n hC dL_cell_0 (by rfl) ?_
  refine o_iconst (v := nI 0) hC dL_cell_1 (by decide +kernel) ?_
  refine o_aload_n hC dL_cell_2 (by rfl) ?_
  refine o_iload_n hC dL_cell_3 (by rfl) ?_
  refine o_iload_n hC dL_cell_4 (by rfl) ?_
  refine o_callVXp (As := [.int q, .int kk]) (rest := [.int (nI 0), .ref ou]) (x := { startPc := 0, endPc := 10, handlerPc := 13, catchType := 13 }) (suf := []) (nm := "java/lang/IndexOutOfBoundsException") hC rl_BW_good rl_Ns_nw hS (by exact hB.2.2.2.2.2) YX7_cell IX7_cell VX7_cell lL_xcell (by rw [hB.1]; exact cd_X7_cell l D ids H0 h n x L s c res rw q kk hl hk hd hr) hc.1 rfl rfl (Nat.le_of_ble_eq_true rfl) (by rw [hB.2.1]; first | exact Nat.le_of_ble_eq_true rfl | (dsimp only; omega)) (by rw [hB.2.1]; first | exact Nat.le_of_ble_eq_true rfl | (dsimp only; omega)) (by rw [hB.2.1]; first | exact Nat.le_of_ble_eq_true rfl | (dsimp only; omega)) (by rw [hB.2.1]; first | exact Nat.le_of_ble_eq_true rfl | (dsimp only; omega)) dL_cell_5 ht (by decide) (by decide) kL_13 (fun F hF => by rw [hF.1]; exact xIOB) (fun q9 n2 hn2 hp => ?_) (fun v h2 n2 p => ?_)
  · have hnok : ¬ (∃ t0 k0 : Nat, t0 < res.length ∧ q = nI t0 ∧ k0 < rw ∧ kk = nI k0) := by
      obtain ⟨F, hF⟩ := hp
      exact hF.2
    refine o_astore hC dL_cell_13 (Nat.le_of_ble_eq_true rfl) ?_
    refine o_iconst (v := nI 1) hC dL_cell_15 (by decide +kernel) ?_
    refine o_iret hC hB dL_cell_16 (Nat.le_of_ble_eq_true rfl) (Nat.le_of_ble_eq_true rfl) ?_
    exact ⟨_, rfl, hn2, fun _ _ => rfl, _, hou, Or.inl ⟨hnok, rfl⟩⟩
  · obtain ⟨r, rfl, rfl, rfl, t0, k0, z1, z2, z3, z4, z5⟩ := p
    try dsimp only [Option.toList, List.cons_append, List.nil_append]
    refine o_i2l hC dL_cell_8 ?_
    refine o_lastN (t0 := 1) (k := 0) hC rfl dL_cell_9 hou (by decide) (by decide) ?_
    refine o_goto (tgt := 17) hC dL_cell_10 (by decide) ?_
    refine o_iconst (v := nI 0) hC dL_cell_17 (by decide +kernel) ?_
    refine o_iret hC hB dL_cell_18 (Nat.le_of_ble_eq_true rfl) (Nat.le_of_ble_eq_true rfl) ?_
    exact ⟨_, rfl, Nat.le_refl _, fun q hq => rl_u_n hq, _, rl_u_s, Or.inr ⟨rfl, r, if_pos rfl, t0, k0, z1, z2, z3, z4, z5⟩⟩

set_option maxHeartbeats 4000000 in
set_option maxRecDepth 100000 in
theorem cd_L_way (l : Launch) (D : va_G) (ids : Nat → ClassId) (H0 : Heap) (h : rl_H) (n : Nat) (x ou L : Nat) (s : cl_S) (c : cl_N) (res : List arow) (rw : Nat) (of : Nat → Int64) (q kk w : Int32) (hl : l.stackTraces = false) (hk : cl_ok ids h n x L s c) (hd : cl_dp ids h s c) (hr : cl_rs s c res rw) (hou : h ou = some (.inl (ids 1, 1, .inr (.inl of)))) : rl_MetW l (rl_e D ids H0) rl_BW rl_Ns yL_way cL_way 6 (some .int) [(0, 11, 14, 13), (0, 11, 18, 19)] ({ frames := 7, cells := 1, slots := 6, locals := 114 }) [.ref x, .int q, .int kk, .int w, .ref ou] h n (fun v h' n' => ∃ r : Int32, v = some (.int r) ∧ n ≤ n' ∧ (∀ q : Nat, q ≠ ou → h' q = h q) ∧ (∃ f : Nat → Int64, h' ou = some (.inl (ids 1, 1, .inr (.inl f))) ∧ ((¬ (∃ t0 k0 : Nat, t0 < res.length ∧ q = nI t0 ∧ k0 < (ark res t0).2.length ∧ kk = nI k0) ∧ r = nI 1) ∨ ((∃ t0 k0 : Nat, t0 < res.length ∧ q = nI t0 ∧ k0 < (ark res t0).2.length ∧ kk = nI k0) ∧ w ≠ nI 0 ∧ w ≠ nI 1 ∧ r = nI 2) ∨ (r = nI 0 ∧ ∃ t0 k0 : Nat, t0 < res.length ∧ q = nI t0 ∧ k0 < (ark res t0).2.length ∧ kk = nI k0 ∧ ((w = nI 0 ∧ f 0 = (tfn (ark res t0).2 k0).1) ∨ (w = nI 1 ∧ f 0 = (tfn (ark res t0).2 k0).2)))))) := by
  have hc := hk.1
  refine rl_MetW.of (by decide +kernel) (Nat.le_of_ble_eq_true rfl) ?_
  intro X hC hB hS ht0
  have ht : X.2.1.2.2.2.2.exceptionTable.toList = { startPc := 0, endPc := 11, handlerPc := 14, catchType := 13 } :: [{ startPc := 0, endPc := 11, handlerPc := 18, catchType := 19 }] := ht0
  show rl_G X (rl_e D ids H0) 0 [some (.ref x), some (.int q), some (.int kk), some (.int w), some (.ref ou), none] [] h n 0 0
  refine o_aload hC dL_way_0 (by rfl) ?_
  refine o_iconst (v := nI 0) hC dL_way_2 (by decide +kernel) ?_
  refine o_aload_n hC dL_way_3 (by rfl) ?_
  refine o_iload_n hC dL_way_4 (by rfl) ?_
  refine o_iload_n hC dL_way_5 (by rfl) ?_
  refine o_iload_n hC dL_way_6 (by rfl) ?_
  refine o_callVYp (P1 := fun F => F = "java/lang/IndexOutOfBoundsException") (As := [.int q, .int kk, .int w]) (rest := [.int (nI 0), .ref ou]) (x := { startPc := 0, endPc := 11, handlerPc := 14, catchType := 13 }) (x2 := { startPc := 0, endPc := 11, handlerPc := 18, catchType := 19 }) (suf := []) (nm := "java/lang/IndexOutOfBoundsException") (nm2 := "java/lang/IllegalArgumentException") hC rl_BW_good rl_Ns_nw hS (by exact hB.2.2.2.2.2) YX7_way IX7_way VX7_way lL_xway (by rw [hB.1]; exact cd_X7_way l D ids H0 h n x L s c res rw q kk w hl hk hd hr) hc.1 rfl rfl (Nat.le_of_ble_eq_true rfl) (by rw [hB.2.1]; first | exact Nat.le_of_ble_eq_true rfl | (dsimp only; omega)) (by rw [hB.2.1]; first | exact Nat.le_of_ble_eq_true rfl | (dsimp only; omega)) (by rw [hB.2.1]; first | exact Nat.le_of_ble_eq_true rfl | (dsimp only; omega)) (by rw [hB.2.1]; first | exact Nat.le_of_ble_eq_true rfl | (dsimp only; omega)) dL_way_7 ht (by decide) (by decide) kL_13 (by decide) (by decide) kL_19 (fun F hF => by (rcases hF with ⟨e, -⟩ | ⟨e, -⟩); (exact Or.inl ⟨e, by rw [e]; exact xIOB⟩); (exact Or.inr ⟨⟨e, rfl⟩, by rw [e]; exact xIAE⟩)) (fun q9 n2 hn2 hp => ?_) (fun q9 n2 hn2 hp => ?_) (fun v h2 n2 p => ?_)
  · have hnok : ¬ (∃ t0 k0 : Nat, t0 < res.length ∧ q = nI t0 ∧ k0 < (ark res t0).2.length ∧ kk = nI k0) := by
      obtain ⟨F, hF, e⟩ := hp
      rcases hF with ⟨-, u⟩ | ⟨u, -⟩
      · exact u
      · exact absurd (e.symm.trans u) (by decide +kernel)
    refine o_astore hC dL_way_14 (Nat.le_of_ble_eq_true rfl) ?_
    refine o_iconst (v := nI 1) hC dL_way_16 (by decide +kernel) ?_
    refine o_iret hC hB dL_way_17 (Nat.le_of_ble_eq_true rfl) (Nat.le_of_ble_eq_true rfl) ?_
    exact ⟨_, rfl, hn2, fun _ _ => rfl, _, hou, Or.inl ⟨hnok, rfl⟩⟩
  · have hok2 : (∃ t0 k0 : Nat, t0 < res.length ∧ q = nI t0 ∧ k0 < (ark res t0).2.length ∧ kk = nI k0) ∧ w ≠ nI 0 ∧ w ≠ nI 1 := by
      rcases hp with ⟨u, -⟩ | ⟨-, u⟩
      · exact absurd u (by decide +kernel)
      · exact u
    refine o_astore hC dL_way_18 (Nat.le_of_ble_eq_true rfl) ?_
    refine o_iconst (v := nI 2) hC dL_way_20 (by decide +kernel) ?_
    refine o_iret hC hB dL_way_21 (Nat.le_of_ble_eq_true rfl) (Nat.le_of_ble_eq_true rfl) ?_
    exact ⟨_, rfl, hn2, fun _ _ => rfl, _, hou, Or.inr (Or.inl ⟨hok2.1, hok2.2.1, hok2.2.2, rfl⟩)⟩
  · obtain ⟨r, rfl, rfl, rfl, t0, k0, z1, z2, z3, z4, z5⟩ := p
    try dsimp only [Option.toList, List.cons_append, List.nil_append]
    refine o_lastN (t0 := 1) (k := 0) hC rfl dL_way_10 hou (by decide) (by decide) ?_
    refine o_goto (tgt := 22) hC dL_way_11 (by decide) ?_
    refine o_iconst (v := nI 0) hC dL_way_22 (by decide +kernel) ?_
    refine o_iret hC hB dL_way_23 (Nat.le_of_ble_eq_true rfl) (Nat.le_of_ble_eq_true rfl) ?_
    exact ⟨_, rfl, Nat.le_refl _, fun q hq => rl_u_n hq, _, rl_u_s, Or.inr (Or.inr ⟨rfl, t0, k0, z1, z2, z3, z4, by rw [show vp_updL of 0 r 0 = r from if_pos rfl]; exact z5⟩)⟩
