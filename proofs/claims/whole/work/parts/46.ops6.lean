/-! Operators by shapes: turnGroup, makeWaysOfSet, foldedNumber -/
section RLM
variable {X : rl_X} {E : rl_E} {cc : ByteArray} {own : String} {Ts Ns : List Cond} {pc : Nat} {lo : List (Option Value)} {st : List Value} {h : rl_H} {n ce sl : Nat}
theorem o_mmin (hC : rl_C X E cc own Ts Ns) (hml : X.2.1.2.2.2.2.maxLocals = lo.length) {idx : Nat} (w1 : Cond.methodLink own idx Lib.Math.min.name ∈ Ts) (w2 : Cond.static Lib.Math.min.name ∈ Ts) (w3 : Cond.initialized "java/lang/Math" ∈ Ts) (w4 : Cond.code Lib.Math.min.name Lib.Math.min.code 2 (some .int) ∈ Ts) (hr1 : 1 ≤ X.1.2.2.2.1.frames) (hr2 : (st.map fun v => v.category).sum + 13 ≤ X.1.2.2.2.1.locals) (hr3 : ce ≤ X.1.2.2.2.1.cells) (hr4 : sl ≤ X.1.2.2.2.1.slots) {x y : Int32} (hd : decode cc pc = .ok (.invokestatic idx, 3)) (kk : rl_G X E (pc + 3) lo (.int (if y < x then y else x) :: st) h n ce sl) : rl_G X E pc lo (.int y :: .int x :: st) h n ce sl :=
  fun H locs ls a b c => va_mmin hC.1 hC.2.1 (hml.trans c.1.symm) hC.2.2.1 (hC.2.2.2.1 _ w1) (hC.2.2.2.1 _ w2) (hC.2.2.2.1 _ w3) (hC.2.2.2.1 _ w4) hr1 hr2 hr3 hr4 hd (kk H locs ls a b c)
theorem o_mmax (hC : rl_C X E cc own Ts Ns) (hml : X.2.1.2.2.2.2.maxLocals = lo.length) {idx : Nat} (w1 : Cond.methodLink own idx Lib.Math.max.name ∈ Ts) (w2 : Cond.static Lib.Math.max.name ∈ Ts) (w3 : Cond.initialized "java/lang/Math" ∈ Ts) (w4 : Cond.code Lib.Math.max.name Lib.Math.max.code 2 (some .int) ∈ Ts) (hr1 : 1 ≤ X.1.2.2.2.1.frames) (hr2 : (st.map fun v => v.category).sum + 13 ≤ X.1.2.2.2.1.locals) (hr3 : ce ≤ X.1.2.2.2.1.cells) (hr4 : sl ≤ X.1.2.2.2.1.slots) {x y : Int32} (hd : decode cc pc = .ok (.invokestatic idx, 3)) (kk : rl_G X E (pc + 3) lo (.int (if x < y then y else x) :: st) h n ce sl) : rl_G X E pc lo (.int y :: .int x :: st) h n ce sl :=
  fun H locs ls a b c => va_mmax hC.1 hC.2.1 (hml.trans c.1.symm) hC.2.2.1 (hC.2.2.2.1 _ w1) (hC.2.2.2.1 _ w2) (hC.2.2.2.1 _ w3) (hC.2.2.2.1 _ w4) hr1 hr2 hr3 hr4 hd (kk H locs ls a b c)
end RLM

set_option maxHeartbeats 4000000 in
set_option maxRecDepth 100000 in
theorem ct_X2_turnGroup (l : Launch) (D : va_G) (ids : Nat → ClassId) (H0 : Heap) (h : rl_H) (n : Nat) (o so a1 sz1 wd1 k : Nat) (gp : Nat → Option Nat) (P1 : Nat → Nat) (S1 : tb_S) (ho : op_sh ids h o so gp) (hi : tb_at ids h a1 sz1 wd1 P1 S1) (hoi : o + 22 ≤ a1 ∨ a1 + 402 ≤ o) (hk4 : k ≤ 4) (hg : ∀ j, j < k → ∃ i : Nat, i < 80 ∧ gp j = some (a1 + 2 + 5 * i)) : rl_Met l (rl_e D ids H0) rl_BW rl_Ns yX2_turnGroup cX2_turnGroup 3 (some .boolean) ({ frames := 3, cells := 0, slots := 0, locals := 81 }) [.ref o, .int (nI k)] h n (fun v h' n' => ∃ x : Int32, v = some (.int x) ∧ n' = n ∧ (x = nI 0 ∨ x = nI 1) ∧ op_sh ids h' o so gp ∧ rl_fr h h' o (o + 22)) := by
  refine rl_Met.of (by decide +kernel) (Nat.le_of_ble_eq_true rfl) ?_
  intro X hC hB
  have loop : ∀ (m j : Nat) (h1 : rl_H), j + m = k → op_sh ids h1 o so gp → rl_fr h h1 o (o + 22) → rl_G X (rl_e D ids H0) 2 [some (.ref o), some (.int (nI k)), some (.int (nI j))] [] h1 n 0 0 := by
    intro m
    induction m with
    | zero =>
      intro j h1 hm ho1 hf
      refine o_iload_n hC dX2_turnGroup_2 (by rfl) ?_
      refine o_iload_n hC dX2_turnGroup_3 (by rfl) ?_
      refine o_icmp_ge (tgt := 45) hC dX2_turnGroup_4 (by decide) (fun c_4 => ?_) (fun c_4 => ?_)
      · refine o_iconst (v := nI 1) hC dX2_turnGroup_45 (by decide +kernel) ?_
        refine o_zret hC hB dX2_turnGroup_46 (by first | rfl | decide +kernel) (Nat.le_of_ble_eq_true rfl) (Nat.le_of_ble_eq_true rfl) ?_
        exact ⟨_, rfl, rfl, Or.inr rfl, ho1, hf⟩
      · exact absurd (nI_le (by omega) (by omega)) c_4
    | succ m ih =>
      intro j h1 hm ho1 hf
      obtain ⟨o0, ⟨ds, od⟩, ⟨mf, mg, mk, om⟩, ⟨tp, o7, o7b⟩, o8, ⟨kc, o9⟩, ot⟩ := id ho1
      obtain ⟨i, hi80, hgj⟩ := hg j (by omega)
      obtain ⟨e1, e2, e3⟩ := (hi.eqv (h' := h1) (fun q q1 q2 => hf q (by omega))).2.2.2.1 i hi80
      obtain ⟨wf, wg, wk, tw⟩ := ot j (by omega)
      refine o_iload_n hC dX2_turnGroup_2 (by rfl) ?_
      refine o_iload_n hC dX2_turnGroup_3 (by rfl) ?_
      refine o_icmp_ge (tgt := 45) hC dX2_turnGroup_4 (by decide) (fun c_4 => ?_) (fun c_4 => ?_)
      · refine o_iconst (v := nI 1) hC dX2_turnGroup_45 (by decide +kernel) ?_
        refine o_zret hC hB dX2_turnGroup_46 (by first | rfl | decide +kernel) (Nat.le_of_ble_eq_true rfl) (Nat.le_of_ble_eq_true rfl) ?_
        exact ⟨_, rfl, rfl, Or.inr rfl, ho1, hf⟩
      · refine o_iload_n hC dX2_turnGroup_7 (by rfl) ?_
        refine o_iconst (v := nI 1) hC dX2_turnGroup_8 (by decide +kernel) ?_
        refine o_icmp_le (tgt := 45) hC dX2_turnGroup_9 (by decide) (fun c_9 => ?_) (fun c_9 => ?_)
        · refine o_iconst (v := nI 1) hC dX2_turnGroup_45 (by decide +kernel) ?_
          refine o_zret hC hB dX2_turnGroup_46 (by first | rfl | decide +kernel) (Nat.le_of_ble_eq_true rfl) (Nat.le_of_ble_eq_true rfl) ?_
          exact ⟨_, rfl, rfl, Or.inr rfl, ho1, hf⟩
        · refine o_aload_n hC dX2_turnGroup_12 (by rfl) ?_
          refine o_getf hC (fX2_12 hC rfl) dX2_turnGroup_13 (by repeat (first | with_reducible assumption | (rw [rl_u_s]; done) | (rw [rl_u_s]; rfl) | rw [rl_u_n (by first | with_reducible assumption | omega)])) (by first | rfl | with_reducible assumption) ?_
          refine o_aload_n hC dX2_turnGroup_16 (by rfl) ?_
          refine o_getf hC (fX2_31 hC rfl) dX2_turnGroup_17 (by repeat (first | with_reducible assumption | (rw [rl_u_s]; done) | (rw [rl_u_s]; rfl) | rw [rl_u_n (by first | with_reducible assumption | omega)])) (by first | rfl | with_reducible assumption) ?_
          refine o_iload_n hC dX2_turnGroup_20 (by rfl) ?_
          refine o_aaldN (t0 := 3) hC rfl dX2_turnGroup_21 o8 (by omega) (by decide) ?_
          rw [hgj]
          show rl_G X _ _ _ (.ref _ :: _) _ _ _ _
          refine o_getf hC (fX2_116 hC rfl) dX2_turnGroup_22 (by repeat (first | with_reducible assumption | (rw [rl_u_s]; done) | (rw [rl_u_s]; rfl) | rw [rl_u_n (by first | with_reducible assumption | omega)])) (by first | rfl | with_reducible assumption) ?_
          refine o_aload_n hC dX2_turnGroup_25 (by rfl) ?_
          refine o_getf hC (fX2_25 hC rfl) dX2_turnGroup_26 (by repeat (first | with_reducible assumption | (rw [rl_u_s]; done) | (rw [rl_u_s]; rfl) | rw [rl_u_n (by first | with_reducible assumption | omega)])) (by first | rfl | with_reducible assumption) ?_
          refine o_iload_n hC dX2_turnGroup_29 (by rfl) ?_
          refine o_aaldN (t0 := 4) hC rfl dX2_turnGroup_30 o7 (by omega) (by decide) ?_
          rw [o7b _ (by omega)]
          show rl_G X _ _ _ (.ref _ :: _) _ _ _ _
          refine o_callV2 hC rl_BW_good rl_Ns_nw (by exact hB.2.2.2.2.2) YX0_not IX0_not VX0_not (mX2_151 hC) (by rw [hB.1]; exact ct_X0_not l D ids H0 _ _ (o + 1) (a1 + 2 + 5 * i + 2) (o + 10 + 3 * j) _ _ ds _ _ _ _ od e3 tw (by omega) (by omega) (by omega)) (by exact od.1) rfl rfl (Nat.le_of_ble_eq_true rfl) (by rw [hB.2.1]; first | exact Nat.le_of_ble_eq_true rfl | (dsimp only; omega)) (by rw [hB.2.1]; first | exact Nat.le_of_ble_eq_true rfl | (dsimp only; omega)) (by rw [hB.2.1]; first | exact Nat.le_of_ble_eq_true rfl | (dsimp only; omega)) (by rw [hB.2.1]; first | exact Nat.le_of_ble_eq_true rfl | (dsimp only; omega)) dX2_turnGroup_31 (fun v h_31 n_31 p_31 => ?_)
          obtain ⟨x, rfl, rfl, -, r1, r2, r3⟩ := p_31
          have ho2 : op_sh ids h_31 o so gp := ho1.tu (by omega) ⟨_, r1⟩ ⟨_, _, _, r2⟩ (fun q q1 q2 => r3 q (by omega) (by omega))
          have hf2 : rl_fr h h_31 o (o + 22) := fun q hq => (r3 q (by omega) (by omega)).trans (hf q hq)
          try dsimp only [Option.toList, List.cons_append, List.nil_append]
          refine o_if_ne (tgt := 39) hC dX2_turnGroup_34 (by decide) (fun c_34 => ?_) (fun c_34 => ?_)
          · refine o_iinc hC dX2_turnGroup_39 (by rfl) (rl_inc _) (Nat.le_of_ble_eq_true rfl) ?_
            refine o_goto (tgt := 2) hC dX2_turnGroup_42 (by decide) ?_
            exact ih (j + 1) _ (by omega) ho2 hf2
          · refine o_iconst (v := nI 0) hC dX2_turnGroup_37 (by decide +kernel) ?_
            refine o_zret hC hB dX2_turnGroup_38 (by first | rfl | decide +kernel) (Nat.le_of_ble_eq_true rfl) (Nat.le_of_ble_eq_true rfl) ?_
            exact ⟨_, rfl, rfl, Or.inl rfl, ho2, hf2⟩
  show rl_G X (rl_e D ids H0) 0 [some (.ref o), some (.int (nI k)), none] [] h n 0 0
  refine o_iconst (v := nI 0) hC dX2_turnGroup_0 (by decide +kernel) ?_
  refine o_istore_n hC dX2_turnGroup_1 (Nat.le_of_ble_eq_true rfl) ?_
  exact loop k 0 h (by omega) ho rl_fr.rf

set_option maxHeartbeats 4000000 in
set_option maxRecDepth 100000 in
theorem ct_X2_makeWaysOfSet (l : Launch) (D : va_G) (ids : Nat → ClassId) (H0 : Heap) (h : rl_H) (n : Nat) (o so a1 sz1 wd1 k : Nat) (gp : Nat → Option Nat) (P1 : Nat → Nat) (S1 : tb_S) (st : Int32) (ho : op_sh ids h o so gp) (hi : tb_at ids h a1 sz1 wd1 P1 S1) (hoi : o + 22 ≤ a1 ∨ a1 + 402 ≤ o) (hk4 : k ≤ 4) (hg : ∀ j, j < k → ∃ i : Nat, i < 80 ∧ gp j = some (a1 + 2 + 5 * i)) : rl_Met l (rl_e D ids H0) rl_BW rl_Ns yX2_makeWaysOfSet cX2_makeWaysOfSet 5 (some .boolean) ({ frames := 3, cells := 0, slots := 0, locals := 72 }) [.ref o, .int st, .int (nI k)] h n (fun v h' n' => ∃ x : Int32, v = some (.int x) ∧ n' = n ∧ (x = nI 0 ∨ x = nI 1) ∧ op_sh ids h' o so gp ∧ rl_fr h h' o (o + 22)) := by
  obtain ⟨o0, -, ⟨mf, mg, mk, om⟩, -, -, -, -⟩ := id ho
  refine rl_Met.of (by decide +kernel) (Nat.le_of_ble_eq_true rfl) ?_
  intro X hC hB
  have loop : ∀ (m j : Nat) (o4 : Option Value) (h1 : rl_H), j + m = k → op_sh ids h1 o so gp → rl_fr h h1 o (o + 22) → rl_G X (rl_e D ids H0) 9 [some (.ref o), some (.int st), some (.int (nI k)), some (.int (nI j)), o4] [] h1 n 0 0 := by
    intro m
    induction m with
    | zero =>
      intro j o4 h1 hm ho1 hf
      refine o_iload_n hC dX2_makeWaysOfSet_9 (by rfl) ?_
      refine o_iload_n hC dX2_makeWaysOfSet_10 (by rfl) ?_
      refine o_icmp_ge (tgt := 70) hC dX2_makeWaysOfSet_11 (by decide) (fun c_11 => ?_) (fun c_11 => ?_)
      · refine o_iconst (v := nI 1) hC dX2_makeWaysOfSet_70 (by decide +kernel) ?_
        refine o_zret hC hB dX2_makeWaysOfSet_71 (by first | rfl | decide +kernel) (Nat.le_of_ble_eq_true rfl) (Nat.le_of_ble_eq_true rfl) ?_
        exact ⟨_, rfl, rfl, Or.inr rfl, ho1, hf⟩
      · exact absurd (nI_le (by omega) (by omega)) c_11
    | succ m ih =>
      intro j o4 h1 hm ho1 hf
      obtain ⟨o0, ⟨ds, od⟩, ⟨mf, mg, mk, om⟩, ⟨tp, o7, o7b⟩, o8, ⟨kc, o9⟩, ot⟩ := id ho1
      obtain ⟨i, hi80, hgj⟩ := hg j (by omega)
      obtain ⟨e1, e2, e3⟩ := (hi.eqv (h' := h1) (fun q q1 q2 => hf q (by omega))).2.2.2.1 i hi80
      obtain ⟨wf, wg, wk, tw⟩ := ot j (by omega)
      refine o_iload_n hC dX2_makeWaysOfSet_9 (by rfl) ?_
      refine o_iload_n hC dX2_makeWaysOfSet_10 (by rfl) ?_
      refine o_icmp_ge (tgt := 70) hC dX2_makeWaysOfSet_11 (by decide) (fun c_11 => ?_) (fun c_11 => ?_)
      · exact absurd c_11 (nI_ge (by omega) (by omega))
      · refine o_iload_n hC dX2_makeWaysOfSet_14 (by rfl) ?_
        refine o_iload_n hC dX2_makeWaysOfSet_15 (by rfl) ?_
        refine o_ishr hC dX2_makeWaysOfSet_16 ?_
        refine o_iconst (v := nI 1) hC dX2_makeWaysOfSet_17 (by decide +kernel) ?_
        refine o_iand hC dX2_makeWaysOfSet_18 ?_
        refine o_if_eq (tgt := 34) hC dX2_makeWaysOfSet_19 (by decide) (fun c_19 => ?_) (fun c_19 => ?_)
        · refine o_aload_n hC dX2_makeWaysOfSet_34 (by rfl) ?_
          refine o_getf hC (fX2_25 hC rfl) dX2_makeWaysOfSet_35 (by repeat (first | with_reducible assumption | (rw [rl_u_s]; done) | (rw [rl_u_s]; rfl) | rw [rl_u_n (by first | with_reducible assumption | omega)])) (by first | rfl | with_reducible assumption) ?_
          refine o_iload_n hC dX2_makeWaysOfSet_38 (by rfl) ?_
          refine o_aaldN (t0 := 4) hC rfl dX2_makeWaysOfSet_39 o7 (by omega) (by decide) ?_
          rw [o7b _ (by omega)]
          show rl_G X _ _ _ (.ref _ :: _) _ _ _ _
          refine o_astore hC dX2_makeWaysOfSet_40 (Nat.le_of_ble_eq_true rfl) ?_
          refine o_aload_n hC dX2_makeWaysOfSet_42 (by rfl) ?_
          refine o_getf hC (fX2_12 hC rfl) dX2_makeWaysOfSet_43 (by repeat (first | with_reducible assumption | (rw [rl_u_s]; done) | (rw [rl_u_s]; rfl) | rw [rl_u_n (by first | with_reducible assumption | omega)])) (by first | rfl | with_reducible assumption) ?_
          refine o_aload_n hC dX2_makeWaysOfSet_46 (by rfl) ?_
          refine o_getf hC (fX2_21 hC rfl) dX2_makeWaysOfSet_47 (by repeat (first | with_reducible assumption | (rw [rl_u_s]; done) | (rw [rl_u_s]; rfl) | rw [rl_u_n (by first | with_reducible assumption | omega)])) (by first | rfl | with_reducible assumption) ?_
          refine o_aload hC dX2_makeWaysOfSet_50 (by rfl) ?_
          refine o_aload_n hC dX2_makeWaysOfSet_52 (by rfl) ?_
          refine o_getf hC (fX2_21 hC rfl) dX2_makeWaysOfSet_53 (by repeat (first | with_reducible assumption | (rw [rl_u_s]; done) | (rw [rl_u_s]; rfl) | rw [rl_u_n (by first | with_reducible assumption | omega)])) (by first | rfl | with_reducible assumption) ?_
          refine o_callV3 hC rl_BW_good rl_Ns_nw (by exact hB.2.2.2.2.2) YX0_both IX0_both VX0_both (mX2_139 hC) (by rw [hB.1]; exact ct_X0_both l D ids H0 _ _ (o + 1) (o + 4) _ (o + 4) _ _ _ _ _ _ _ _ _ _ od om (by first | exact e3 | exact tw) om (by omega) (by omega) (by omega)) (by exact od.1) rfl rfl (Nat.le_of_ble_eq_true rfl) (by rw [hB.2.1]; first | exact Nat.le_of_ble_eq_true rfl | (dsimp only; omega)) (by rw [hB.2.1]; first | exact Nat.le_of_ble_eq_true rfl | (dsimp only; omega)) (by rw [hB.2.1]; first | exact Nat.le_of_ble_eq_true rfl | (dsimp only; omega)) (by rw [hB.2.1]; first | exact Nat.le_of_ble_eq_true rfl | (dsimp only; omega)) dX2_makeWaysOfSet_56 (fun v h_56 n_56 p_56 => ?_)
          obtain ⟨x, rfl, rfl, s1⟩ := p_56
          have s2 := s1.f2
          have ho2 : op_sh ids h_56 o so gp := ho1.mk ⟨_, s1.1⟩ (s1.ws om (by omega)) (fun q q1 q2 q3 => s2 q (by omega) (by omega))
          have hf2 : rl_fr h h_56 o (o + 22) := fun q hq => (s2 q (by omega) (by omega)).trans (hf q hq)
          try dsimp only [Option.toList, List.cons_append, List.nil_append]
          refine o_if_ne (tgt := 64) hC dX2_makeWaysOfSet_59 (by decide) (fun c_59 => ?_) (fun c_59 => ?_)
          · refine o_iinc hC dX2_makeWaysOfSet_64 (by rfl) (rl_inc _) (Nat.le_of_ble_eq_true rfl) ?_
            refine o_goto (tgt := 9) hC dX2_makeWaysOfSet_67 (by decide) ?_
            exact ih (j + 1) _ _ (by omega) ho2 hf2
          · refine o_iconst (v := nI 0) hC dX2_makeWaysOfSet_62 (by decide +kernel) ?_
            refine o_zret hC hB dX2_makeWaysOfSet_63 (by first | rfl | decide +kernel) (Nat.le_of_ble_eq_true rfl) (Nat.le_of_ble_eq_true rfl) ?_
            exact ⟨_, rfl, rfl, Or.inl rfl, ho2, hf2⟩
        · refine o_aload_n hC dX2_makeWaysOfSet_22 (by rfl) ?_
          refine o_getf hC (fX2_31 hC rfl) dX2_makeWaysOfSet_23 (by repeat (first | with_reducible assumption | (rw [rl_u_s]; done) | (rw [rl_u_s]; rfl) | rw [rl_u_n (by first | with_reducible assumption | omega)])) (by first | rfl | with_reducible assumption) ?_
          refine o_iload_n hC dX2_makeWaysOfSet_26 (by rfl) ?_
          refine o_aaldN (t0 := 3) hC rfl dX2_makeWaysOfSet_27 o8 (by omega) (by decide) ?_
          rw [hgj]
          show rl_G X _ _ _ (.ref _ :: _) _ _ _ _
          refine o_getf hC (fX2_116 hC rfl) dX2_makeWaysOfSet_28 (by repeat (first | with_reducible assumption | (rw [rl_u_s]; done) | (rw [rl_u_s]; rfl) | rw [rl_u_n (by first | with_reducible assumption | omega)])) (by first | rfl | with_reducible assumption) ?_
          refine o_goto (tgt := 40) hC dX2_makeWaysOfSet_31 (by decide) ?_
          refine o_astore hC dX2_makeWaysOfSet_40 (Nat.le_of_ble_eq_true rfl) ?_
          refine o_aload_n hC dX2_makeWaysOfSet_42 (by rfl) ?_
          refine o_getf hC (fX2_12 hC rfl) dX2_makeWaysOfSet_43 (by repeat (first | with_reducible assumption | (rw [rl_u_s]; done) | (rw [rl_u_s]; rfl) | rw [rl_u_n (by first | with_reducible assumption | omega)])) (by first | rfl | with_reducible assumption) ?_
          refine o_aload_n hC dX2_makeWaysOfSet_46 (by rfl) ?_
          refine o_getf hC (fX2_21 hC rfl) dX2_makeWaysOfSet_47 (by repeat (first | with_reducible assumption | (rw [rl_u_s]; done) | (rw [rl_u_s]; rfl) | rw [rl_u_n (by first | with_reducible assumption | omega)])) (by first | rfl | with_reducible assumption) ?_
          refine o_aload hC dX2_makeWaysOfSet_50 (by rfl) ?_
          refine o_aload_n hC dX2_makeWaysOfSet_52 (by rfl) ?_
          refine o_getf hC (fX2_21 hC rfl) dX2_makeWaysOfSet_53 (by repeat (first | with_reducible assumption | (rw [rl_u_s]; done) | (rw [rl_u_s]; rfl) | rw [rl_u_n (by first | with_reducible assumption | omega)])) (by first | rfl | with_reducible assumption) ?_
          refine o_callV3 hC rl_BW_good rl_Ns_nw (by exact hB.2.2.2.2.2) YX0_both IX0_both VX0_both (mX2_139 hC) (by rw [hB.1]; exact ct_X0_both l D ids H0 _ _ (o + 1) (o + 4) _ (o + 4) _ _ _ _ _ _ _ _ _ _ od om (by first | exact e3 | exact tw) om (by omega) (by omega) (by omega)) (by exact od.1) rfl rfl (Nat.le_of_ble_eq_true rfl) (by rw [hB.2.1]; first | exact Nat.le_of_ble_eq_true rfl | (dsimp only; omega)) (by rw [hB.2.1]; first | exact Nat.le_of_ble_eq_true rfl | (dsimp only; omega)) (by rw [hB.2.1]; first | exact Nat.le_of_ble_eq_true rfl | (dsimp only; omega)) (by rw [hB.2.1]; first | exact Nat.le_of_ble_eq_true rfl | (dsimp only; omega)) dX2_makeWaysOfSet_56 (fun v h_56 n_56 p_56 => ?_)
          obtain ⟨x, rfl, rfl, s1⟩ := p_56
          have s2 := s1.f2
          have ho2 : op_sh ids h_56 o so gp := ho1.mk ⟨_, s1.1⟩ (s1.ws om (by omega)) (fun q q1 q2 q3 => s2 q (by omega) (by omega))
          have hf2 : rl_fr h h_56 o (o + 22) := fun q hq => (s2 q (by omega) (by omega)).trans (hf q hq)
          try dsimp only [Option.toList, List.cons_append, List.nil_append]
          refine o_if_ne (tgt := 64) hC dX2_makeWaysOfSet_59 (by decide) (fun c_59 => ?_) (fun c_59 => ?_)
          · refine o_iinc hC dX2_makeWaysOfSet_64 (by rfl) (rl_inc _) (Nat.le_of_ble_eq_true rfl) ?_
            refine o_goto (tgt := 9) hC dX2_makeWaysOfSet_67 (by decide) ?_
            exact ih (j + 1) _ _ (by omega) ho2 hf2
          · refine o_iconst (v := nI 0) hC dX2_makeWaysOfSet_62 (by decide +kernel) ?_
            refine o_zret hC hB dX2_makeWaysOfSet_63 (by first | rfl | decide +kernel) (Nat.le_of_ble_eq_true rfl) (Nat.le_of_ble_eq_true rfl) ?_
            exact ⟨_, rfl, rfl, Or.inl rfl, ho2, hf2⟩
  show rl_G X (rl_e D ids H0) 0 [some (.ref o), some (.int st), some (.int (nI k)), none, none] [] h n 0 0
  refine o_aload_n hC dX2_makeWaysOfSet_0 (by rfl) ?_
  refine o_getf hC (fX2_21 hC rfl) dX2_makeWaysOfSet_1 (by repeat (first | with_reducible assumption | (rw [rl_u_s]; done) | (rw [rl_u_s]; rfl) | rw [rl_u_n (by first | with_reducible assumption | omega)])) (by first | rfl | with_reducible assumption) ?_
  refine o_callV0 hC rl_BW_good rl_Ns_nw (by exact hB.2.2.2.2.2) YX6_becomeTrue IX6_becomeTrue VX6_becomeTrue (mX2_179 hC) (by rw [hB.1]; exact ct_X6_becomeTrue l D ids H0 _ _ (o + 4) _ _ _ om) (by exact om.1) rfl rfl (Nat.le_of_ble_eq_true rfl) (by rw [hB.2.1]; first | exact Nat.le_of_ble_eq_true rfl | (dsimp only; omega)) (by rw [hB.2.1]; first | exact Nat.le_of_ble_eq_true rfl | (dsimp only; omega)) (by rw [hB.2.1]; first | exact Nat.le_of_ble_eq_true rfl | (dsimp only; omega)) (by rw [hB.2.1]; first | exact Nat.le_of_ble_eq_true rfl | (dsimp only; omega)) dX2_makeWaysOfSet_4 (fun v h_4 n_4 p_4 => ?_)
  obtain ⟨rfl, rfl, p1, p2⟩ := p_4
  try dsimp only [Option.toList, List.cons_append, List.nil_append]
  refine o_iconst (v := nI 0) hC dX2_makeWaysOfSet_7 (by decide +kernel) ?_
  refine o_istore_n hC dX2_makeWaysOfSet_8 (Nat.le_of_ble_eq_true rfl) ?_
  exact loop k 0 _ _ (by omega) (ho.mk (ho.2.1.eqv (fun q q1 q2 => p2 q (by omega))) ⟨_, _, _, p1⟩ (fun q q1 q2 q3 => p2 q (by omega))) (p2.wd (by omega) (by omega))

set_option maxHeartbeats 4000000 in
set_option maxRecDepth 100000 in
theorem ct_X2_foldedNumber (l : Launch) (D : va_G) (ids : Nat → ClassId) (H0 : Heap) (h : rl_H) (n : Nat) (o so a1 sz1 wd1 k : Nat) (gp : Nat → Option Nat) (P1 : Nat → Nat) (S1 : tb_S) (st : Int32) (nd c5 kd : Nat) (f0 f1 f2 f3 f4 f7 f8 : Int32) (ho : op_sh ids h o so gp) (hi : tb_at ids h a1 sz1 wd1 P1 S1) (hoi : o + 22 ≤ a1 ∨ a1 + 402 ≤ o) (hk4 : k ≤ 4) (hg : ∀ j, j < k → ∃ i : Nat, i < 80 ∧ gp j = some (a1 + 2 + 5 * i)) (hnd : h nd = some (.inr (1, [.int f0, .int f1, .int f2, .int f3, .int f4, .int (nI c5), .int (nI kd), .int f7, .int f8]))) (h5 : c5 < 6) (h6 : kd ≤ 3) : rl_Met l (rl_e D ids H0) rl_BW rl_Ns yX2_foldedNumber cX2_foldedNumber 10 (some .int) ({ frames := 1, cells := 0, slots := 0, locals := 40 }) [.ref o, .ref nd, .int st, .int (nI k)] h n (fun v h' n' => ∃ x : Int32, v = some (.int x) ∧ h' = h ∧ n' = n) := by
  obtain ⟨o0, -, -, -, o8, -, -⟩ := id ho
  refine rl_Met.of (by decide +kernel) (Nat.le_of_ble_eq_true rfl) ?_
  intro X hC hB
  have loop : ∀ (m j a4 : Nat) (a5 a6 a7 : Int32) (o9v : Option Value), j + m = k → rl_G X (rl_e D ids H0) 15 [some (.ref o), some (.ref nd), some (.int st), some (.int (nI k)), some (.int (nI a4)), some (.int a5), some (.int a6), some (.int a7), some (.int (nI j)), o9v] [] h n 0 0 := by
    intro m
    induction m with
    | zero =>
      intro j a4 a5 a6 a7 o9v hm
      refine o_iload hC dX2_foldedNumber_15 (by rfl) ?_
      refine o_iload_n hC dX2_foldedNumber_17 (by rfl) ?_
      refine o_icmp_ge (tgt := 101) hC dX2_foldedNumber_18 (by decide) (fun c_18 => ?_) (fun c_18 => ?_)
      · refine o_aload_n hC dX2_foldedNumber_101 (by rfl) ?_
        refine o_getf hC (fX2_125 hC rfl) dX2_foldedNumber_102 (by repeat (first | with_reducible assumption | (rw [rl_u_s]; done) | (rw [rl_u_s]; rfl) | rw [rl_u_n (by first | with_reducible assumption | omega)])) (by first | rfl | with_reducible assumption) ?_
        rcases (show kd = 0 ∨ kd = 1 ∨ kd = 2 ∨ kd = 3 by omega) with rfl | rfl | rfl | rfl
        · refine o_tableIn (off := 27) (tgt := 132) hC dX2_foldedNumber_105 (by decide +kernel) (by decide +kernel) (by decide +kernel) (by decide) ?_
          refine o_iload hC dX2_foldedNumber_132 (by rfl) ?_
          refine o_iret hC hB dX2_foldedNumber_134 (Nat.le_of_ble_eq_true rfl) (Nat.le_of_ble_eq_true rfl) ?_
          exact ⟨_, rfl, rfl, rfl⟩
        · refine o_tableIn (off := 30) (tgt := 135) hC dX2_foldedNumber_105 (by decide +kernel) (by decide +kernel) (by decide +kernel) (by decide) ?_
          refine o_iload hC dX2_foldedNumber_135 (by rfl) ?_
          refine o_iret hC hB dX2_foldedNumber_137 (Nat.le_of_ble_eq_true rfl) (Nat.le_of_ble_eq_true rfl) ?_
          exact ⟨_, rfl, rfl, rfl⟩
        · refine o_tableIn (off := 33) (tgt := 138) hC dX2_foldedNumber_105 (by decide +kernel) (by decide +kernel) (by decide +kernel) (by decide) ?_
          refine o_iload hC dX2_foldedNumber_138 (by rfl) ?_
          refine o_iret hC hB dX2_foldedNumber_140 (Nat.le_of_ble_eq_true rfl) (Nat.le_of_ble_eq_true rfl) ?_
          exact ⟨_, rfl, rfl, rfl⟩
        · refine o_tableOut (tgt := 141) hC dX2_foldedNumber_105 (by decide +kernel) (by decide) ?_
          refine o_iload hC dX2_foldedNumber_141 (by rfl) ?_
          refine o_iret hC hB dX2_foldedNumber_143 (Nat.le_of_ble_eq_true rfl) (Nat.le_of_ble_eq_true rfl) ?_
          exact ⟨_, rfl, rfl, rfl⟩
      · exact absurd (nI_le (by omega) (by omega)) c_18
    | succ m ih =>
      intro j a4 a5 a6 a7 o9v hm
      obtain ⟨i, hi80, hgj⟩ := hg j (by omega)
      obtain ⟨e1, e2, e3⟩ := hi.2.2.2.1 i hi80
      refine o_iload hC dX2_foldedNumber_15 (by rfl) ?_
      refine o_iload_n hC dX2_foldedNumber_17 (by rfl) ?_
      refine o_icmp_ge (tgt := 101) hC dX2_foldedNumber_18 (by decide) (fun c_18 => ?_) (fun c_18 => ?_)
      · exact absurd c_18 (nI_ge (by omega) (by omega))
      · refine o_iload_n hC dX2_foldedNumber_21 (by rfl) ?_
        refine o_iload hC dX2_foldedNumber_22 (by rfl) ?_
        refine o_ishr hC dX2_foldedNumber_24 ?_
        refine o_iconst (v := nI 1) hC dX2_foldedNumber_25 (by decide +kernel) ?_
        refine o_iand hC dX2_foldedNumber_26 ?_
        refine o_if_eq (tgt := 95) hC dX2_foldedNumber_27 (by decide) (fun c_27 => ?_) (fun c_27 => ?_)
        · refine o_iinc hC dX2_foldedNumber_95 (by rfl) (rl_inc _) (Nat.le_of_ble_eq_true rfl) ?_
          refine o_goto (tgt := 15) hC dX2_foldedNumber_98 (by decide) ?_
          exact ih (j + 1) _ _ _ _ _ (by omega)
        · refine o_aload_n hC dX2_foldedNumber_30 (by rfl) ?_
          refine o_getf hC (fX2_31 hC rfl) dX2_foldedNumber_31 (by repeat (first | with_reducible assumption | (rw [rl_u_s]; done) | (rw [rl_u_s]; rfl) | rw [rl_u_n (by first | with_reducible assumption | omega)])) (by first | rfl | with_reducible assumption) ?_
          refine o_iload hC dX2_foldedNumber_34 (by rfl) ?_
          refine o_aaldN (t0 := 3) hC rfl dX2_foldedNumber_36 o8 (by omega) (by decide) ?_
          rw [hgj]
          show rl_G X _ _ _ (.ref _ :: _) _ _ _ _
          refine o_getf hC (fX2_109 hC rfl) dX2_foldedNumber_37 (by repeat (first | with_reducible assumption | (rw [rl_u_s]; done) | (rw [rl_u_s]; rfl) | rw [rl_u_n (by first | with_reducible assumption | omega)])) (by first | rfl | with_reducible assumption) ?_
          refine o_aload_n hC dX2_foldedNumber_40 (by rfl) ?_
          refine o_getf hC (fX2_122 hC rfl) dX2_foldedNumber_41 (by repeat (first | with_reducible assumption | (rw [rl_u_s]; done) | (rw [rl_u_s]; rfl) | rw [rl_u_n (by first | with_reducible assumption | omega)])) (by first | rfl | with_reducible assumption) ?_
          refine o_ialdN (t0 := 0) (k := c5) hC rfl dX2_foldedNumber_44 e2 (by omega) (by decide) ?_
          refine o_istore hC dX2_foldedNumber_45 (Nat.le_of_ble_eq_true rfl) ?_
          refine o_iload hC dX2_foldedNumber_47 (by rfl) ?_
          refine o_iload hC dX2_foldedNumber_49 (by rfl) ?_
          refine o_iadd hC dX2_foldedNumber_51 ?_
          refine o_istore hC dX2_foldedNumber_52 (Nat.le_of_ble_eq_true rfl) ?_
          refine o_iload hC dX2_foldedNumber_54 (by rfl) ?_
          refine o_if_ne (tgt := 64) hC dX2_foldedNumber_56 (by decide) (fun c_56 => ?_) (fun c_56 => ?_)
          · refine o_iload hC dX2_foldedNumber_64 (by rfl) ?_
            refine o_iload hC dX2_foldedNumber_66 (by rfl) ?_
            refine o_mmin hC (by exact hB.2.2.2.2.2) (rl_bw 491 (by decide +kernel) (by decide +kernel)) SJ9_min_7cf53 YJ9_min_7cf53.2.1 YJ9_min_7cf53.1 (by rw [hB.2.1]; first | exact Nat.le_of_ble_eq_true rfl | (dsimp only; omega)) (by rw [hB.2.1]; first | exact Nat.le_of_ble_eq_true rfl | (dsimp only; omega)) (by rw [hB.2.1]; first | exact Nat.le_of_ble_eq_true rfl | (dsimp only; omega)) (by rw [hB.2.1]; first | exact Nat.le_of_ble_eq_true rfl | (dsimp only; omega)) dX2_foldedNumber_68 ?_
            refine o_istore hC dX2_foldedNumber_71 (Nat.le_of_ble_eq_true rfl) ?_
            refine o_iload hC dX2_foldedNumber_73 (by rfl) ?_
            refine o_if_ne (tgt := 83) hC dX2_foldedNumber_75 (by decide) (fun c_75 => ?_) (fun c_75 => ?_)
            · refine o_iload hC dX2_foldedNumber_83 (by rfl) ?_
              refine o_iload hC dX2_foldedNumber_85 (by rfl) ?_
              refine o_mmax hC (by exact hB.2.2.2.2.2) (rl_bw 492 (by decide +kernel) (by decide +kernel)) SJ9_max_7cf53 YJ9_max_7cf53.2.1 YJ9_max_7cf53.1 (by rw [hB.2.1]; first | exact Nat.le_of_ble_eq_true rfl | (dsimp only; omega)) (by rw [hB.2.1]; first | exact Nat.le_of_ble_eq_true rfl | (dsimp only; omega)) (by rw [hB.2.1]; first | exact Nat.le_of_ble_eq_true rfl | (dsimp only; omega)) (by rw [hB.2.1]; first | exact Nat.le_of_ble_eq_true rfl | (dsimp only; omega)) dX2_foldedNumber_87 ?_
              refine o_istore hC dX2_foldedNumber_90 (Nat.le_of_ble_eq_true rfl) ?_
              refine o_iinc hC dX2_foldedNumber_92 (by rfl) (rl_inc _) (Nat.le_of_ble_eq_true rfl) ?_
              refine o_iinc hC dX2_foldedNumber_95 (by rfl) (rl_inc _) (Nat.le_of_ble_eq_true rfl) ?_
              refine o_goto (tgt := 15) hC dX2_foldedNumber_98 (by decide) ?_
              exact ih (j + 1) _ _ _ _ _ (by omega)
            · refine o_iload hC dX2_foldedNumber_78 (by rfl) ?_
              refine o_goto (tgt := 90) hC dX2_foldedNumber_80 (by decide) ?_
              refine o_istore hC dX2_foldedNumber_90 (Nat.le_of_ble_eq_true rfl) ?_
              refine o_iinc hC dX2_foldedNumber_92 (by rfl) (rl_inc _) (Nat.le_of_ble_eq_true rfl) ?_
              refine o_iinc hC dX2_foldedNumber_95 (by rfl) (rl_inc _) (Nat.le_of_ble_eq_true rfl) ?_
              refine o_goto (tgt := 15) hC dX2_foldedNumber_98 (by decide) ?_
              exact ih (j + 1) _ _ _ _ _ (by omega)
          · refine o_iload hC dX2_foldedNumber_59 (by rfl) ?_
            refine o_goto (tgt := 71) hC dX2_foldedNumber_61 (by decide) ?_
            refine o_istore hC dX2_foldedNumber_71 (Nat.le_of_ble_eq_true rfl) ?_
            refine o_iload hC dX2_foldedNumber_73 (by rfl) ?_
            refine o_if_ne (tgt := 83) hC dX2_foldedNumber_75 (by decide) (fun c_75 => ?_) (fun c_75 => ?_)
            · refine o_iload hC dX2_foldedNumber_83 (by rfl) ?_
              refine o_iload hC dX2_foldedNumber_85 (by rfl) ?_
              refine o_mmax hC (by exact hB.2.2.2.2.2) (rl_bw 492 (by decide +kernel) (by decide +kernel)) SJ9_max_7cf53 YJ9_max_7cf53.2.1 YJ9_max_7cf53.1 (by rw [hB.2.1]; first | exact Nat.le_of_ble_eq_true rfl | (dsimp only; omega)) (by rw [hB.2.1]; first | exact Nat.le_of_ble_eq_true rfl | (dsimp only; omega)) (by rw [hB.2.1]; first | exact Nat.le_of_ble_eq_true rfl | (dsimp only; omega)) (by rw [hB.2.1]; first | exact Nat.le_of_ble_eq_true rfl | (dsimp only; omega)) dX2_foldedNumber_87 ?_
              refine o_istore hC dX2_foldedNumber_90 (Nat.le_of_ble_eq_true rfl) ?_
              refine o_iinc hC dX2_foldedNumber_92 (by rfl) (rl_inc _) (Nat.le_of_ble_eq_true rfl) ?_
              refine o_iinc hC dX2_foldedNumber_95 (by rfl) (rl_inc _) (Nat.le_of_ble_eq_true rfl) ?_
              refine o_goto (tgt := 15) hC dX2_foldedNumber_98 (by decide) ?_
              exact ih (j + 1) _ _ _ _ _ (by omega)
            · refine o_iload hC dX2_foldedNumber_78 (by rfl) ?_
              refine o_goto (tgt := 90) hC dX2_foldedNumber_80 (by decide) ?_
              refine o_istore hC dX2_foldedNumber_90 (Nat.le_of_ble_eq_true rfl) ?_
              refine o_iinc hC dX2_foldedNumber_92 (by rfl) (rl_inc _) (Nat.le_of_ble_eq_true rfl) ?_
              refine o_iinc hC dX2_foldedNumber_95 (by rfl) (rl_inc _) (Nat.le_of_ble_eq_true rfl) ?_
              refine o_goto (tgt := 15) hC dX2_foldedNumber_98 (by decide) ?_
              exact ih (j + 1) _ _ _ _ _ (by omega)
  show rl_G X (rl_e D ids H0) 0 [some (.ref o), some (.ref nd), some (.int st), some (.int (nI k)), none, none, none, none, none, none] [] h n 0 0
  refine o_iconst (v := nI 0) hC dX2_foldedNumber_0 (by decide +kernel) ?_
  refine o_istore hC dX2_foldedNumber_1 (Nat.le_of_ble_eq_true rfl) ?_
  refine o_iconst (v := nI 0) hC dX2_foldedNumber_3 (by decide +kernel) ?_
  refine o_istore hC dX2_foldedNumber_4 (Nat.le_of_ble_eq_true rfl) ?_
  refine o_iconst (v := nI 0) hC dX2_foldedNumber_6 (by decide +kernel) ?_
  refine o_istore hC dX2_foldedNumber_7 (Nat.le_of_ble_eq_true rfl) ?_
  refine o_iconst (v := nI 0) hC dX2_foldedNumber_9 (by decide +kernel) ?_
  refine o_istore hC dX2_foldedNumber_10 (Nat.le_of_ble_eq_true rfl) ?_
  refine o_iconst (v := nI 0) hC dX2_foldedNumber_12 (by decide +kernel) ?_
  refine o_istore hC dX2_foldedNumber_13 (Nat.le_of_ble_eq_true rfl) ?_
  exact loop k 0 0 _ _ _ _ (by omega)
