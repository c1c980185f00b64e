/-! THE CLASS, functionally: FOLD's end, fill -/
theorem fwf_ok {s : Nat} {g : List arow} {ns : List (List tT)} : ∀ {m j : Nat} {W L : List tT}, fwf s g ns m j W = some L → wok W → wok L
  | 0, j, W, L, h, hW => by
    cases h
    exact hW
  | m + 1, j, W, L, h, hW => by
    unfold fwf at h
    cases e : wst (tbo W (fnw s g ns j)) with
    | none => rw [e] at h; cases h
    | some W2 =>
      rw [e] at h
      exact fwf_ok (m := m) h (wst_ok e)
theorem ffo_1 {tb : List arow} {cb co kd m t : Nat} {T : List arow} (h : ffr tb cb t t 0 = true) : ffo tb cb co kd (m + 1) t T = if 4 < (fgp tb cb t).length then none else (fgr cb co kd T (fgp tb cb t)).bind (ffo tb cb co kd m (t + 1)) := if_pos h
theorem ffo_0 {tb : List arow} {cb co kd m t : Nat} {T : List arow} (h : ¬ ffr tb cb t t 0 = true) : ffo tb cb co kd (m + 1) t T = ffo tb cb co kd m (t + 1) T := if_neg h
theorem fcs_s (cb co kd : Nat) (g : List arow) (ns : List (List tT)) (s n : Nat) : fcs cb co kd g ns s (n + 1) = fca cb co kd g ns s :: fcs cb co kd g ns (s + 1) n := by
  unfold fcs
  rw [List.range'_succ, List.map_cons]

set_option maxHeartbeats 4000000 in
set_option maxRecDepth 100000 in
theorem cp_X2_putGroup (l : Launch) (D : va_G) (ids : Nat → ClassId) (H0 : Heap) (h : rl_H) (n : Nat) (o so a wd a1 sz1 wd1 nd c4 c5 kd : Nat) (gp : Nat → Option Nat) (P1 : Nat → Nat) (S1 : tb_S) (g tab : List arow) (f0 f1 f2 f3 f7 f8 : Int32) (ho : op_sh ids h o so gp) (ht : ctb ids h a wd tab) (hok : aok wd tab) (hwd : wd = 2) (hoa : o + 22 ≤ a ∨ a + 402 ≤ o) (hia : a1 + 402 ≤ a ∨ a + 402 ≤ a1) (hi : tb_at ids h a1 sz1 wd1 P1 S1) (hoi : o + 22 ≤ a1 ∨ a1 + 402 ≤ o) (hk4 : g.length ≤ 4) (hg : cgr gp a1 wd1 S1 g) (hgo : ∀ r ∈ g, wok r.2) (hnd : h nd = some (.inr (1, [.int f0, .int f1, .int f2, .int f3, .int (nI c4), .int (nI c5), .int (nI kd), .int f7, .int f8]))) (h4 : c4 < wd1) (h5 : c5 < wd1) (hw16 : wd1 ≤ 6) (h6 : kd ≤ 3) (hno : nd < o ∨ o + 22 ≤ nd) (hna : nd < a ∨ a + 402 ≤ nd) : rl_Met l (rl_e D ids H0) rl_BW rl_Ns yX2_putGroup cX2_putGroup 5 (some .boolean) ({ frames := 4, cells := 0, slots := 0, locals := 149 }) [.ref o, .ref nd, .int (nI g.length), .ref a] h n (fun v h' n' => ∃ x : Int32, v = some (.int x) ∧ n' = n ∧ (∃ gp' : Nat → Option Nat, op_sh ids h' o so gp') ∧ rl_g2 h h' o (o + 22) a (a + 402) ∧ pres ids h' a wd (fgr c4 c5 kd tab g) x) := by
  refine rl_Met.of (by decide +kernel) (Nat.le_of_ble_eq_true rfl) ?_
  intro X hC hB
  show rl_G X (rl_e D ids H0) 0 [some (.ref o), some (.ref nd), some (.int (nI g.length)), some (.ref a), none] [] h n 0 0
  refine o_aload_n hC dX2_putGroup_0 (by rfl) ?_
  refine o_iload_n hC dX2_putGroup_1 (by rfl) ?_
  refine o_callV1 hC rl_BW_good rl_Ns_nw (by exact hB.2.2.2.2.2) YX2_turnGroup IX2_turnGroup VX2_turnGroup (mX2_167 hC) (by rw [hB.1]; exact cp_X2_turnGroup l D ids H0 _ _ o so a1 sz1 wd1 gp P1 S1 g ho hi hoi hk4 hg hgo) (by exact ho.1) rfl rfl (Nat.le_of_ble_eq_true rfl) (by rw [hB.2.1]; first | exact Nat.le_of_ble_eq_true rfl | (dsimp only; omega)) (by rw [hB.2.1]; first | exact Nat.le_of_ble_eq_true rfl | (dsimp only; omega)) (by rw [hB.2.1]; first | exact Nat.le_of_ble_eq_true rfl | (dsimp only; omega)) (by rw [hB.2.1]; first | exact Nat.le_of_ble_eq_true rfl | (dsimp only; omega)) dX2_putGroup_2 (fun v h_2 n_2 p_2 => ?_)
  obtain ⟨x0, rfl, rfl, v1, v2, w0⟩ := p_2
  have v3 := ht.eqv (h' := h_2) (fun q q1 q2 => v2 q (by omega))
  try dsimp only [Option.toList, List.cons_append, List.nil_append]
  refine o_if_ne (tgt := 10) hC dX2_putGroup_5 (by decide) (fun c_5 => ?_) (fun c_5 => ?_)
  · refine o_iconst (v := nI 1) hC dX2_putGroup_10 (by decide +kernel) ?_
    refine o_istore hC dX2_putGroup_11 (Nat.le_of_ble_eq_true rfl) ?_
    rcases w0 with ⟨-, ns, z1, z2⟩ | ⟨z2, -⟩
    rotate_left
    · exact absurd z2 c_5
    have hfg : fgr c4 c5 kd tab g = aall tab (fcs c4 c5 kd g ns 1 (2 ^ g.length - 1)) := by
      unfold fgr
      rw [z1]
      rfl
    obtain ⟨pw1, pw2, pw3⟩ := pw_16 hk4
    have loop : ∀ (m s : Nat) (h1 : rl_H) (tab1 : List arow), s + m = 2 ^ g.length → 1 ≤ s → op_sh ids h1 o so gp → ctb ids h1 a wd tab1 → aok wd tab1 → (1 < g.length → ∀ i : Nat, i < g.length → wat ids h1 (o + 10 + 3 * i) (ns.getD i [])) → rl_g2 h h1 o (o + 22) a (a + 402) → aall tab (fcs c4 c5 kd g ns 1 (2 ^ g.length - 1)) = aall tab1 (fcs c4 c5 kd g ns s m) → rl_G X (rl_e D ids H0) 13 [some (.ref o), some (.ref nd), some (.int (nI g.length)), some (.ref a), some (.int (nI s))] [] h1 n_2 0 0 := by
      intro m
      induction m with
      | zero =>
        intro s h1 tab1 hm hs1 ho1 ht1 hk1 hTW hf he
        refine o_iload hC dX2_putGroup_13 (by rfl) ?_
        refine o_iconst (v := nI 1) hC dX2_putGroup_15 (by decide +kernel) ?_
        refine o_iload_n hC dX2_putGroup_16 (by rfl) ?_
        refine o_ishl hC dX2_putGroup_17 ?_
        rw [sh_1k hk4]
        refine o_icmp_ge (tgt := 89) hC dX2_putGroup_18 (by decide) (fun c_18 => ?_) (fun c_18 => ?_)
        · refine o_iconst (v := nI 1) hC dX2_putGroup_89 (by decide +kernel) ?_
          refine o_zret hC hB dX2_putGroup_90 (by first | rfl | decide +kernel) (Nat.le_of_ble_eq_true rfl) (Nat.le_of_ble_eq_true rfl) ?_
          exact ⟨_, rfl, rfl, ⟨_, ho1⟩, hf, Or.inl ⟨tab1, by rw [hfg, he]; rfl, rfl, ht1, hk1⟩⟩
        · exact absurd (nI_le (by omega) (by omega)) c_18
      | succ m ih =>
        intro s h1 tab1 hm hs1 ho1 ht1 hk1 hTW hf he
        rw [fcs_s] at he
        obtain ⟨o0, ⟨ds, od⟩, ⟨mf0, mg0, mk0, om⟩, ⟨tp, o7, o7b⟩, o8, ⟨kc, o9⟩, ot⟩ := id ho1
        have n1 := (hf nd (by omega) (by omega)).trans hnd
        have hg1 : 1 ≤ g.length := pw3 (by omega)
        obtain ⟨i, hi80, hg0, hgr⟩ := hg 0 (by omega) (by omega)
        have hi1 := hi.eqv (h' := h1) (fun q q1 q2 => hf q (by omega) (by omega))
        obtain ⟨e1, e2, e3⟩ := hi1.2.2.2.1 i hi80
        have ex : acg (ark g 0) c4 = S1.1 i c4 := by
          show (ark g 0).1.getD c4 0 = _
          rw [← hgr, rsg_get h4]
        refine o_iload hC dX2_putGroup_13 (by rfl) ?_
        refine o_iconst (v := nI 1) hC dX2_putGroup_15 (by decide +kernel) ?_
        refine o_iload_n hC dX2_putGroup_16 (by rfl) ?_
        refine o_ishl hC dX2_putGroup_17 ?_
        rw [sh_1k hk4]
        refine o_icmp_ge (tgt := 89) hC dX2_putGroup_18 (by decide) (fun c_18 => ?_) (fun c_18 => ?_)
        · exact absurd c_18 (nI_ge (by omega) (by omega))
        · refine o_aload_n hC dX2_putGroup_21 (by rfl) ?_
          refine o_getf hC (fX2_35 hC rfl) dX2_putGroup_22 (by repeat (first | with_reducible assumption | (rw [rl_u_s]; done) | (rw [rl_u_s]; rfl) | rw [rl_u_n (by first | with_reducible assumption | omega)])) (by first | rfl | with_reducible assumption) ?_
          refine o_iconst (v := nI 0) hC dX2_putGroup_25 (by decide +kernel) ?_
          refine o_aload_n hC dX2_putGroup_26 (by rfl) ?_
          refine o_getf hC (fX2_31 hC rfl) dX2_putGroup_27 (by repeat (first | with_reducible assumption | (rw [rl_u_s]; done) | (rw [rl_u_s]; rfl) | rw [rl_u_n (by first | with_reducible assumption | omega)])) (by first | rfl | with_reducible assumption) ?_
          refine o_iconst (v := nI 0) hC dX2_putGroup_30 (by decide +kernel) ?_
          refine o_aaldN (t0 := 3) (k := 0) hC rfl dX2_putGroup_31 o8 (by omega) (by decide) ?_
          rw [hg0]
          show rl_G X _ _ _ (.ref _ :: _) _ _ _ _
          refine o_getf hC (fX2_109 hC rfl) dX2_putGroup_32 (by repeat (first | with_reducible assumption | (rw [rl_u_s]; done) | (rw [rl_u_s]; rfl) | rw [rl_u_n (by first | with_reducible assumption | omega)])) (by first | rfl | with_reducible assumption) ?_
          refine o_aload_n hC dX2_putGroup_35 (by rfl) ?_
          refine o_getf hC (fX2_119 hC rfl) dX2_putGroup_36 (by repeat (first | with_reducible assumption | (rw [rl_u_s]; done) | (rw [rl_u_s]; rfl) | rw [rl_u_n (by first | with_reducible assumption | omega)])) (by first | rfl | with_reducible assumption) ?_
          refine o_ialdN (t0 := 0) (k := c4) hC rfl dX2_putGroup_39 e2 (by omega) (by decide) ?_
          refine o_iastN (t0 := 0) (k := 0) hC rfl dX2_putGroup_40 o9 (by decide) (by decide) ?_
          have f9 : ∀ q, q ≠ o + 9 → (rl_u h1 (o + 9) (.inl (ids 0, 6, .inl (upd kc 0 (S1.1 i c4))))) q = h1 q := fun q hq => rl_u_n hq
          have k9 : (rl_u h1 (o + 9) (.inl (ids 0, 6, .inl (upd kc 0 (S1.1 i c4))))) (o + 9) = some (.inl (ids 0, 6, .inl (upd kc 0 (S1.1 i c4)))) := rl_u_s
          generalize (rl_u h1 (o + 9) (.inl (ids 0, 6, .inl (upd kc 0 (S1.1 i c4))))) = hh at f9 k9 ⊢
          have ho2 : op_sh ids hh o so gp := ho1.ky k9 (fun q q1 q2 q3 => f9 q q3)
          have z0 := ho2.1
          have hi2 := hi1.eqv (h' := hh) (fun q q1 q2 => f9 q (by omega))
          have n2 := (f9 nd (by omega)).trans n1
          refine o_aload_n hC dX2_putGroup_41 (by rfl) ?_
          refine o_getf hC (fX2_35 hC rfl) dX2_putGroup_42 (by repeat (first | with_reducible assumption | (rw [rl_u_s]; done) | (rw [rl_u_s]; rfl) | rw [rl_u_n (by first | with_reducible assumption | omega)])) (by first | rfl | with_reducible assumption) ?_
          refine o_iconst (v := nI 1) hC dX2_putGroup_45 (by decide +kernel) ?_
          refine o_aload_n hC dX2_putGroup_46 (by rfl) ?_
          refine o_aload_n hC dX2_putGroup_47 (by rfl) ?_
          refine o_iload hC dX2_putGroup_48 (by rfl) ?_
          refine o_iload_n hC dX2_putGroup_50 (by rfl) ?_
          refine o_callV3 hC rl_BW_good rl_Ns_nw (by exact hB.2.2.2.2.2) YX2_foldedNumber IX2_foldedNumber VX2_foldedNumber (mX2_171 hC) (by rw [hB.1]; exact cp_X2_foldedNumber l D ids H0 _ _ o so a1 sz1 wd1 gp P1 S1 g s nd c5 kd _ _ _ _ _ _ _ ho2 hi2 hoi hk4 hg hgo n2 h5 hw16 h6) (by exact z0) rfl rfl (Nat.le_of_ble_eq_true rfl) (by rw [hB.2.1]; first | exact Nat.le_of_ble_eq_true rfl | (dsimp only; omega)) (by rw [hB.2.1]; first | exact Nat.le_of_ble_eq_true rfl | (dsimp only; omega)) (by rw [hB.2.1]; first | exact Nat.le_of_ble_eq_true rfl | (dsimp only; omega)) (by rw [hB.2.1]; first | exact Nat.le_of_ble_eq_true rfl | (dsimp only; omega)) dX2_putGroup_51 (fun v h_51 n_51 p_51 => ?_)
          obtain ⟨rfl, rfl, rfl⟩ := p_51
          try dsimp only [Option.toList, List.cons_append, List.nil_append]
          refine o_iastN (t0 := 0) (k := 1) hC rfl dX2_putGroup_54 k9 (by decide) (by decide) ?_
          have hns : ∀ iq : Nat, iq < g.length → inS s iq = false → wat ids (rl_u h_51 (o + 9) (.inl (ids 0, 6, .inl (upd (upd kc 0 (S1.1 i c4)) 1 (fpick kd (ffn s c5 g g.length 0 (0, 0, 0, 0))))))) (o + 10 + 3 * iq) (ns.getD iq []) := fun iq hi e => by
            rcases Nat.lt_or_ge 1 g.length with q | q
            · exact (hTW q iq hi).eqv (fun q q1 q2 => by rw [rl_u_n (by omega)]; exact f9 q (by omega))
            · obtain rfl : iq = 0 := by omega
              have e1 : g.length = 1 := by omega
              have e2 : 2 ^ g.length = 2 := by rw [e1]
              obtain rfl : s = 1 := by omega
              rw [inS_1] at e
              cases e
          refine o_aload_n hC dX2_putGroup_55 (by rfl) ?_
          refine o_iload hC dX2_putGroup_56 (by rfl) ?_
          refine o_iload_n hC dX2_putGroup_58 (by rfl) ?_
          refine o_callV2 hC rl_BW_good rl_Ns_nw (by exact hB.2.2.2.2.2) YX2_makeWaysOfSet IX2_makeWaysOfSet VX2_makeWaysOfSet (mX2_175 hC) (by rw [hB.1]; exact cp_X2_makeWaysOfSet l D ids H0 _ _ o so a1 sz1 wd1 gp P1 S1 g s ns (ho2.ky rl_u_s (fun q q1 q2 q3 => rl_u_n q3)) (hi2.eqv (fun q q1 q2 => rl_u_n (by omega))) hoi hk4 hg hgo hns) (by rw [rl_u_n (by omega)]; exact z0) rfl rfl (Nat.le_of_ble_eq_true rfl) (by rw [hB.2.1]; first | exact Nat.le_of_ble_eq_true rfl | (dsimp only; omega)) (by rw [hB.2.1]; first | exact Nat.le_of_ble_eq_true rfl | (dsimp only; omega)) (by rw [hB.2.1]; first | exact Nat.le_of_ble_eq_true rfl | (dsimp only; omega)) (by rw [hB.2.1]; first | exact Nat.le_of_ble_eq_true rfl | (dsimp only; omega)) dX2_putGroup_59 (fun v h_59 n_59 p_59 => ?_)
          obtain ⟨x6, rfl, rfl, u1, u2, w9⟩ := p_59
          have w8 : ∀ q, (q < o ∨ o + 22 ≤ q) → h_59 q = h1 q := fun q hq => by rw [u2 q (by omega), rl_u_n (by omega)]; exact f9 q (by omega)
          have ht3 := ht1.eqv (h' := h_59) (fun q q1 q2 => w8 q (by omega))
          have k3 := (u2 (o + 9) (by omega)).trans rl_u_s
          have o3 := u1.1
          try dsimp only [Option.toList, List.cons_append, List.nil_append]
          refine o_if_eq (tgt := 81) hC dX2_putGroup_62 (by decide) (fun c_62 => ?_) (fun c_62 => ?_)
          · refine o_iconst (v := nI 0) hC dX2_putGroup_81 (by decide +kernel) ?_
            refine o_zret hC hB dX2_putGroup_82 (by first | rfl | decide +kernel) (Nat.le_of_ble_eq_true rfl) (Nat.le_of_ble_eq_true rfl) ?_
            rcases w9 with ⟨L9, z3, z4, -⟩ | ⟨z3, z4⟩
            · exact absurd (c_62.symm.trans z4) (by decide +kernel)
            · refine ⟨_, rfl, rfl, ⟨_, u1⟩, hf.tr (fun q b1 b2 => w8 q (by omega)), Or.inr ⟨?_, rfl, ht3.ti⟩⟩
              rw [hfg, he]
              show ((fwf s g ns g.length 0 [(0, 0)]).bind (aput tab1 _)).bind _ = _
              rw [z3]
              rfl
          · rcases w9 with ⟨L9, z3, z4, z5⟩ | ⟨-, z4⟩
            rotate_left
            · exact absurd z4 c_62
            refine o_aload_n hC dX2_putGroup_65 (by rfl) ?_
            refine o_aload_n hC dX2_putGroup_66 (by rfl) ?_
            refine o_aload_n hC dX2_putGroup_67 (by rfl) ?_
            refine o_getf hC (fX2_35 hC rfl) dX2_putGroup_68 (by repeat (first | with_reducible assumption | (rw [rl_u_s]; done) | (rw [rl_u_s]; rfl) | rw [rl_u_n (by first | with_reducible assumption | omega)])) (by first | rfl | with_reducible assumption) ?_
            refine o_aload_n hC dX2_putGroup_71 (by rfl) ?_
            refine o_getf hC (fX2_21 hC rfl) dX2_putGroup_72 (by repeat (first | with_reducible assumption | (rw [rl_u_s]; done) | (rw [rl_u_s]; rfl) | rw [rl_u_n (by first | with_reducible assumption | omega)])) (by first | rfl | with_reducible assumption) ?_
            refine o_callV3 hC rl_BW_good rl_Ns_nw (by exact hB.2.2.2.2.2) YX2_put IX2_put VX2_put (mX2_99 hC) (by rw [hB.1]; exact cp_X2_put l D ids H0 _ _ o so a (o + 4) (o + 9) wd _ _ _ _ u1 ht3 hk1 k3 z5 (fwf_ok z3 (wok_s 0)) (by omega) (by omega) (by omega) (by omega)) (by exact u1.1) rfl rfl (Nat.le_of_ble_eq_true rfl) (by rw [hB.2.1]; first | exact Nat.le_of_ble_eq_true rfl | (dsimp only; omega)) (by rw [hB.2.1]; first | exact Nat.le_of_ble_eq_true rfl | (dsimp only; omega)) (by rw [hB.2.1]; first | exact Nat.le_of_ble_eq_true rfl | (dsimp only; omega)) (by rw [hB.2.1]; first | exact Nat.le_of_ble_eq_true rfl | (dsimp only; omega)) dX2_putGroup_75 (fun v h_75 n_75 p_75 => ?_)
            obtain ⟨x, rfl, rfl, q1, q3, q2⟩ := p_75
            have ek : rcl (upd (upd kc 0 (S1.1 i c4)) 1 (fpick kd (ffn s c5 g g.length 0 (0, 0, 0, 0)))) 2 = fky s c4 c5 kd g := by
              show [upd (upd kc 0 (S1.1 i c4)) 1 (fpick kd (ffn s c5 g g.length 0 (0, 0, 0, 0))) 0, upd (upd kc 0 (S1.1 i c4)) 1 (fpick kd (ffn s c5 g g.length 0 (0, 0, 0, 0))) 1] = _
              rw [upd_lt (show 0 < 1 by decide), upd_at, upd_at, ← ex]
            rw [hwd, ek, ← hwd] at q2
            try dsimp only [Option.toList, List.cons_append, List.nil_append]
            refine o_if_ne (tgt := 83) hC dX2_putGroup_78 (by decide) (fun c_78 => ?_) (fun c_78 => ?_)
            · refine o_iinc hC dX2_putGroup_83 (by rfl) (rl_inc _) (Nat.le_of_ble_eq_true rfl) ?_
              refine o_goto (tgt := 13) hC dX2_putGroup_86 (by decide) ?_
              rcases q2 with ⟨tab2, m1, m2, m3, m4⟩ | ⟨-, m2, -⟩
              rotate_left
              · exact absurd m2 c_78
              refine ih (s + 1) _ tab2 (by omega) (by omega) q1 m3 m4 (fun q i hi => (hTW q i hi).eqv (fun q b1 b2 => ?_)) (hf.tr (fun q b1 b2 => (q3 q (by omega) (by omega)).trans (w8 q (by omega)))) ?_
              · rw [q3 q (by omega) (by omega), u2 q (by omega), rl_u_n (by omega)]
                exact f9 q (by omega)
              · rw [he]
                show ((fwf s g ns g.length 0 [(0, 0)]).bind (aput tab1 _)).bind _ = _
                rw [z3]
                show (aput tab1 _ L9).bind _ = _
                rw [m1]
                rfl
            · refine o_iconst (v := nI 0) hC dX2_putGroup_81 (by decide +kernel) ?_
              refine o_zret hC hB dX2_putGroup_82 (by first | rfl | decide +kernel) (Nat.le_of_ble_eq_true rfl) (Nat.le_of_ble_eq_true rfl) ?_
              rcases q2 with ⟨tab2, m1, m2, -, -⟩ | ⟨m1, m2, m3⟩
              · exact absurd (c_78.symm.trans m2) (by decide +kernel)
              · refine ⟨_, rfl, rfl, ⟨_, q1⟩, hf.tr (fun q b1 b2 => (q3 q (by omega) (by omega)).trans (w8 q (by omega))), Or.inr ⟨?_, rfl, m3⟩⟩
                rw [hfg, he]
                show ((fwf s g ns g.length 0 [(0, 0)]).bind (aput tab1 _)).bind _ = _
                rw [z3]
                show (aput tab1 _ L9).bind _ = _
                rw [m1]
                rfl
    exact loop (2 ^ g.length - 1) 1 _ tab (by omega) (Nat.le_refl _) v1 v3 hok z2 v2.g1 rfl
  · refine o_iconst (v := nI 0) hC dX2_putGroup_8 (by decide +kernel) ?_
    refine o_zret hC hB dX2_putGroup_9 (by first | rfl | decide +kernel) (Nat.le_of_ble_eq_true rfl) (Nat.le_of_ble_eq_true rfl) ?_
    rcases w0 with ⟨z2, -⟩ | ⟨-, z1⟩
    · exact absurd (c_5.symm.trans z2) (by decide +kernel)
    · exact ⟨_, rfl, rfl, ⟨_, v1⟩, v2.g1, Or.inr ⟨by unfold fgr; rw [z1]; rfl, rfl, v3.ti⟩⟩

set_option maxHeartbeats 4000000 in
set_option maxRecDepth 100000 in
theorem cp_X2_fillFold (l : Launch) (D : va_G) (ids : Nat → ClassId) (H0 : Heap) (h : rl_H) (n : Nat) (o so a a1 wd wd1 : Nat) (gp : Nat → Option Nat) (tab tb : List arow) (nd c4 c5 kd : Nat) (f0 f1 f2 f3 f7 f8 : Int32) (ho : op_sh ids h o so gp) (ht : ctb ids h a wd tab) (hok : aok wd tab) (hi : ctb ids h a1 wd1 tb) (hbk : aok wd1 tb) (hoa : o + 22 ≤ a ∨ a + 402 ≤ o) (hoi : o + 22 ≤ a1 ∨ a1 + 402 ≤ o) (hia : a1 + 402 ≤ a ∨ a + 402 ≤ a1) (hwd : wd = 2) (hnd : h nd = some (.inr (1, [.int f0, .int f1, .int f2, .int f3, .int (nI c4), .int (nI c5), .int (nI kd), .int f7, .int f8]))) (h4 : c4 < wd1) (h5 : c5 < wd1) (hw16 : wd1 ≤ 6) (h6 : kd ≤ 3) (hno : nd < o ∨ o + 22 ≤ nd) (hna : nd < a ∨ a + 402 ≤ nd) : rl_Met l (rl_e D ids H0) rl_BW rl_Ns yX2_fillFold cX2_fillFold 6 (some .boolean) ({ frames := 5, cells := 0, slots := 0, locals := 173 }) [.ref o, .ref nd, .ref a1, .ref a] h n (fun v h' n' => ∃ x : Int32, v = some (.int x) ∧ n' = n ∧ (∃ gp' : Nat → Option Nat, op_sh ids h' o so gp') ∧ rl_g2 h h' o (o + 22) a (a + 402) ∧ pres ids h' a wd (ffo tb c4 c5 kd tb.length 0 tab) x) := by
  obtain ⟨P1, S1, hi0, hP1, hrow1⟩ := id hi
  have tl80 := hbk.2.2
  refine rl_Met.of (by decide +kernel) (Nat.le_of_ble_eq_true rfl) ?_
  intro X hC hB
  have loop : ∀ (m t : Nat) (o5 : Option Value) (h1 : rl_H) (gp1 : Nat → Option Nat) (tab1 : List arow), t + m = tb.length → op_sh ids h1 o so gp1 → ctb ids h1 a wd tab1 → aok wd tab1 → rl_g2 h h1 o (o + 22) a (a + 402) → (ffo tb c4 c5 kd tb.length 0 tab) = ffo tb c4 c5 kd m t tab1 → rl_G X (rl_e D ids H0) 3 [some (.ref o), some (.ref nd), some (.ref a1), some (.ref a), some (.int (nI t)), o5] [] h1 n 0 0 := by
    intro m
    induction m with
    | zero =>
      intro t o5 h1 gp1 tab1 hm ho1 ht1 hk1 hf he
      obtain ⟨t1, ⟨tf, t2, t3⟩, t4, t5, t6, t7⟩ := hi0.eqv (h' := h1) (fun q q1 q2 => hf q (by omega) (by omega))
      refine o_iload hC dX2_fillFold_3 (by rfl) ?_
      refine o_aload_n hC dX2_fillFold_5 (by rfl) ?_
      refine o_getf hC (fX2_103 hC rfl) dX2_fillFold_6 (by repeat (first | with_reducible assumption | (rw [rl_u_s]; done) | (rw [rl_u_s]; rfl) | rw [rl_u_n (by first | with_reducible assumption | omega)])) (by first | rfl | with_reducible assumption) ?_
      refine o_icmp_ge (tgt := 63) hC dX2_fillFold_9 (by decide) (fun c_9 => ?_) (fun c_9 => ?_)
      · refine o_iconst (v := nI 1) hC dX2_fillFold_63 (by decide +kernel) ?_
        refine o_zret hC hB dX2_fillFold_64 (by first | rfl | decide +kernel) (Nat.le_of_ble_eq_true rfl) (Nat.le_of_ble_eq_true rfl) ?_
        exact ⟨_, rfl, rfl, ⟨_, ho1⟩, hf, Or.inl ⟨tab1, by rw [he]; rfl, rfl, ht1, hk1⟩⟩
      · exact absurd (nI_le (by omega) (by omega)) c_9
    | succ m ih =>
      intro t o5 h1 gp1 tab1 hm ho1 ht1 hk1 hf he
      have hi1 := hi0.eqv (h' := h1) (fun q q1 q2 => hf q (by omega) (by omega))
      obtain ⟨t1, -, -, -, t6, -⟩ := id hi1
      have n1 := (hf nd (by omega) (by omega)).trans hnd
      refine o_iload hC dX2_fillFold_3 (by rfl) ?_
      refine o_aload_n hC dX2_fillFold_5 (by rfl) ?_
      refine o_getf hC (fX2_103 hC rfl) dX2_fillFold_6 (by repeat (first | with_reducible assumption | (rw [rl_u_s]; done) | (rw [rl_u_s]; rfl) | rw [rl_u_n (by first | with_reducible assumption | omega)])) (by first | rfl | with_reducible assumption) ?_
      refine o_icmp_ge (tgt := 63) hC dX2_fillFold_9 (by decide) (fun c_9 => ?_) (fun c_9 => ?_)
      · exact absurd c_9 (nI_ge (by omega) (by omega))
      · refine o_aload_n hC dX2_fillFold_12 (by rfl) ?_
        refine o_iload hC dX2_fillFold_13 (by rfl) ?_
        refine o_aload_n hC dX2_fillFold_15 (by rfl) ?_
        refine o_getf hC (fX2_119 hC rfl) dX2_fillFold_16 (by repeat (first | with_reducible assumption | (rw [rl_u_s]; done) | (rw [rl_u_s]; rfl) | rw [rl_u_n (by first | with_reducible assumption | omega)])) (by first | rfl | with_reducible assumption) ?_
        refine o_callS3 hC rl_BW_good rl_Ns_nw (by exact hB.2.2.2.2.2) YX2_isFirstOfGroup SX2_isFirstOfGroup (mX2_155 hC) (by rw [hB.1]; exact cp_X2_isFirstOfGroup l D ids H0 _ _ a1 wd1 t c4 P1 S1 tb hi1 hrow1 tl80 (by omega) h4) (Nat.le_of_ble_eq_true rfl) (by rw [hB.2.1]; first | exact Nat.le_of_ble_eq_true rfl | (dsimp only; omega)) (by rw [hB.2.1]; first | exact Nat.le_of_ble_eq_true rfl | (dsimp only; omega)) (by rw [hB.2.1]; first | exact Nat.le_of_ble_eq_true rfl | (dsimp only; omega)) (by rw [hB.2.1]; first | exact Nat.le_of_ble_eq_true rfl | (dsimp only; omega)) dX2_fillFold_19 (fun v h_19 n_19 p_19 => ?_)
        obtain ⟨x0, rfl, rfl, rfl, y0⟩ := p_19
        try dsimp only [Option.toList, List.cons_append, List.nil_append]
        refine o_if_eq (tgt := 57) hC dX2_fillFold_22 (by decide) (fun c_22 => ?_) (fun c_22 => ?_)
        · refine o_iinc hC dX2_fillFold_57 (by rfl) (rl_inc _) (Nat.le_of_ble_eq_true rfl) ?_
          refine o_goto (tgt := 3) hC dX2_fillFold_60 (by decide) ?_
          have hfst : ¬ ffr tb c4 t t 0 = true := by
            intro e
            rw [e] at y0
            exact absurd (y0.symm.trans c_22) (by decide +kernel)
          rw [ffo_0 hfst] at he
          exact ih (t + 1) _ _ _ tab1 (by omega) ho1 ht1 hk1 hf he
        · refine o_aload_n hC dX2_fillFold_25 (by rfl) ?_
          refine o_aload_n hC dX2_fillFold_26 (by rfl) ?_
          refine o_iload hC dX2_fillFold_27 (by rfl) ?_
          refine o_aload_n hC dX2_fillFold_29 (by rfl) ?_
          refine o_getf hC (fX2_119 hC rfl) dX2_fillFold_30 (by repeat (first | with_reducible assumption | (rw [rl_u_s]; done) | (rw [rl_u_s]; rfl) | rw [rl_u_n (by first | with_reducible assumption | omega)])) (by first | rfl | with_reducible assumption) ?_
          refine o_callV3 hC rl_BW_good rl_Ns_nw (by exact hB.2.2.2.2.2) YX2_gatherGroup IX2_gatherGroup VX2_gatherGroup (mX2_159 hC) (by rw [hB.1]; exact cp_X2_gatherGroup l D ids H0 _ _ o so a1 wd1 t c4 _ P1 S1 tb ho1 hi1 hrow1 tl80 hoi (by omega) h4) (by exact ho1.1) rfl rfl (Nat.le_of_ble_eq_true rfl) (by rw [hB.2.1]; first | exact Nat.le_of_ble_eq_true rfl | (dsimp only; omega)) (by rw [hB.2.1]; first | exact Nat.le_of_ble_eq_true rfl | (dsimp only; omega)) (by rw [hB.2.1]; first | exact Nat.le_of_ble_eq_true rfl | (dsimp only; omega)) (by rw [hB.2.1]; first | exact Nat.le_of_ble_eq_true rfl | (dsimp only; omega)) dX2_fillFold_33 (fun v h_33 n_33 p_33 => ?_)
          obtain ⟨rfl, rfl, gp2, v1, v2, v3⟩ := p_33
          have hfst : ffr tb c4 t t 0 = true := by
            cases e : ffr tb c4 t t 0 with
            | true => rfl
            | false => rw [e] at y0; exact absurd y0 c_22
          rw [ffo_1 hfst] at he
          have hgl : (fgp tb c4 t).length ≤ 80 := Nat.le_trans (List.length_filter_le _ _) (by rw [List.length_drop]; omega)
          have hi3 := hi1.eqv (h' := h_33) (fun q q1 q2 => v3 q (by omega))
          have n3 := (v3 nd (by omega)).trans n1
          have ht3 := ht1.eqv (h' := h_33) (fun q q1 q2 => v3 q (by omega))
          have hf3 : rl_g2 h h_33 o (o + 22) a (a + 402) := hf.tr ((v3.wd (a' := o) (b' := o + 22) (by omega) (by omega)).g1)
          have hgo : ∀ r ∈ fgp tb c4 t, wok r.2 := fun r hr => (hbk.2.1 r (List.mem_of_mem_drop (List.mem_filter.mp hr).1)).2.1
          try dsimp only [Option.toList, List.cons_append, List.nil_append]
          refine o_istore hC dX2_fillFold_36 (Nat.le_of_ble_eq_true rfl) ?_
          refine o_iload hC dX2_fillFold_38 (by rfl) ?_
          refine o_iconst (v := nI 4) hC dX2_fillFold_40 (by decide +kernel) ?_
          refine o_icmp_gt (tgt := 55) hC dX2_fillFold_41 (by decide) (fun c_41 => ?_) (fun c_41 => ?_)
          · refine o_iconst (v := nI 0) hC dX2_fillFold_55 (by decide +kernel) ?_
            refine o_zret hC hB dX2_fillFold_56 (by first | rfl | decide +kernel) (Nat.le_of_ble_eq_true rfl) (Nat.le_of_ble_eq_true rfl) ?_
            have h4k : 4 < (fgp tb c4 t).length := by
              rcases Nat.lt_or_ge 4 (fgp tb c4 t).length with q | q
              · exact q
              · exact absurd c_41 (nI_nlt q (by decide))
            rw [if_pos h4k] at he
            exact ⟨_, rfl, rfl, ⟨_, v1⟩, hf3, Or.inr ⟨he, rfl, ht3.ti⟩⟩
          · have hk4 : (fgp tb c4 t).length ≤ 4 := by
              rcases Nat.lt_or_ge 4 (fgp tb c4 t).length with q | q
              · exact absurd (nI_lt q (by omega)) c_41
              · exact q
            rw [if_neg (by omega)] at he
            refine o_aload_n hC dX2_fillFold_44 (by rfl) ?_
            refine o_aload_n hC dX2_fillFold_45 (by rfl) ?_
            refine o_iload hC dX2_fillFold_46 (by rfl) ?_
            refine o_aload_n hC dX2_fillFold_48 (by rfl) ?_
            refine o_callV3 hC rl_BW_good rl_Ns_nw (by exact hB.2.2.2.2.2) YX2_putGroup IX2_putGroup VX2_putGroup (mX2_163 hC) (by rw [hB.1]; exact cp_X2_putGroup l D ids H0 _ _ o so a wd a1 tb.length wd1 nd c4 c5 kd gp2 P1 S1 (fgp tb c4 t) tab1 _ _ _ _ _ _ v1 ht3 hk1 hwd (by omega) (by omega) hi3 (by omega) hk4 v2 hgo n3 h4 h5 hw16 h6 hno hna) (by exact v1.1) rfl rfl (Nat.le_of_ble_eq_true rfl) (by rw [hB.2.1]; first | exact Nat.le_of_ble_eq_true rfl | (dsimp only; omega)) (by rw [hB.2.1]; first | exact Nat.le_of_ble_eq_true rfl | (dsimp only; omega)) (by rw [hB.2.1]; first | exact Nat.le_of_ble_eq_true rfl | (dsimp only; omega)) (by rw [hB.2.1]; first | exact Nat.le_of_ble_eq_true rfl | (dsimp only; omega)) dX2_fillFold_49 (fun v h_49 n_49 p_49 => ?_)
            obtain ⟨x, rfl, rfl, ⟨gp3, q1⟩, q3, q2⟩ := p_49
            try dsimp only [Option.toList, List.cons_append, List.nil_append]
            refine o_if_ne (tgt := 57) hC dX2_fillFold_52 (by decide) (fun c_52 => ?_) (fun c_52 => ?_)
            · refine o_iinc hC dX2_fillFold_57 (by rfl) (rl_inc _) (Nat.le_of_ble_eq_true rfl) ?_
              refine o_goto (tgt := 3) hC dX2_fillFold_60 (by decide) ?_
              rcases q2 with ⟨tab2, m1, m2, m3, m4⟩ | ⟨-, m2, -⟩
              rotate_left
              · exact absurd m2 c_52
              exact ih (t + 1) _ _ _ tab2 (by omega) q1 m3 m4 (hf3.tr q3) (by rw [he, m1]; rfl)
            · refine o_iconst (v := nI 0) hC dX2_fillFold_55 (by decide +kernel) ?_
              refine o_zret hC hB dX2_fillFold_56 (by first | rfl | decide +kernel) (Nat.le_of_ble_eq_true rfl) (Nat.le_of_ble_eq_true rfl) ?_
              rcases q2 with ⟨tab2, m1, m2, -, -⟩ | ⟨m1, m2, m3⟩
              · exact absurd (c_52.symm.trans m2) (by decide +kernel)
              · exact ⟨_, rfl, rfl, ⟨_, q1⟩, hf3.tr q3, Or.inr ⟨by rw [he, m1]; rfl, rfl, m3⟩⟩
  show rl_G X (rl_e D ids H0) 0 [some (.ref o), some (.ref nd), some (.ref a1), some (.ref a), none, none] [] h n 0 0
  refine o_iconst (v := nI 0) hC dX2_fillFold_0 (by decide +kernel) ?_
  refine o_istore hC dX2_fillFold_1 (Nat.le_of_ble_eq_true rfl) ?_
  exact loop tb.length 0 _ h gp tab (by omega) ho ht hok rl_g2.rf rfl

/-! what a node gives, of what its parts give -/
def iN (x : Int32) : Nat := x.toNatClampNeg
theorem iN_nI {k : Nat} (h : k < 2147483648) : iN (nI k) = k := nI_clamp h
def oN (x : Int32) : Option Nat := if x = -1 then none else some (iN x)
def nfn (sf : Nat → Int32) (cf : Nat → Nat → Int32) (rc : Nat) (op w : Nat) (f4 f5 f6 f7 : Int32) (tb td : List arow) : Option (List arow) :=
  if op = 0 then aall [] (csc sf cf f7 w 0 rc) else if op = 1 then aall [] ((tb.filter (fun r => ppk f6 f7 (iN f4) (oN f5) r)).map (fun r => (r.1, some r.2)))
  else if op = 2 then aall [] (tb.map (fun r => (ccl (iN f7) w r, some r.2))) else if op = 3 then aall [] (jll (iN f4) (iN f5) tb td)
  else if op = 4 then (aall [] (tb.map (fun r => (r.1, some r.2)))).bind (fun x => aall x (td.map (fun r => (r.1, some r.2))))
  else if op = 5 then aall [] (tb.map (fun r => (r.1, mno r.2 (afd td r.1)))) else ffo tb (iN f4) (iN f5) (iN f6) tb.length 0 []
/-- what a node's numbers must be, beside its parts' widths -/
def nd_f (op w : Nat) (f4 f5 f6 f7 : Int32) (wd1 wd2 : Nat) : Prop :=
  op ≤ 6 ∧ 1 ≤ w ∧ w ≤ 6 ∧ wd1 ≤ 6 ∧ wd2 ≤ 6 ∧ (op = 0 → w ≤ 4) ∧
  (op = 1 → w = wd1 ∧ (∃ c4 : Nat, c4 < wd1 ∧ f4 = nI c4) ∧ (f5 = -1 ∨ ∃ c5 : Nat, c5 < wd1 ∧ f5 = nI c5) ∧ ∃ kd : Nat, kd ≤ 2 ∧ f6 = nI kd) ∧
  (op = 2 → ∃ N : Nat, N < 1000000 ∧ f7 = nI N ∧ N / 10 ^ w = 0 ∧ (∀ c : Nat, c < w → N / 10 ^ c ≠ 0) ∧ ∀ c : Nat, c < w → 1 ≤ N / 10 ^ c % 10 ∧ N / 10 ^ c % 10 ≤ wd1) ∧
  (op = 3 → (∃ c4 : Nat, c4 < wd1 ∧ f4 = nI c4) ∧ (∃ c5 : Nat, c5 < wd2 ∧ f5 = nI c5) ∧ w = wd1 + wd2) ∧ (op = 4 ∨ op = 5 → w = wd1 ∧ w = wd2) ∧
  (op = 6 → w = 2 ∧ (∃ c4 : Nat, c4 < wd1 ∧ f4 = nI c4) ∧ (∃ c5 : Nat, c5 < wd1 ∧ f5 = nI c5) ∧ ∃ kd : Nat, kd ≤ 3 ∧ f6 = nI kd)

set_option maxHeartbeats 4000000 in
set_option maxRecDepth 100000 in
theorem cp_X2_fill (l : Launch) (D : va_G) (ids : Nat → ClassId) (H0 : Heap) (h : rl_H) (n : Nat) (o so a w wd0 op nd a1 a2 wd1 wd2 sc rc : Nat) (gp : Nat → Option Nat) (tb td : List arow) (wf sf : Nat → Int32) (cf : Nat → Nat → Int32) (f2 f3 f4 f5 f6 f7 f8 : Int32) (ho : op_sh ids h o so gp) (ht : tbi ids h a wd0) (hs : so_at ids h so wf sf cf sc rc) (hnd : h nd = some (.inr (1, [.int (nI op), .int (nI w), .int f2, .int f3, .int f4, .int f5, .int f6, .int f7, .int f8]))) (hok : nd_f op w f4 f5 f6 f7 wd1 wd2) (hoa : o + 22 ≤ a ∨ a + 402 ≤ o) (hso : so + 40 ≤ o ∨ o + 22 ≤ so) (hsa : so + 40 ≤ a ∨ a + 402 ≤ so) (hno : nd < o ∨ o + 22 ≤ nd) (hna : nd < a ∨ a + 402 ≤ nd) (hi : 1 ≤ op → ctb ids h a1 wd1 tb ∧ aok wd1 tb ∧ (o + 22 ≤ a1 ∨ a1 + 402 ≤ o) ∧ (a1 + 402 ≤ a ∨ a + 402 ≤ a1)) (hj : op = 3 ∨ op = 4 ∨ op = 5 → ctb ids h a2 wd2 td ∧ aok wd2 td ∧ (o + 22 ≤ a2 ∨ a2 + 402 ≤ o) ∧ (a2 + 402 ≤ a ∨ a + 402 ≤ a2)) : rl_Met l (rl_e D ids H0) rl_BW rl_Ns yX2_fill cX2_fill 6 (some .boolean) ({ frames := 6, cells := 0, slots := 0, locals := 201 }) [.ref o, .ref nd, .ref so, .ref a1, .ref a2, .ref a] h n (fun v h' n' => ∃ x : Int32, v = some (.int x) ∧ n' = n ∧ (∃ gp' : Nat → Option Nat, op_sh ids h' o so gp') ∧ rl_g2 h h' o (o + 22) a (a + 402) ∧ pres ids h' a w (nfn sf cf rc op w f4 f5 f6 f7 tb td) x) := by
  obtain ⟨sz0, P0, S0, ht0, -⟩ := id ht
  have t1 := ht0.1
  have op6 := hok.1
  have w6 := hok.2.2.1
  have w16 := hok.2.2.2.1
  have w26 := hok.2.2.2.2.1
  refine rl_Met.of (by decide +kernel) (Nat.le_of_ble_eq_true rfl) ?_
  intro X hC hB
  show rl_G X (rl_e D ids H0) 0 [some (.ref o), some (.ref nd), some (.ref so), some (.ref a1), some (.ref a2), some (.ref a)] [] h n 0 0
  refine o_aload hC dX2_fill_0 (by rfl) ?_
  refine o_aload_n hC dX2_fill_2 (by rfl) ?_
  refine o_getf hC (fX2_39 hC rfl) dX2_fill_3 (by repeat (first | with_reducible assumption | (rw [rl_u_s]; done) | (rw [rl_u_s]; rfl) | rw [rl_u_n (by first | with_reducible assumption | omega)])) (by first | rfl | with_reducible assumption) ?_
  refine o_callV1 hC rl_BW_good rl_Ns_nw (by exact hB.2.2.2.2.2) YX4_begin IX4_begin VX4_begin (mX2_45 hC) (by rw [hB.1]; exact ct_X4_begin l D ids H0 _ _ a _ _ _ _ t1) (by exact t1) rfl rfl (Nat.le_of_ble_eq_true rfl) (by rw [hB.2.1]; first | exact Nat.le_of_ble_eq_true rfl | (dsimp only; omega)) (by rw [hB.2.1]; first | exact Nat.le_of_ble_eq_true rfl | (dsimp only; omega)) (by rw [hB.2.1]; first | exact Nat.le_of_ble_eq_true rfl | (dsimp only; omega)) (by rw [hB.2.1]; first | exact Nat.le_of_ble_eq_true rfl | (dsimp only; omega)) dX2_fill_6 (fun v h_6 n_6 p_6 => ?_)
  obtain ⟨rfl, rfl, b1, b2⟩ := p_6
  have b3 : ∀ q, q ≠ a → h_6 q = h q := fun q hq => b2 q (by omega)
  have ho2 : op_sh ids h_6 o so gp := ho.eqv (fun q q1 q2 => b3 q (by omega))
  have ht2 : ctb ids h_6 a w [] := ht.begin w6 b1 b3
  have hs2 := hs.eqv (h' := h_6) (fun q q1 q2 => b3 q (by omega))
  have n2 := (b3 nd (by omega)).trans hnd
  have o2 := ho2.1
  try dsimp only [Option.toList, List.cons_append, List.nil_append]
  refine o_aload_n hC dX2_fill_9 (by rfl) ?_
  refine o_getf hC (fX2_51 hC rfl) dX2_fill_10 (by repeat (first | with_reducible assumption | (rw [rl_u_s]; done) | (rw [rl_u_s]; rfl) | rw [rl_u_n (by first | with_reducible assumption | omega)])) (by first | rfl | with_reducible assumption) ?_
  rcases (show op = 0 ∨ op = 1 ∨ op = 2 ∨ op = 3 ∨ op = 4 ∨ op = 5 ∨ op = 6 by omega) with rfl | rfl | rfl | rfl | rfl | rfl | rfl
  · refine o_tableIn (off := 39) (tgt := 52) hC dX2_fill_13 (by decide +kernel) (by decide +kernel) (by decide +kernel) (by decide) ?_
    refine o_aload_n hC dX2_fill_52 (by rfl) ?_
    refine o_aload_n hC dX2_fill_53 (by rfl) ?_
    refine o_aload_n hC dX2_fill_54 (by rfl) ?_
    refine o_aload hC dX2_fill_55 (by rfl) ?_
    refine o_callV3 hC rl_BW_good rl_Ns_nw (by exact hB.2.2.2.2.2) YX2_fillScan IX2_fillScan VX2_fillScan (mX2_54 hC) (by rw [hB.1]; exact cp_X2_fillScan l D ids H0 _ _ o so a w nd sc rc gp [] wf sf cf _ _ _ _ _ _ _ _ _ ho2 ht2 (aok_nil _) hs2 n2 (by omega) (by omega) (by omega) (by omega) (by omega)) (by exact o2) rfl rfl (Nat.le_of_ble_eq_true rfl) (by rw [hB.2.1]; first | exact Nat.le_of_ble_eq_true rfl | (dsimp only; omega)) (by rw [hB.2.1]; first | exact Nat.le_of_ble_eq_true rfl | (dsimp only; omega)) (by rw [hB.2.1]; first | exact Nat.le_of_ble_eq_true rfl | (dsimp only; omega)) (by rw [hB.2.1]; first | exact Nat.le_of_ble_eq_true rfl | (dsimp only; omega)) dX2_fill_57 (fun v h_57 n_57 p_57 => ?_)
    obtain ⟨x, rfl, rfl, ⟨gp3, q1⟩, q3, q2⟩ := p_57
    try dsimp only [Option.toList, List.cons_append, List.nil_append]
    refine o_zret hC hB dX2_fill_60 (by rcases q2 with ⟨-, -, q, -⟩ | ⟨-, q, -⟩ <;> (rw [q]; decide +kernel)) (Nat.le_of_ble_eq_true rfl) (Nat.le_of_ble_eq_true rfl) ?_
    refine ⟨_, rfl, rfl, ⟨_, q1⟩, (fun q z1 z2 => (q3 q (by omega) (by omega)).trans (b3 q (by omega))), ?_⟩
    show pres ids _ a _ (nfn sf cf rc 0 _ _ _ _ _ tb td) _
    unfold nfn
    rw [if_pos rfl]
    exact q2
  · obtain ⟨i1, ik, i2, i3⟩ := hi (by decide)
    have i4 := i1.eqv (h' := h_6) (fun q q1 q2 => b3 q (by omega))
    obtain ⟨rfl, ⟨c4, h4, rfl⟩, hf5, kd, h6, rfl⟩ := hok.2.2.2.2.2.2.1 rfl
    have hoc : (oN f5 = none ∧ f5 = -1) ∨ ∃ c : Nat, oN f5 = some c ∧ c < w ∧ f5 = nI c := by
      rcases hf5 with rfl | ⟨c5, h5, rfl⟩
      · exact Or.inl ⟨if_pos rfl, rfl⟩
      · refine Or.inr ⟨c5, ?_, h5, rfl⟩
        unfold oN
        rw [if_neg (fun e => absurd (e ▸ (show (-1 : Int32) < 0 by decide +kernel)) (nI_pos (by omega))), iN_nI (by omega)]
    refine o_tableIn (off := 48) (tgt := 61) hC dX2_fill_13 (by decide +kernel) (by decide +kernel) (by decide +kernel) (by decide) ?_
    refine o_aload_n hC dX2_fill_61 (by rfl) ?_
    refine o_aload_n hC dX2_fill_62 (by rfl) ?_
    refine o_aload_n hC dX2_fill_63 (by rfl) ?_
    refine o_aload hC dX2_fill_64 (by rfl) ?_
    refine o_callV3 hC rl_BW_good rl_Ns_nw (by exact hB.2.2.2.2.2) YX2_fillPick IX2_fillPick VX2_fillPick (mX2_58 hC) (by rw [hB.1]; exact cp_X2_fillPick l D ids H0 _ _ o so a a1 w gp [] tb nd c4 kd (oN f5) _ _ _ _ f5 f7 _ ho2 ht2 (aok_nil _) i4 ik (by omega) (by omega) (by omega) n2 h4 w6 hoc h6 (by omega) (by omega)) (by exact o2) rfl rfl (Nat.le_of_ble_eq_true rfl) (by rw [hB.2.1]; first | exact Nat.le_of_ble_eq_true rfl | (dsimp only; omega)) (by rw [hB.2.1]; first | exact Nat.le_of_ble_eq_true rfl | (dsimp only; omega)) (by rw [hB.2.1]; first | exact Nat.le_of_ble_eq_true rfl | (dsimp only; omega)) (by rw [hB.2.1]; first | exact Nat.le_of_ble_eq_true rfl | (dsimp only; omega)) dX2_fill_66 (fun v h_66 n_66 p_66 => ?_)
    obtain ⟨x, rfl, rfl, ⟨gp3, q1⟩, q3, q2⟩ := p_66
    try dsimp only [Option.toList, List.cons_append, List.nil_append]
    refine o_zret hC hB dX2_fill_69 (by rcases q2 with ⟨-, -, q, -⟩ | ⟨-, q, -⟩ <;> (rw [q]; decide +kernel)) (Nat.le_of_ble_eq_true rfl) (Nat.le_of_ble_eq_true rfl) ?_
    refine ⟨_, rfl, rfl, ⟨_, q1⟩, (fun q z1 z2 => (q3 q (by omega) (by omega)).trans (b3 q (by omega))), ?_⟩
    show pres ids _ a _ (nfn sf cf rc 1 _ _ _ _ _ tb td) _
    unfold nfn
    rw [if_neg (by decide), if_pos rfl]
    rw [iN_nI (by omega)]
    exact q2
  · obtain ⟨i1, ik, i2, i3⟩ := hi (by decide)
    have i4 := i1.eqv (h' := h_6) (fun q q1 q2 => b3 q (by omega))
    obtain ⟨N, hN, rfl, hN0, hNz, hdg⟩ := hok.2.2.2.2.2.2.2.1 rfl
    refine o_tableIn (off := 57) (tgt := 70) hC dX2_fill_13 (by decide +kernel) (by decide +kernel) (by decide +kernel) (by decide) ?_
    refine o_aload_n hC dX2_fill_70 (by rfl) ?_
    refine o_aload_n hC dX2_fill_71 (by rfl) ?_
    refine o_aload_n hC dX2_fill_72 (by rfl) ?_
    refine o_aload hC dX2_fill_73 (by rfl) ?_
    refine o_callV3 hC rl_BW_good rl_Ns_nw (by exact hB.2.2.2.2.2) YX2_fillCols IX2_fillCols VX2_fillCols (mX2_62 hC) (by rw [hB.1]; exact cp_X2_fillCols l D ids H0 _ _ o so a a1 w wd1 gp [] tb nd N _ _ _ _ _ _ _ ho2 ht2 (aok_nil _) i4 ik (by omega) (by omega) (by omega) n2 w6 (by omega) hdg w16 (by omega) (by omega)) (by exact o2) rfl rfl (Nat.le_of_ble_eq_true rfl) (by rw [hB.2.1]; first | exact Nat.le_of_ble_eq_true rfl | (dsimp only; omega)) (by rw [hB.2.1]; first | exact Nat.le_of_ble_eq_true rfl | (dsimp only; omega)) (by rw [hB.2.1]; first | exact Nat.le_of_ble_eq_true rfl | (dsimp only; omega)) (by rw [hB.2.1]; first | exact Nat.le_of_ble_eq_true rfl | (dsimp only; omega)) dX2_fill_75 (fun v h_75 n_75 p_75 => ?_)
    obtain ⟨x, rfl, rfl, ⟨gp3, q1⟩, q3, q2⟩ := p_75
    try dsimp only [Option.toList, List.cons_append, List.nil_append]
    refine o_zret hC hB dX2_fill_78 (by rcases q2 with ⟨-, -, q, -⟩ | ⟨-, q, -⟩ <;> (rw [q]; decide +kernel)) (Nat.le_of_ble_eq_true rfl) (Nat.le_of_ble_eq_true rfl) ?_
    refine ⟨_, rfl, rfl, ⟨_, q1⟩, (fun q z1 z2 => (q3 q (by omega) (by omega)).trans (b3 q (by omega))), ?_⟩
    show pres ids _ a _ (nfn sf cf rc 2 _ _ _ _ _ tb td) _
    unfold nfn
    rw [if_neg (by decide), if_neg (by decide), if_pos rfl]
    rw [iN_nI (by omega)]
    exact q2
  · obtain ⟨i1, ik, i2, i3⟩ := hi (by decide)
    have i4 := i1.eqv (h' := h_6) (fun q q1 q2 => b3 q (by omega))
    obtain ⟨j1, jk, j2, j3⟩ := hj (by decide)
    have j4 := j1.eqv (h' := h_6) (fun q q1 q2 => b3 q (by omega))
    obtain ⟨⟨c4, h4, rfl⟩, ⟨c5, h5, rfl⟩, hwd⟩ := hok.2.2.2.2.2.2.2.2.1 rfl
    refine o_tableIn (off := 66) (tgt := 79) hC dX2_fill_13 (by decide +kernel) (by decide +kernel) (by decide +kernel) (by decide) ?_
    refine o_aload_n hC dX2_fill_79 (by rfl) ?_
    refine o_aload_n hC dX2_fill_80 (by rfl) ?_
    refine o_aload_n hC dX2_fill_81 (by rfl) ?_
    refine o_aload hC dX2_fill_82 (by rfl) ?_
    refine o_aload hC dX2_fill_84 (by rfl) ?_
    refine o_callV4 hC rl_BW_good rl_Ns_nw (by exact hB.2.2.2.2.2) YX2_fillJoin IX2_fillJoin VX2_fillJoin (mX2_65 hC) (by rw [hB.1]; exact cp_X2_fillJoin l D ids H0 _ _ o so a a1 w wd1 gp [] tb a2 wd2 nd c4 c5 td _ _ _ _ _ _ _ ho2 ht2 (aok_nil _) i4 ik (by omega) (by omega) (by omega) j4 jk (by omega) (by omega) n2 h4 h5 (by omega) (by omega) hwd (by omega)) (by exact o2) rfl rfl (Nat.le_of_ble_eq_true rfl) (by rw [hB.2.1]; first | exact Nat.le_of_ble_eq_true rfl | (dsimp only; omega)) (by rw [hB.2.1]; first | exact Nat.le_of_ble_eq_true rfl | (dsimp only; omega)) (by rw [hB.2.1]; first | exact Nat.le_of_ble_eq_true rfl | (dsimp only; omega)) (by rw [hB.2.1]; first | exact Nat.le_of_ble_eq_true rfl | (dsimp only; omega)) dX2_fill_86 (fun v h_86 n_86 p_86 => ?_)
    obtain ⟨x, rfl, rfl, ⟨gp3, q1⟩, q3, q2⟩ := p_86
    try dsimp only [Option.toList, List.cons_append, List.nil_append]
    refine o_zret hC hB dX2_fill_89 (by rcases q2 with ⟨-, -, q, -⟩ | ⟨-, q, -⟩ <;> (rw [q]; decide +kernel)) (Nat.le_of_ble_eq_true rfl) (Nat.le_of_ble_eq_true rfl) ?_
    refine ⟨_, rfl, rfl, ⟨_, q1⟩, (fun q z1 z2 => (q3 q (by omega) (by omega)).trans (b3 q (by omega))), ?_⟩
    show pres ids _ a _ (nfn sf cf rc 3 _ _ _ _ _ tb td) _
    unfold nfn
    rw [if_neg (by decide), if_neg (by decide), if_neg (by decide), if_pos rfl]
    rw [iN_nI (by omega), iN_nI (by omega)]
    exact q2
  · obtain ⟨i1, ik, i2, i3⟩ := hi (by decide)
    have i4 := i1.eqv (h' := h_6) (fun q q1 q2 => b3 q (by omega))
    obtain ⟨j1, jk, j2, j3⟩ := hj (by decide)
    have j4 := j1.eqv (h' := h_6) (fun q q1 q2 => b3 q (by omega))
    obtain ⟨rfl, rfl⟩ := hok.2.2.2.2.2.2.2.2.2.1 (Or.inl rfl)
    refine o_tableIn (off := 77) (tgt := 90) hC dX2_fill_13 (by decide +kernel) (by decide +kernel) (by decide +kernel) (by decide) ?_
    refine o_aload_n hC dX2_fill_90 (by rfl) ?_
    refine o_aload_n hC dX2_fill_91 (by rfl) ?_
    refine o_aload hC dX2_fill_92 (by rfl) ?_
    refine o_callV2 hC rl_BW_good rl_Ns_nw (by exact hB.2.2.2.2.2) YX2_putAll IX2_putAll VX2_putAll (mX2_69 hC) (by rw [hB.1]; exact cp_X2_putAll l D ids H0 _ _ o so a a1 w gp [] tb ho2 ht2 (aok_nil _) i4 ik (by omega) (by omega) (by omega)) (by exact o2) rfl rfl (Nat.le_of_ble_eq_true rfl) (by rw [hB.2.1]; first | exact Nat.le_of_ble_eq_true rfl | (dsimp only; omega)) (by rw [hB.2.1]; first | exact Nat.le_of_ble_eq_true rfl | (dsimp only; omega)) (by rw [hB.2.1]; first | exact Nat.le_of_ble_eq_true rfl | (dsimp only; omega)) (by rw [hB.2.1]; first | exact Nat.le_of_ble_eq_true rfl | (dsimp only; omega)) dX2_fill_94 (fun v h_94 n_94 p_94 => ?_)
    obtain ⟨x, rfl, rfl, ⟨gp3, q1⟩, q3, q2⟩ := p_94
    have o4 := q1.1
    have j5 := j4.eqv (h' := h_94) (fun q z1 z2 => q3 q (by omega) (by omega))
    try dsimp only [Option.toList, List.cons_append, List.nil_append]
    refine o_if_eq (tgt := 115) hC dX2_fill_97 (by decide) (fun c_97 => ?_) (fun c_97 => ?_)
    · refine o_iconst (v := nI 0) hC dX2_fill_115 (by decide +kernel) ?_
      refine o_zret hC hB dX2_fill_116 (by first | rfl | decide +kernel) (Nat.le_of_ble_eq_true rfl) (Nat.le_of_ble_eq_true rfl) ?_
      rcases q2 with ⟨tab2, m1, m2, -, -⟩ | ⟨m1, m2, m3⟩
      · exact absurd (c_97.symm.trans m2) (by decide +kernel)
      · refine ⟨_, rfl, rfl, ⟨_, q1⟩, (fun q z1 z2 => (q3 q (by omega) (by omega)).trans (b3 q (by omega))), Or.inr ⟨?_, rfl, m3⟩⟩
        unfold nfn
        rw [if_neg (by decide), if_neg (by decide), if_neg (by decide), if_neg (by decide), if_pos rfl, m1]
        rfl
    · rcases q2 with ⟨tab2, m1, m2, m3, m4⟩ | ⟨-, m2, -⟩
      rotate_left
      · exact absurd m2 c_97
      refine o_aload_n hC dX2_fill_100 (by rfl) ?_
      refine o_aload hC dX2_fill_101 (by rfl) ?_
      refine o_aload hC dX2_fill_103 (by rfl) ?_
      refine o_callV2 hC rl_BW_good rl_Ns_nw (by exact hB.2.2.2.2.2) YX2_putAll IX2_putAll VX2_putAll (mX2_69 hC) (by rw [hB.1]; exact cp_X2_putAll l D ids H0 _ _ o so a a2 w _ tab2 td q1 m3 m4 j5 jk (by omega) (by omega) (by omega)) (by exact q1.1) rfl rfl (Nat.le_of_ble_eq_true rfl) (by rw [hB.2.1]; first | exact Nat.le_of_ble_eq_true rfl | (dsimp only; omega)) (by rw [hB.2.1]; first | exact Nat.le_of_ble_eq_true rfl | (dsimp only; omega)) (by rw [hB.2.1]; first | exact Nat.le_of_ble_eq_true rfl | (dsimp only; omega)) (by rw [hB.2.1]; first | exact Nat.le_of_ble_eq_true rfl | (dsimp only; omega)) dX2_fill_105 (fun v h_105 n_105 p_105 => ?_)
      obtain ⟨x, rfl, rfl, ⟨gp4, r1⟩, r3, r2⟩ := p_105
      have o5 := r1.1
      try dsimp only [Option.toList, List.cons_append, List.nil_append]
      refine o_if_eq (tgt := 115) hC dX2_fill_108 (by decide) (fun c_108 => ?_) (fun c_108 => ?_)
      · refine o_iconst (v := nI 0) hC dX2_fill_115 (by decide +kernel) ?_
        refine o_zret hC hB dX2_fill_116 (by first | rfl | decide +kernel) (Nat.le_of_ble_eq_true rfl) (Nat.le_of_ble_eq_true rfl) ?_
        rcases r2 with ⟨tab3, p1, p2, -, -⟩ | ⟨p1, p2, p3⟩
        · exact absurd (c_108.symm.trans p2) (by decide +kernel)
        · refine ⟨_, rfl, rfl, ⟨_, r1⟩, fun q z1 z2 => (r3 q (by omega) (by omega)).trans ((q3 q (by omega) (by omega)).trans (b3 q (by omega))), Or.inr ⟨?_, rfl, p3⟩⟩
          unfold nfn
          rw [if_neg (by decide), if_neg (by decide), if_neg (by decide), if_neg (by decide), if_pos rfl, m1]
          exact p1
      · refine o_iconst (v := nI 1) hC dX2_fill_111 (by decide +kernel) ?_
        refine o_goto (tgt := 116) hC dX2_fill_112 (by decide) ?_
        refine o_zret hC hB dX2_fill_116 (by first | rfl | decide +kernel) (Nat.le_of_ble_eq_true rfl) (Nat.le_of_ble_eq_true rfl) ?_
        rcases r2 with ⟨tab3, p1, p2, p3, p4⟩ | ⟨-, p2, -⟩
        · refine ⟨_, rfl, rfl, ⟨_, r1⟩, fun q z1 z2 => (r3 q (by omega) (by omega)).trans ((q3 q (by omega) (by omega)).trans (b3 q (by omega))), Or.inl ⟨tab3, ?_, rfl, p3, p4⟩⟩
          unfold nfn
          rw [if_neg (by decide), if_neg (by decide), if_neg (by decide), if_neg (by decide), if_pos rfl, m1]
          exact p1
        · exact absurd p2 c_108
  · obtain ⟨i1, ik, i2, i3⟩ := hi (by decide)
    have i4 := i1.eqv (h' := h_6) (fun q q1 q2 => b3 q (by omega))
    obtain ⟨j1, jk, j2, j3⟩ := hj (by decide)
    have j4 := j1.eqv (h' := h_6) (fun q q1 q2 => b3 q (by omega))
    obtain ⟨rfl, rfl⟩ := hok.2.2.2.2.2.2.2.2.2.1 (Or.inr rfl)
    refine o_tableIn (off := 104) (tgt := 117) hC dX2_fill_13 (by decide +kernel) (by decide +kernel) (by decide +kernel) (by decide) ?_
    refine o_aload_n hC dX2_fill_117 (by rfl) ?_
    refine o_aload_n hC dX2_fill_118 (by rfl) ?_
    refine o_aload hC dX2_fill_119 (by rfl) ?_
    refine o_aload hC dX2_fill_121 (by rfl) ?_
    refine o_callV3 hC rl_BW_good rl_Ns_nw (by exact hB.2.2.2.2.2) YX2_fillMinus IX2_fillMinus VX2_fillMinus (mX2_73 hC) (by rw [hB.1]; exact cp_X2_fillMinus l D ids H0 _ _ o so a a1 w gp [] tb a2 td ho2 ht2 (aok_nil _) i4 ik (by omega) (by omega) (by omega) j4 jk (by omega) (by omega)) (by exact o2) rfl rfl (Nat.le_of_ble_eq_true rfl) (by rw [hB.2.1]; first | exact Nat.le_of_ble_eq_true rfl | (dsimp only; omega)) (by rw [hB.2.1]; first | exact Nat.le_of_ble_eq_true rfl | (dsimp only; omega)) (by rw [hB.2.1]; first | exact Nat.le_of_ble_eq_true rfl | (dsimp only; omega)) (by rw [hB.2.1]; first | exact Nat.le_of_ble_eq_true rfl | (dsimp only; omega)) dX2_fill_123 (fun v h_123 n_123 p_123 => ?_)
    obtain ⟨x, rfl, rfl, ⟨gp3, q1⟩, q3, q2⟩ := p_123
    try dsimp only [Option.toList, List.cons_append, List.nil_append]
    refine o_zret hC hB dX2_fill_126 (by rcases q2 with ⟨-, -, q, -⟩ | ⟨-, q, -⟩ <;> (rw [q]; decide +kernel)) (Nat.le_of_ble_eq_true rfl) (Nat.le_of_ble_eq_true rfl) ?_
    refine ⟨_, rfl, rfl, ⟨_, q1⟩, (fun q z1 z2 => (q3 q (by omega) (by omega)).trans (b3 q (by omega))), ?_⟩
    show pres ids _ a _ (nfn sf cf rc 5 _ _ _ _ _ tb td) _
    unfold nfn
    rw [if_neg (by decide), if_neg (by decide), if_neg (by decide), if_neg (by decide), if_neg (by decide), if_pos rfl]
    exact q2
  · obtain ⟨i1, ik, i2, i3⟩ := hi (by decide)
    have i4 := i1.eqv (h' := h_6) (fun q q1 q2 => b3 q (by omega))
    obtain ⟨rfl, ⟨c4, h4, rfl⟩, ⟨c5, h5, rfl⟩, kd, h6, rfl⟩ := hok.2.2.2.2.2.2.2.2.2.2 rfl
    refine o_tableOut (tgt := 127) hC dX2_fill_13 (by decide +kernel) (by decide) ?_
    refine o_aload_n hC dX2_fill_127 (by rfl) ?_
    refine o_aload_n hC dX2_fill_128 (by rfl) ?_
    refine o_aload_n hC dX2_fill_129 (by rfl) ?_
    refine o_aload hC dX2_fill_130 (by rfl) ?_
    refine o_callV3 hC rl_BW_good rl_Ns_nw (by exact hB.2.2.2.2.2) YX2_fillFold IX2_fillFold VX2_fillFold (mX2_77 hC) (by rw [hB.1]; exact cp_X2_fillFold l D ids H0 _ _ o so a a1 2 wd1 gp [] tb nd c4 c5 kd _ _ _ _ _ _ ho2 ht2 (aok_nil _) i4 ik (by omega) (by omega) (by omega) rfl n2 h4 h5 w16 h6 (by omega) (by omega)) (by exact o2) rfl rfl (Nat.le_of_ble_eq_true rfl) (by rw [hB.2.1]; first | exact Nat.le_of_ble_eq_true rfl | (dsimp only; omega)) (by rw [hB.2.1]; first | exact Nat.le_of_ble_eq_true rfl | (dsimp only; omega)) (by rw [hB.2.1]; first | exact Nat.le_of_ble_eq_true rfl | (dsimp only; omega)) (by rw [hB.2.1]; first | exact Nat.le_of_ble_eq_true rfl | (dsimp only; omega)) dX2_fill_132 (fun v h_132 n_132 p_132 => ?_)
    obtain ⟨x, rfl, rfl, ⟨gp3, q1⟩, q3, q2⟩ := p_132
    try dsimp only [Option.toList, List.cons_append, List.nil_append]
    refine o_zret hC hB dX2_fill_135 (by rcases q2 with ⟨-, -, q, -⟩ | ⟨-, q, -⟩ <;> (rw [q]; decide +kernel)) (Nat.le_of_ble_eq_true rfl) (Nat.le_of_ble_eq_true rfl) ?_
    refine ⟨_, rfl, rfl, ⟨_, q1⟩, (fun q z1 z2 => (q3 q (by omega) (by omega)).trans (b3 q (by omega))), ?_⟩
    show pres ids _ a _ (nfn sf cf rc 6 _ _ _ _ _ tb td) _
    unfold nfn
    rw [if_neg (by decide), if_neg (by decide), if_neg (by decide), if_neg (by decide), if_neg (by decide), if_neg (by decide)]
    rw [iN_nI (by omega), iN_nI (by omega), iN_nI (by omega)]
    exact q2
