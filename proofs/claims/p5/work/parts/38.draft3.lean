/-! Draft: both, forget, addTurns, not -/
theorem ws_at.kept2 {ids : Nat → ClassId} {h h' : rl_H} {w d e : Nat} {f g : Nat → Int64} {k : Nat} (H : ws_at ids h w f g k) (hf : rl_f2 h h' d e) (hd : d + 3 ≤ w ∨ w + 3 ≤ d) (he : e + 3 ≤ w ∨ w + 3 ≤ e) : ws_at ids h' w f g k :=
  ⟨by rw [hf w (by omega) (by omega)]; exact H.1, by rw [hf (w + 1) (by omega) (by omega)]; exact H.2.1, by rw [hf (w + 2) (by omega) (by omega)]; exact H.2.2.1, H.2.2.2⟩
theorem rl_f2.rf {h : rl_H} {d w : Nat} : rl_f2 h h d w := fun _ _ _ => rfl
theorem rl_f2.tr {h h1 h2 : rl_H} {d w : Nat} (x : rl_f2 h h1 d w) (y : rl_f2 h1 h2 d w) : rl_f2 h h2 d w := fun q a b => (y q a b).trans (x q a b)
theorem rl_fr.d2 {h h1 : rl_H} {d w : Nat} (x : rl_fr h h1 d (d + 3)) : rl_f2 h h1 d w := fun q a _ => x q a
theorem rl_fr.w2 {h h1 : rl_H} {d w : Nat} (x : rl_fr h h1 w (w + 3)) : rl_f2 h h1 d w := fun q _ b => x q b
theorem dr_out.f2 {ids : Nat → ClassId} {h h' : rl_H} {d w : Nat} {s : dr_S} {f g : Nat → Int64} {x : Int32} (H : dr_out ids h h' d w s f g x) : rl_f2 h h' d w := by
  obtain ⟨a, b | b⟩ := H
  · exact b.2.2.d2
  · exact b.2.2.2
noncomputable def bo_in (a b : Int64) (f g : Nat → Int64) : Nat → Nat → dr_S → dr_S
  | 0, _, s => s
  | m + 1, j, s => bo_in a b f g m (j + 1) (dr_add (a ||| f j) (b ||| g j) s)
noncomputable def bo_go (fa ga fb gb : Nat → Int64) (kb : Nat) : Nat → Nat → dr_S → dr_S
  | 0, _, s => s
  | m + 1, i, s => bo_go fa ga fb gb kb m (i + 1) (bo_in (fa i) (ga i) fb gb kb 0 s)
noncomputable def fo_go (f g : Nat → Int64) (b : Int64) : Nat → Nat → dr_S → dr_S
  | 0, _, s => s
  | m + 1, j, s => fo_go f g b m (j + 1) (dr_add (f j &&& (b ^^^ (-1))) (g j &&& (b ^^^ (-1))) s)
abbrev tu_bit (r : Nat) : Int64 := (1 : Int64) <<< ((nI r).toInt64 &&& 63)
noncomputable def tu_one (a b c e : Int64) (r : Nat) (s : dr_S) : dr_S :=
  if e &&& tu_bit r = 0 then (if c &&& tu_bit r = 0 then s else dr_add a (b ||| tu_bit r) s) else dr_add (a ||| tu_bit r) b (if c &&& tu_bit r = 0 then s else dr_add a (b ||| tu_bit r) s)
noncomputable def tu_go (a b c e : Int64) : Nat → Nat → dr_S → dr_S
  | 0, _, s => s
  | m + 1, r, s => tu_go a b c e m (r + 1) (tu_one a b c e r s)
noncomputable def no_in (F G : Nat → Int64) (c e : Int64) : Nat → Nat → dr_S → dr_S
  | 0, _, s => s
  | m + 1, k, s => no_in F G c e m (k + 1) (tu_go (F k) (G k) c e 36 0 s)
/-- NOT, TERM by TERM: the draft, what is made, whether it fits -/
noncomputable def no_go (fa ga : Nat → Int64) : Nat → Nat → dr_S → dr_S → dr_S × dr_S × Bool
  | 0, _, s, w => (s, w, true)
  | m + 1, i, s, w => if (no_in w.1 w.2.1 (fa i) (ga i) w.2.2 0 (s.1, s.2.1, 0)).2.2 ≤ 12 then no_go fa ga m (i + 1) (no_in w.1 w.2.1 (fa i) (ga i) w.2.2 0 (s.1, s.2.1, 0)) ((st_go (no_in w.1 w.2.1 (fa i) (ga i) w.2.2 0 (s.1, s.2.1, 0)).1 (no_in w.1 w.2.1 (fa i) (ga i) w.2.2 0 (s.1, s.2.1, 0)).2.1 (no_in w.1 w.2.1 (fa i) (ga i) w.2.2 0 (s.1, s.2.1, 0)).2.2 0 w.1 w.2.1).1, (st_go (no_in w.1 w.2.1 (fa i) (ga i) w.2.2 0 (s.1, s.2.1, 0)).1 (no_in w.1 w.2.1 (fa i) (ga i) w.2.2 0 (s.1, s.2.1, 0)).2.1 (no_in w.1 w.2.1 (fa i) (ga i) w.2.2 0 (s.1, s.2.1, 0)).2.2 0 w.1 w.2.1).2, (no_in w.1 w.2.1 (fa i) (ga i) w.2.2 0 (s.1, s.2.1, 0)).2.2) else (no_in w.1 w.2.1 (fa i) (ga i) w.2.2 0 (s.1, s.2.1, 0), w, false)

set_option maxHeartbeats 4000000 in
set_option maxRecDepth 100000 in
theorem ct_X0_both (l : Launch) (D : va_G) (ids : Nat → ClassId) (H0 : Heap) (h : rl_H) (n : Nat) (d wa wb wm ka kb km : Nat) (s : dr_S) (fa ga fb gb fm gm : Nat → Int64) (hd : dr_at ids h d s) (ha : ws_at ids h wa fa ga ka) (hb : ws_at ids h wb fb gb kb) (hm : ws_at ids h wm fm gm km) (da : d + 3 ≤ wa ∨ wa + 3 ≤ d) (db : d + 3 ≤ wb ∨ wb + 3 ≤ d) (dm : d + 3 ≤ wm ∨ wm + 3 ≤ d) : rl_Met l (rl_e D ids H0) rl_BW rl_Ns yX0_both cX0_both 6 (some .boolean) ({ frames := 2, cells := 0, slots := 0, locals := 47 }) [.ref d, .ref wa, .ref wb, .ref wm] h n (fun v h' n' => ∃ x : Int32, v = some (.int x) ∧ n' = n ∧ dr_out ids h h' d wm (bo_go fa ga fb gb kb ka 0 (s.1, s.2.1, 0)) fm gm x) := by
  obtain ⟨h1, h2, h3, hk⟩ := id hd
  refine rl_Met.of (by decide +kernel) (Nat.le_of_ble_eq_true rfl) ?_
  intro X hC hB
  have loop1 : ∀ (m i : Nat) (o5 : Option Value) (h' : rl_H) (t : dr_S), i + m = ka → dr_at ids h' d t → rl_fr h h' d (d + 3) → (bo_go fa ga fb gb kb ka 0 (s.1, s.2.1, 0)) = bo_go fa ga fb gb kb m i t → rl_G X (rl_e D ids H0) 8 [some (.ref d), some (.ref wa), some (.ref wb), some (.ref wm), some (.int (nI i)), o5] [] h' n 0 0 := by
    intro m
    induction m with
    | zero =>
      intro i o5 h' t hi hd2 hfr hs
      obtain ⟨g1, g2, g3, g4⟩ := id hd2
      obtain ⟨w1, w2, w3, w4⟩ := ha.kept hfr (by omega)
      refine o_iload hC dX0_both_8 (by rfl) ?_
      refine o_aload_n hC dX0_both_10 (by rfl) ?_
      refine o_getf hC (fX0_22 hC rfl) dX0_both_11 (by repeat (first | with_reducible assumption | (rw [rl_u_s]; done) | (rw [rl_u_s]; rfl) | rw [rl_u_n (by first | with_reducible assumption | omega)])) (by first | rfl | with_reducible assumption) ?_
      refine o_icmp_ge (tgt := 75) hC dX0_both_14 (by decide) (fun c_14 => ?_) (fun c_14 => ?_)
      · refine o_aload_n hC dX0_both_75 (by rfl) ?_
        refine o_aload_n hC dX0_both_76 (by rfl) ?_
        refine o_callV1 hC rl_BW_good rl_Ns_nw (by exact hB.2.2.2.2.2) YX0_settle IX0_settle VX0_settle (mX0_31 hC) (by rw [hB.1]; exact ct_X0_settle l D ids H0 h' n d wm km t fm gm hd2 (hm.kept hfr (by omega)) dm) (by exact g1) rfl rfl (Nat.le_of_ble_eq_true rfl) (by rw [hB.2.1]; first | exact Nat.le_of_ble_eq_true rfl | (dsimp only; omega)) (by rw [hB.2.1]; first | exact Nat.le_of_ble_eq_true rfl | (dsimp only; omega)) (by rw [hB.2.1]; first | exact Nat.le_of_ble_eq_true rfl | (dsimp only; omega)) (by rw [hB.2.1]; first | exact Nat.le_of_ble_eq_true rfl | (dsimp only; omega)) dX0_both_77 (fun v h_77 n_77 p_77 => ?_)
        obtain ⟨x, rfl, rfl, p1⟩ := p_77
        try dsimp only [Option.toList, List.cons_append, List.nil_append]
        refine o_zret hC hB dX0_both_80 (by rcases p1.2 with q | q; rw [q.2.1]; decide +kernel; rw [q.2.1]; decide +kernel) (Nat.le_of_ble_eq_true rfl) (Nat.le_of_ble_eq_true rfl) ?_
        refine ⟨x, rfl, rfl, ?_⟩
        rw [hs]
        exact dr_out.of hfr p1
      · exact absurd (nI_le (by omega) (by omega)) c_14
    | succ m ih =>
      intro i o5 h' t hi hd2 hfr hs
      have loop2 : ∀ (m2 j : Nat) (h2 : rl_H) (u : dr_S), j + m2 = kb → dr_at ids h2 d u → rl_fr h h2 d (d + 3) → bo_in (fa i) (ga i) fb gb kb 0 t = bo_in (fa i) (ga i) fb gb m2 j u → rl_G X (rl_e D ids H0) 20 [some (.ref d), some (.ref wa), some (.ref wb), some (.ref wm), some (.int (nI i)), some (.int (nI j))] [] h2 n 0 0 := by
        intro m2
        induction m2 with
        | zero =>
          intro j h2 u hj hd3 hfr2 hs2
          obtain ⟨g1, g2, g3, g4⟩ := id hd3
          obtain ⟨w1, w2, w3, w4⟩ := ha.kept hfr2 (by omega)
          obtain ⟨b1, b2, b3, b4⟩ := hb.kept hfr2 (by omega)
          refine o_iload hC dX0_both_20 (by rfl) ?_
          refine o_aload_n hC dX0_both_22 (by rfl) ?_
          refine o_getf hC (fX0_22 hC rfl) dX0_both_23 (by repeat (first | with_reducible assumption | (rw [rl_u_s]; done) | (rw [rl_u_s]; rfl) | rw [rl_u_n (by first | with_reducible assumption | omega)])) (by first | rfl | with_reducible assumption) ?_
          refine o_icmp_ge (tgt := 69) hC dX0_both_26 (by decide) (fun c_26 => ?_) (fun c_26 => ?_)
          · refine o_iinc hC dX0_both_69 (by rfl) (rl_inc _) (Nat.le_of_ble_eq_true rfl) ?_
            refine o_goto (tgt := 8) hC dX0_both_72 (by decide) ?_
            exact ih (i + 1) _ _ _ (by omega) hd3 hfr2 (hs.trans (by show bo_go fa ga fb gb kb m (i + 1) (bo_in (fa i) (ga i) fb gb kb 0 t) = _; rw [hs2]; rfl))
          · exact absurd (nI_le (by omega) (by omega)) c_26
        | succ m2 ih2 =>
          intro j h2 u hj hd3 hfr2 hs2
          obtain ⟨g1, g2, g3, g4⟩ := id hd3
          obtain ⟨w1, w2, w3, w4⟩ := ha.kept hfr2 (by omega)
          obtain ⟨b1, b2, b3, b4⟩ := hb.kept hfr2 (by omega)
          refine o_iload hC dX0_both_20 (by rfl) ?_
          refine o_aload_n hC dX0_both_22 (by rfl) ?_
          refine o_getf hC (fX0_22 hC rfl) dX0_both_23 (by repeat (first | with_reducible assumption | (rw [rl_u_s]; done) | (rw [rl_u_s]; rfl) | rw [rl_u_n (by first | with_reducible assumption | omega)])) (by first | rfl | with_reducible assumption) ?_
          refine o_icmp_ge (tgt := 69) hC dX0_both_26 (by decide) (fun c_26 => ?_) (fun c_26 => ?_)
          · exact absurd c_26 (nI_ge (by omega) (by omega))
          · refine o_aload_n hC dX0_both_29 (by rfl) ?_
            refine o_aload_n hC dX0_both_30 (by rfl) ?_
            refine o_getf hC (fX0_25 hC rfl) dX0_both_31 (by repeat (first | with_reducible assumption | (rw [rl_u_s]; done) | (rw [rl_u_s]; rfl) | rw [rl_u_n (by first | with_reducible assumption | omega)])) (by first | rfl | with_reducible assumption) ?_
            refine o_iload hC dX0_both_34 (by rfl) ?_
            refine o_laldN (t0 := 1) hC rfl dX0_both_36 (by repeat (first | with_reducible assumption | (rw [rl_u_s]; done) | (rw [rl_u_s]; rfl) | rw [rl_u_n (by first | with_reducible assumption | omega)])) (by omega) (by decide) ?_
            refine o_aload_n hC dX0_both_37 (by rfl) ?_
            refine o_getf hC (fX0_25 hC rfl) dX0_both_38 (by repeat (first | with_reducible assumption | (rw [rl_u_s]; done) | (rw [rl_u_s]; rfl) | rw [rl_u_n (by first | with_reducible assumption | omega)])) (by first | rfl | with_reducible assumption) ?_
            refine o_iload hC dX0_both_41 (by rfl) ?_
            refine o_laldN (t0 := 1) hC rfl dX0_both_43 (by repeat (first | with_reducible assumption | (rw [rl_u_s]; done) | (rw [rl_u_s]; rfl) | rw [rl_u_n (by first | with_reducible assumption | omega)])) (by omega) (by decide) ?_
            refine o_lor hC dX0_both_44 ?_
            refine o_aload_n hC dX0_both_45 (by rfl) ?_
            refine o_getf hC (fX0_26 hC rfl) dX0_both_46 (by repeat (first | with_reducible assumption | (rw [rl_u_s]; done) | (rw [rl_u_s]; rfl) | rw [rl_u_n (by first | with_reducible assumption | omega)])) (by first | rfl | with_reducible assumption) ?_
            refine o_iload hC dX0_both_49 (by rfl) ?_
            refine o_laldN (t0 := 1) hC rfl dX0_both_51 (by repeat (first | with_reducible assumption | (rw [rl_u_s]; done) | (rw [rl_u_s]; rfl) | rw [rl_u_n (by first | with_reducible assumption | omega)])) (by omega) (by decide) ?_
            refine o_aload_n hC dX0_both_52 (by rfl) ?_
            refine o_getf hC (fX0_26 hC rfl) dX0_both_53 (by repeat (first | with_reducible assumption | (rw [rl_u_s]; done) | (rw [rl_u_s]; rfl) | rw [rl_u_n (by first | with_reducible assumption | omega)])) (by first | rfl | with_reducible assumption) ?_
            refine o_iload hC dX0_both_56 (by rfl) ?_
            refine o_laldN (t0 := 1) hC rfl dX0_both_58 (by repeat (first | with_reducible assumption | (rw [rl_u_s]; done) | (rw [rl_u_s]; rfl) | rw [rl_u_n (by first | with_reducible assumption | omega)])) (by omega) (by decide) ?_
            refine o_lor hC dX0_both_59 ?_
            refine o_callV2 hC rl_BW_good rl_Ns_nw (by exact hB.2.2.2.2.2) YX0_add IX0_add VX0_add (mX0_27 hC) (by rw [hB.1]; exact ct_X0_add l D ids H0 h2 n d _ _ _ hd3) (by exact g1) rfl rfl (Nat.le_of_ble_eq_true rfl) (by rw [hB.2.1]; first | exact Nat.le_of_ble_eq_true rfl | (dsimp only; omega)) (by rw [hB.2.1]; first | exact Nat.le_of_ble_eq_true rfl | (dsimp only; omega)) (by rw [hB.2.1]; first | exact Nat.le_of_ble_eq_true rfl | (dsimp only; omega)) (by rw [hB.2.1]; first | exact Nat.le_of_ble_eq_true rfl | (dsimp only; omega)) dX0_both_60 (fun v h_60 n_60 p_60 => ?_)
            obtain ⟨rfl, rfl, p1, p2⟩ := p_60
            try dsimp only [Option.toList, List.cons_append, List.nil_append]
            refine o_iinc hC dX0_both_63 (by rfl) (rl_inc _) (Nat.le_of_ble_eq_true rfl) ?_
            refine o_goto (tgt := 20) hC dX0_both_66 (by decide) ?_
            exact ih2 (j + 1) _ _ (by omega) p1 (hfr2.tr p2) hs2
      obtain ⟨g1, g2, g3, g4⟩ := id hd2
      obtain ⟨w1, w2, w3, w4⟩ := ha.kept hfr (by omega)
      refine o_iload hC dX0_both_8 (by rfl) ?_
      refine o_aload_n hC dX0_both_10 (by rfl) ?_
      refine o_getf hC (fX0_22 hC rfl) dX0_both_11 (by repeat (first | with_reducible assumption | (rw [rl_u_s]; done) | (rw [rl_u_s]; rfl) | rw [rl_u_n (by first | with_reducible assumption | omega)])) (by first | rfl | with_reducible assumption) ?_
      refine o_icmp_ge (tgt := 75) hC dX0_both_14 (by decide) (fun c_14 => ?_) (fun c_14 => ?_)
      · exact absurd c_14 (nI_ge (by omega) (by omega))
      · refine o_iconst (v := nI 0) hC dX0_both_17 (by decide +kernel) ?_
        refine o_istore hC dX0_both_18 (Nat.le_of_ble_eq_true rfl) ?_
        exact loop2 kb 0 _ t (by omega) hd2 hfr rfl
  show rl_G X (rl_e D ids H0) 0 [some (.ref d), some (.ref wa), some (.ref wb), some (.ref wm), none, none] [] h n 0 0
  refine o_aload_n hC dX0_both_0 (by rfl) ?_
  refine o_iconst (v := nI 0) hC dX0_both_1 (by decide +kernel) ?_
  refine o_putf hC (fX0_18 hC rfl) (fwX0 rfl rfl rfl (Or.inl rfl)) dX0_both_2 (by repeat (first | with_reducible assumption | (rw [rl_u_s]; done) | (rw [rl_u_s]; rfl) | rw [rl_u_n (by first | with_reducible assumption | omega)])) (Nat.le_of_ble_eq_true rfl) ?_
  try simp only [List.set_cons_zero, List.set_cons_succ]
  refine o_iconst (v := nI 0) hC dX0_both_5 (by decide +kernel) ?_
  refine o_istore hC dX0_both_6 (Nat.le_of_ble_eq_true rfl) ?_
  exact loop1 ka 0 _ _ (s.1, s.2.1, 0) (by omega) ⟨by repeat (first | with_reducible assumption | (rw [rl_u_s]; done) | (rw [rl_u_s]; rfl) | rw [rl_u_n (by first | with_reducible assumption | omega)]), by repeat (first | with_reducible assumption | (rw [rl_u_s]; done) | (rw [rl_u_s]; rfl) | rw [rl_u_n (by first | with_reducible assumption | omega)]), by repeat (first | with_reducible assumption | (rw [rl_u_s]; done) | (rw [rl_u_s]; rfl) | rw [rl_u_n (by first | with_reducible assumption | omega)]), Nat.zero_le _⟩ (fun q hq => rl_u_n (by omega)) rfl

set_option maxHeartbeats 4000000 in
set_option maxRecDepth 100000 in
theorem ct_X0_forget (l : Launch) (D : va_G) (ids : Nat → ClassId) (H0 : Heap) (h : rl_H) (n : Nat) (d wa wm ka km : Nat) (c : Int64) (s : dr_S) (fa ga fm gm : Nat → Int64) (hd : dr_at ids h d s) (ha : ws_at ids h wa fa ga ka) (hm : ws_at ids h wm fm gm km) (da : d + 3 ≤ wa ∨ wa + 3 ≤ d) (dm : d + 3 ≤ wm ∨ wm + 3 ≤ d) : rl_Met l (rl_e D ids H0) rl_BW rl_Ns yX0_forget cX0_forget 6 none ({ frames := 2, cells := 0, slots := 0, locals := 47 }) [.ref d, .ref wa, .long c, .ref wm] h n (fun v h' n' => v = none ∧ n' = n ∧ ∃ x : Int32, dr_out ids h h' d wm (fo_go fa ga c ka 0 (s.1, s.2.1, 0)) fm gm x) := by
  obtain ⟨h1, h2, h3, hk⟩ := id hd
  refine rl_Met.of (by decide +kernel) (Nat.le_of_ble_eq_true rfl) ?_
  intro X hC hB
  have loop : ∀ (m j : Nat) (h2 : rl_H) (t : dr_S), j + m = ka → dr_at ids h2 d t → rl_fr h h2 d (d + 3) → (fo_go fa ga c ka 0 (s.1, s.2.1, 0)) = fo_go fa ga c m j t → rl_G X (rl_e D ids H0) 8 [some (.ref d), some (.ref wa), some (.long c), none, some (.ref wm), some (.int (nI j))] [] h2 n 0 0 := by
    intro m
    induction m with
    | zero =>
      intro j h2 t hj hd2 hfr hs
      obtain ⟨g1, g2, g3, g4⟩ := id hd2
      obtain ⟨w1, w2, w3, w4⟩ := ha.kept hfr (by omega)
      refine o_iload hC dX0_forget_8 (by rfl) ?_
      refine o_aload_n hC dX0_forget_10 (by rfl) ?_
      refine o_getf hC (fX0_22 hC rfl) dX0_forget_11 (by repeat (first | with_reducible assumption | (rw [rl_u_s]; done) | (rw [rl_u_s]; rfl) | rw [rl_u_n (by first | with_reducible assumption | omega)])) (by first | rfl | with_reducible assumption) ?_
      refine o_icmp_ge (tgt := 53) hC dX0_forget_14 (by decide) (fun c_14 => ?_) (fun c_14 => ?_)
      · refine o_aload_n hC dX0_forget_53 (by rfl) ?_
        refine o_aload hC dX0_forget_54 (by rfl) ?_
        refine o_callV1 hC rl_BW_good rl_Ns_nw (by exact hB.2.2.2.2.2) YX0_settle IX0_settle VX0_settle (mX0_31 hC) (by rw [hB.1]; exact ct_X0_settle l D ids H0 h2 n d wm km t fm gm hd2 (hm.kept hfr (by omega)) dm) (by exact g1) rfl rfl (Nat.le_of_ble_eq_true rfl) (by rw [hB.2.1]; first | exact Nat.le_of_ble_eq_true rfl | (dsimp only; omega)) (by rw [hB.2.1]; first | exact Nat.le_of_ble_eq_true rfl | (dsimp only; omega)) (by rw [hB.2.1]; first | exact Nat.le_of_ble_eq_true rfl | (dsimp only; omega)) (by rw [hB.2.1]; first | exact Nat.le_of_ble_eq_true rfl | (dsimp only; omega)) dX0_forget_56 (fun v h_56 n_56 p_56 => ?_)
        obtain ⟨x, rfl, rfl, p1⟩ := p_56
        try dsimp only [Option.toList, List.cons_append, List.nil_append]
        refine o_pop hC dX0_forget_59 rfl ?_
        refine o_vret hC hB dX0_forget_60 (Nat.le_of_ble_eq_true rfl) (Nat.le_of_ble_eq_true rfl) ?_
        refine ⟨rfl, rfl, x, ?_⟩
        rw [hs]
        exact dr_out.of hfr p1
      · exact absurd (nI_le (by omega) (by omega)) c_14
    | succ m ih =>
      intro j h2 t hj hd2 hfr hs
      obtain ⟨g1, g2, g3, g4⟩ := id hd2
      obtain ⟨w1, w2, w3, w4⟩ := ha.kept hfr (by omega)
      refine o_iload hC dX0_forget_8 (by rfl) ?_
      refine o_aload_n hC dX0_forget_10 (by rfl) ?_
      refine o_getf hC (fX0_22 hC rfl) dX0_forget_11 (by repeat (first | with_reducible assumption | (rw [rl_u_s]; done) | (rw [rl_u_s]; rfl) | rw [rl_u_n (by first | with_reducible assumption | omega)])) (by first | rfl | with_reducible assumption) ?_
      refine o_icmp_ge (tgt := 53) hC dX0_forget_14 (by decide) (fun c_14 => ?_) (fun c_14 => ?_)
      · exact absurd c_14 (nI_ge (by omega) (by omega))
      · refine o_aload_n hC dX0_forget_17 (by rfl) ?_
        refine o_aload_n hC dX0_forget_18 (by rfl) ?_
        refine o_getf hC (fX0_25 hC rfl) dX0_forget_19 (by repeat (first | with_reducible assumption | (rw [rl_u_s]; done) | (rw [rl_u_s]; rfl) | rw [rl_u_n (by first | with_reducible assumption | omega)])) (by first | rfl | with_reducible assumption) ?_
        refine o_iload hC dX0_forget_22 (by rfl) ?_
        refine o_laldN (t0 := 1) hC rfl dX0_forget_24 (by repeat (first | with_reducible assumption | (rw [rl_u_s]; done) | (rw [rl_u_s]; rfl) | rw [rl_u_n (by first | with_reducible assumption | omega)])) (by omega) (by decide) ?_
        refine o_lload_n hC dX0_forget_25 (by rfl) ?_
        refine o_ldc2 hC nX0_42 dX0_forget_26 ?_
        refine o_lxor hC dX0_forget_29 ?_
        refine o_land hC dX0_forget_30 ?_
        refine o_aload_n hC dX0_forget_31 (by rfl) ?_
        refine o_getf hC (fX0_26 hC rfl) dX0_forget_32 (by repeat (first | with_reducible assumption | (rw [rl_u_s]; done) | (rw [rl_u_s]; rfl) | rw [rl_u_n (by first | with_reducible assumption | omega)])) (by first | rfl | with_reducible assumption) ?_
        refine o_iload hC dX0_forget_35 (by rfl) ?_
        refine o_laldN (t0 := 1) hC rfl dX0_forget_37 (by repeat (first | with_reducible assumption | (rw [rl_u_s]; done) | (rw [rl_u_s]; rfl) | rw [rl_u_n (by first | with_reducible assumption | omega)])) (by omega) (by decide) ?_
        refine o_lload_n hC dX0_forget_38 (by rfl) ?_
        refine o_ldc2 hC nX0_42 dX0_forget_39 ?_
        refine o_lxor hC dX0_forget_42 ?_
        refine o_land hC dX0_forget_43 ?_
        refine o_callV2 hC rl_BW_good rl_Ns_nw (by exact hB.2.2.2.2.2) YX0_add IX0_add VX0_add (mX0_27 hC) (by rw [hB.1]; exact ct_X0_add l D ids H0 h2 n d _ _ _ hd2) (by exact g1) rfl rfl (Nat.le_of_ble_eq_true rfl) (by rw [hB.2.1]; first | exact Nat.le_of_ble_eq_true rfl | (dsimp only; omega)) (by rw [hB.2.1]; first | exact Nat.le_of_ble_eq_true rfl | (dsimp only; omega)) (by rw [hB.2.1]; first | exact Nat.le_of_ble_eq_true rfl | (dsimp only; omega)) (by rw [hB.2.1]; first | exact Nat.le_of_ble_eq_true rfl | (dsimp only; omega)) dX0_forget_44 (fun v h_44 n_44 p_44 => ?_)
        obtain ⟨rfl, rfl, p1, p2⟩ := p_44
        try dsimp only [Option.toList, List.cons_append, List.nil_append]
        refine o_iinc hC dX0_forget_47 (by rfl) (rl_inc _) (Nat.le_of_ble_eq_true rfl) ?_
        refine o_goto (tgt := 8) hC dX0_forget_50 (by decide) ?_
        exact ih (j + 1) _ _ (by omega) p1 (hfr.tr p2) hs
  show rl_G X (rl_e D ids H0) 0 [some (.ref d), some (.ref wa), some (.long c), none, some (.ref wm), none] [] h n 0 0
  refine o_aload_n hC dX0_forget_0 (by rfl) ?_
  refine o_iconst (v := nI 0) hC dX0_forget_1 (by decide +kernel) ?_
  refine o_putf hC (fX0_18 hC rfl) (fwX0 rfl rfl rfl (Or.inl rfl)) dX0_forget_2 (by repeat (first | with_reducible assumption | (rw [rl_u_s]; done) | (rw [rl_u_s]; rfl) | rw [rl_u_n (by first | with_reducible assumption | omega)])) (Nat.le_of_ble_eq_true rfl) ?_
  try simp only [List.set_cons_zero, List.set_cons_succ]
  refine o_iconst (v := nI 0) hC dX0_forget_5 (by decide +kernel) ?_
  refine o_istore hC dX0_forget_6 (Nat.le_of_ble_eq_true rfl) ?_
  exact loop ka 0 _ (s.1, s.2.1, 0) (by omega) ⟨by repeat (first | with_reducible assumption | (rw [rl_u_s]; done) | (rw [rl_u_s]; rfl) | rw [rl_u_n (by first | with_reducible assumption | omega)]), by repeat (first | with_reducible assumption | (rw [rl_u_s]; done) | (rw [rl_u_s]; rfl) | rw [rl_u_n (by first | with_reducible assumption | omega)]), by repeat (first | with_reducible assumption | (rw [rl_u_s]; done) | (rw [rl_u_s]; rfl) | rw [rl_u_n (by first | with_reducible assumption | omega)]), Nat.zero_le _⟩ (fun q hq => rl_u_n (by omega)) rfl

set_option maxHeartbeats 4000000 in
set_option maxRecDepth 100000 in
theorem ct_X0_addTurns (l : Launch) (D : va_G) (ids : Nat → ClassId) (H0 : Heap) (h : rl_H) (n : Nat) (d : Nat) (a b c e : Int64) (s : dr_S) (hd : dr_at ids h d s) : rl_Met l (rl_e D ids H0) rl_BW rl_Ns yX0_addTurns cX0_addTurns 12 none ({ frames := 1, cells := 0, slots := 0, locals := 26 }) [.ref d, .long a, .long b, .long c, .long e] h n (fun v h' n' => v = none ∧ n' = n ∧ dr_at ids h' d (tu_go a b c e 36 0 s) ∧ rl_fr h h' d (d + 3)) := by
  refine rl_Met.of (by decide +kernel) (Nat.le_of_ble_eq_true rfl) ?_
  intro X hC hB
  have loop : ∀ (m r : Nat) (o10 : Option Value) (h2 : rl_H) (t : dr_S), r + m = 36 → dr_at ids h2 d t → rl_fr h h2 d (d + 3) → (tu_go a b c e 36 0 s) = tu_go a b c e m r t → rl_G X (rl_e D ids H0) 3 [some (.ref d), some (.long a), none, some (.long b), none, some (.long c), none, some (.long e), none, some (.int (nI r)), o10, none] [] h2 n 0 0 := by
    intro m
    induction m with
    | zero =>
      intro r o10 h2 t hr hd2 hfr hs
      refine o_iload hC dX0_addTurns_3 (by rfl) ?_
      refine o_bipush (v := nI 36) hC dX0_addTurns_5 (by decide +kernel) ?_
      refine o_icmp_ge (tgt := 60) hC dX0_addTurns_7 (by decide) (fun c_7 => ?_) (fun c_7 => ?_)
      · refine o_vret hC hB dX0_addTurns_60 (Nat.le_of_ble_eq_true rfl) (Nat.le_of_ble_eq_true rfl) ?_
        refine ⟨rfl, rfl, ?_, hfr⟩
        rw [hs]
        exact hd2
      · exact absurd (nI_le (by omega) (by omega)) c_7
    | succ m ih =>
      intro r o10 h2 t hr hd2 hfr hs
      obtain ⟨g1, g2, g3, g4⟩ := id hd2
      refine o_iload hC dX0_addTurns_3 (by rfl) ?_
      refine o_bipush (v := nI 36) hC dX0_addTurns_5 (by decide +kernel) ?_
      refine o_icmp_ge (tgt := 60) hC dX0_addTurns_7 (by decide) (fun c_7 => ?_) (fun c_7 => ?_)
      · exact absurd c_7 (nI_ge (by omega) (by omega))
      · refine o_lconst (v := 1) hC dX0_addTurns_10 (by decide +kernel) ?_
        refine o_iload hC dX0_addTurns_11 (by rfl) ?_
        refine o_lshl hC dX0_addTurns_13 ?_
        refine o_lstore hC dX0_addTurns_14 (Nat.le_of_ble_eq_true rfl) ?_
        refine o_lload hC dX0_addTurns_16 (by rfl) ?_
        refine o_lload hC dX0_addTurns_18 (by rfl) ?_
        refine o_land hC dX0_addTurns_20 ?_
        refine o_lconst (v := 0) hC dX0_addTurns_21 (by decide +kernel) ?_
        refine o_lcmp hC dX0_addTurns_22 ?_
        refine o_if_eq (tgt := 35) hC dX0_addTurns_23 (by decide) (fun c_23 => ?_) (fun c_23 => ?_)
        · refine o_lload hC dX0_addTurns_35 (by rfl) ?_
          refine o_lload hC dX0_addTurns_37 (by rfl) ?_
          refine o_land hC dX0_addTurns_39 ?_
          refine o_lconst (v := 0) hC dX0_addTurns_40 (by decide +kernel) ?_
          refine o_lcmp hC dX0_addTurns_41 ?_
          refine o_if_eq (tgt := 54) hC dX0_addTurns_42 (by decide) (fun c_42 => ?_) (fun c_42 => ?_)
          · refine o_iinc hC dX0_addTurns_54 (by rfl) (rl_inc _) (Nat.le_of_ble_eq_true rfl) ?_
            refine o_goto (tgt := 3) hC dX0_addTurns_57 (by decide) ?_
            exact ih (r + 1) _ _ _ (by omega) (by first | exact q1 | exact p1 | exact hd2) (by first | exact (hfr.tr p2).tr q2 | exact hfr.tr q2 | exact hfr.tr p2 | exact hfr) (hs.trans (by
                show tu_go a b c e m (r + 1) (tu_one a b c e r t) = _
                unfold tu_one
                first
                | rw [if_pos ((lg_cmp_eq _ _).mp c_42), if_pos ((lg_cmp_eq _ _).mp c_23)]
                | rw [if_pos ((lg_cmp_eq _ _).mp c_42), if_neg (fun q => c_23 ((lg_cmp_eq _ _).mpr q))]
                | rw [if_neg (fun q => c_42 ((lg_cmp_eq _ _).mpr q)), if_pos ((lg_cmp_eq _ _).mp c_23)]
                | rw [if_neg (fun q => c_42 ((lg_cmp_eq _ _).mpr q)), if_neg (fun q => c_23 ((lg_cmp_eq _ _).mpr q))]))
          · refine o_aload_n hC dX0_addTurns_45 (by rfl) ?_
            refine o_lload_n hC dX0_addTurns_46 (by rfl) ?_
            refine o_lload hC dX0_addTurns_47 (by rfl) ?_
            refine o_lor hC dX0_addTurns_49 ?_
            refine o_lload_n hC dX0_addTurns_50 (by rfl) ?_
            refine o_callV2 hC rl_BW_good rl_Ns_nw (by exact hB.2.2.2.2.2) YX0_add IX0_add VX0_add (mX0_27 hC) (by rw [hB.1]; exact ct_X0_add l D ids H0 _ _ d _ _ _ (by first | exact p1 | exact hd2)) (by first | exact p1.1 | exact g1) rfl rfl (Nat.le_of_ble_eq_true rfl) (by rw [hB.2.1]; first | exact Nat.le_of_ble_eq_true rfl | (dsimp only; omega)) (by rw [hB.2.1]; first | exact Nat.le_of_ble_eq_true rfl | (dsimp only; omega)) (by rw [hB.2.1]; first | exact Nat.le_of_ble_eq_true rfl | (dsimp only; omega)) (by rw [hB.2.1]; first | exact Nat.le_of_ble_eq_true rfl | (dsimp only; omega)) dX0_addTurns_51 (fun v h_51 n_51 p_51 => ?_)
            obtain ⟨rfl, rfl, q1, q2⟩ := p_51
            try dsimp only [Option.toList, List.cons_append, List.nil_append]
            refine o_iinc hC dX0_addTurns_54 (by rfl) (rl_inc _) (Nat.le_of_ble_eq_true rfl) ?_
            refine o_goto (tgt := 3) hC dX0_addTurns_57 (by decide) ?_
            exact ih (r + 1) _ _ _ (by omega) (by first | exact q1 | exact p1 | exact hd2) (by first | exact (hfr.tr p2).tr q2 | exact hfr.tr q2 | exact hfr.tr p2 | exact hfr) (hs.trans (by
                show tu_go a b c e m (r + 1) (tu_one a b c e r t) = _
                unfold tu_one
                first
                | rw [if_pos ((lg_cmp_eq _ _).mp c_42), if_pos ((lg_cmp_eq _ _).mp c_23)]
                | rw [if_pos ((lg_cmp_eq _ _).mp c_42), if_neg (fun q => c_23 ((lg_cmp_eq _ _).mpr q))]
                | rw [if_neg (fun q => c_42 ((lg_cmp_eq _ _).mpr q)), if_pos ((lg_cmp_eq _ _).mp c_23)]
                | rw [if_neg (fun q => c_42 ((lg_cmp_eq _ _).mpr q)), if_neg (fun q => c_23 ((lg_cmp_eq _ _).mpr q))]))
        · refine o_aload_n hC dX0_addTurns_26 (by rfl) ?_
          refine o_lload_n hC dX0_addTurns_27 (by rfl) ?_
          refine o_lload_n hC dX0_addTurns_28 (by rfl) ?_
          refine o_lload hC dX0_addTurns_29 (by rfl) ?_
          refine o_lor hC dX0_addTurns_31 ?_
          refine o_callV2 hC rl_BW_good rl_Ns_nw (by exact hB.2.2.2.2.2) YX0_add IX0_add VX0_add (mX0_27 hC) (by rw [hB.1]; exact ct_X0_add l D ids H0 h2 n d _ _ _ hd2) (by exact g1) rfl rfl (Nat.le_of_ble_eq_true rfl) (by rw [hB.2.1]; first | exact Nat.le_of_ble_eq_true rfl | (dsimp only; omega)) (by rw [hB.2.1]; first | exact Nat.le_of_ble_eq_true rfl | (dsimp only; omega)) (by rw [hB.2.1]; first | exact Nat.le_of_ble_eq_true rfl | (dsimp only; omega)) (by rw [hB.2.1]; first | exact Nat.le_of_ble_eq_true rfl | (dsimp only; omega)) dX0_addTurns_32 (fun v h_32 n_32 p_32 => ?_)
          obtain ⟨rfl, rfl, p1, p2⟩ := p_32
          try dsimp only [Option.toList, List.cons_append, List.nil_append]
          refine o_lload hC dX0_addTurns_35 (by rfl) ?_
          refine o_lload hC dX0_addTurns_37 (by rfl) ?_
          refine o_land hC dX0_addTurns_39 ?_
          refine o_lconst (v := 0) hC dX0_addTurns_40 (by decide +kernel) ?_
          refine o_lcmp hC dX0_addTurns_41 ?_
          refine o_if_eq (tgt := 54) hC dX0_addTurns_42 (by decide) (fun c_42 => ?_) (fun c_42 => ?_)
          · refine o_iinc hC dX0_addTurns_54 (by rfl) (rl_inc _) (Nat.le_of_ble_eq_true rfl) ?_
            refine o_goto (tgt := 3) hC dX0_addTurns_57 (by decide) ?_
            exact ih (r + 1) _ _ _ (by omega) (by first | exact q1 | exact p1 | exact hd2) (by first | exact (hfr.tr p2).tr q2 | exact hfr.tr q2 | exact hfr.tr p2 | exact hfr) (hs.trans (by
                show tu_go a b c e m (r + 1) (tu_one a b c e r t) = _
                unfold tu_one
                first
                | rw [if_pos ((lg_cmp_eq _ _).mp c_42), if_pos ((lg_cmp_eq _ _).mp c_23)]
                | rw [if_pos ((lg_cmp_eq _ _).mp c_42), if_neg (fun q => c_23 ((lg_cmp_eq _ _).mpr q))]
                | rw [if_neg (fun q => c_42 ((lg_cmp_eq _ _).mpr q)), if_pos ((lg_cmp_eq _ _).mp c_23)]
                | rw [if_neg (fun q => c_42 ((lg_cmp_eq _ _).mpr q)), if_neg (fun q => c_23 ((lg_cmp_eq _ _).mpr q))]))
          · refine o_aload_n hC dX0_addTurns_45 (by rfl) ?_
            refine o_lload_n hC dX0_addTurns_46 (by rfl) ?_
            refine o_lload hC dX0_addTurns_47 (by rfl) ?_
            refine o_lor hC dX0_addTurns_49 ?_
            refine o_lload_n hC dX0_addTurns_50 (by rfl) ?_
            refine o_callV2 hC rl_BW_good rl_Ns_nw (by exact hB.2.2.2.2.2) YX0_add IX0_add VX0_add (mX0_27 hC) (by rw [hB.1]; exact ct_X0_add l D ids H0 _ _ d _ _ _ (by first | exact p1 | exact hd2)) (by first | exact p1.1 | exact g1) rfl rfl (Nat.le_of_ble_eq_true rfl) (by rw [hB.2.1]; first | exact Nat.le_of_ble_eq_true rfl | (dsimp only; omega)) (by rw [hB.2.1]; first | exact Nat.le_of_ble_eq_true rfl | (dsimp only; omega)) (by rw [hB.2.1]; first | exact Nat.le_of_ble_eq_true rfl | (dsimp only; omega)) (by rw [hB.2.1]; first | exact Nat.le_of_ble_eq_true rfl | (dsimp only; omega)) dX0_addTurns_51 (fun v h_51 n_51 p_51 => ?_)
            obtain ⟨rfl, rfl, q1, q2⟩ := p_51
            try dsimp only [Option.toList, List.cons_append, List.nil_append]
            refine o_iinc hC dX0_addTurns_54 (by rfl) (rl_inc _) (Nat.le_of_ble_eq_true rfl) ?_
            refine o_goto (tgt := 3) hC dX0_addTurns_57 (by decide) ?_
            exact ih (r + 1) _ _ _ (by omega) (by first | exact q1 | exact p1 | exact hd2) (by first | exact (hfr.tr p2).tr q2 | exact hfr.tr q2 | exact hfr.tr p2 | exact hfr) (hs.trans (by
                show tu_go a b c e m (r + 1) (tu_one a b c e r t) = _
                unfold tu_one
                first
                | rw [if_pos ((lg_cmp_eq _ _).mp c_42), if_pos ((lg_cmp_eq _ _).mp c_23)]
                | rw [if_pos ((lg_cmp_eq _ _).mp c_42), if_neg (fun q => c_23 ((lg_cmp_eq _ _).mpr q))]
                | rw [if_neg (fun q => c_42 ((lg_cmp_eq _ _).mpr q)), if_pos ((lg_cmp_eq _ _).mp c_23)]
                | rw [if_neg (fun q => c_42 ((lg_cmp_eq _ _).mpr q)), if_neg (fun q => c_23 ((lg_cmp_eq _ _).mpr q))]))
  show rl_G X (rl_e D ids H0) 0 [some (.ref d), some (.long a), none, some (.long b), none, some (.long c), none, some (.long e), none, none, none, none] [] h n 0 0
  refine o_iconst (v := nI 0) hC dX0_addTurns_0 (by decide +kernel) ?_
  refine o_istore hC dX0_addTurns_1 (Nat.le_of_ble_eq_true rfl) ?_
  exact loop 36 0 _ _ s (by omega) hd rl_fr.rf rfl

set_option maxHeartbeats 4000000 in
set_option maxRecDepth 100000 in
theorem ct_X0_not (l : Launch) (D : va_G) (ids : Nat → ClassId) (H0 : Heap) (h : rl_H) (n : Nat) (d wa wm ka km : Nat) (s : dr_S) (fa ga fm gm : Nat → Int64) (hd : dr_at ids h d s) (ha : ws_at ids h wa fa ga ka) (hm : ws_at ids h wm fm gm km) (da : d + 3 ≤ wa ∨ wa + 3 ≤ d) (dm : d + 3 ≤ wm ∨ wm + 3 ≤ d) (dw : wa + 3 ≤ wm ∨ wm + 3 ≤ wa) : rl_Met l (rl_e D ids H0) rl_BW rl_Ns yX0_not cX0_not 5 (some .boolean) ({ frames := 2, cells := 0, slots := 0, locals := 57 }) [.ref d, .ref wa, .ref wm] h n (fun v h' n' => ∃ x : Int32, v = some (.int x) ∧ n' = n ∧ x = (if (no_go fa ga ka 0 s (vp_updL fm 0 0, vp_updL gm 0 0, 1)).2.2 then nI 1 else nI 0) ∧ dr_at ids h' d (no_go fa ga ka 0 s (vp_updL fm 0 0, vp_updL gm 0 0, 1)).1 ∧ ws_at ids h' wm (no_go fa ga ka 0 s (vp_updL fm 0 0, vp_updL gm 0 0, 1)).2.1.1 (no_go fa ga ka 0 s (vp_updL fm 0 0, vp_updL gm 0 0, 1)).2.1.2.1 (no_go fa ga ka 0 s (vp_updL fm 0 0, vp_updL gm 0 0, 1)).2.1.2.2 ∧ rl_f2 h h' d wm) := by
  refine rl_Met.of (by decide +kernel) (Nat.le_of_ble_eq_true rfl) ?_
  intro X hC hB
  have loop1 : ∀ (m i : Nat) (o4 : Option Value) (h1 : rl_H) (t w : dr_S), i + m = ka → dr_at ids h1 d t → ws_at ids h1 wm w.1 w.2.1 w.2.2 → rl_f2 h h1 d wm → (no_go fa ga ka 0 s (vp_updL fm 0 0, vp_updL gm 0 0, 1)) = no_go fa ga m i t w → rl_G X (rl_e D ids H0) 6 [some (.ref d), some (.ref wa), some (.ref wm), some (.int (nI i)), o4] [] h1 n 0 0 := by
    intro m
    induction m with
    | zero =>
      intro i o4 h1 t w hi hd2 hw2 hf hs
      obtain ⟨g1, g2, g3, g4⟩ := id hd2
      obtain ⟨a1, a2, a3, a4⟩ := ha.kept2 hf (by omega) (by omega)
      refine o_iload_n hC dX0_not_6 (by rfl) ?_
      refine o_aload_n hC dX0_not_7 (by rfl) ?_
      refine o_getf hC (fX0_22 hC rfl) dX0_not_8 (by repeat (first | with_reducible assumption | (rw [rl_u_s]; done) | (rw [rl_u_s]; rfl) | rw [rl_u_n (by first | with_reducible assumption | omega)])) (by first | rfl | with_reducible assumption) ?_
      refine o_icmp_ge (tgt := 83) hC dX0_not_11 (by decide) (fun c_11 => ?_) (fun c_11 => ?_)
      · refine o_iconst (v := nI 1) hC dX0_not_83 (by decide +kernel) ?_
        refine o_zret hC hB dX0_not_84 (by first | rfl | decide +kernel) (Nat.le_of_ble_eq_true rfl) (Nat.le_of_ble_eq_true rfl) ?_
        refine ⟨_, rfl, rfl, ?_⟩
        rw [hs]
        exact ⟨rfl, hd2, hw2, hf⟩
      · exact absurd (nI_le (by omega) (by omega)) c_11
    | succ m ih =>
      intro i o4 h1 t w hi hd2 hw2 hf hs
      have loop2 : ∀ (m2 k : Nat) (h2 : rl_H) (u : dr_S), k + m2 = w.2.2 → dr_at ids h2 d u → rl_fr h1 h2 d (d + 3) → (no_in w.1 w.2.1 (fa i) (ga i) w.2.2 0 (t.1, t.2.1, 0)) = no_in w.1 w.2.1 (fa i) (ga i) m2 k u → rl_G X (rl_e D ids H0) 22 [some (.ref d), some (.ref wa), some (.ref wm), some (.int (nI i)), some (.int (nI k))] [] h2 n 0 0 := by
        intro m2
        induction m2 with
        | zero =>
          intro k h2 u hk hd3 hfr hs2
          obtain ⟨g1, g2, g3, g4⟩ := id hd3
          obtain ⟨a1, a2, a3, a4⟩ := (ha.kept2 hf (by omega) (by omega)).kept hfr (by omega)
          obtain ⟨w1, w2, w3, w4⟩ := hw2.kept hfr (by omega)
          have hs3 : (no_in w.1 w.2.1 (fa i) (ga i) w.2.2 0 (t.1, t.2.1, 0)) = u := hs2
          refine o_iload hC dX0_not_22 (by rfl) ?_
          refine o_aload_n hC dX0_not_24 (by rfl) ?_
          refine o_getf hC (fX0_22 hC rfl) dX0_not_25 (by repeat (first | with_reducible assumption | (rw [rl_u_s]; done) | (rw [rl_u_s]; rfl) | rw [rl_u_n (by first | with_reducible assumption | omega)])) (by first | rfl | with_reducible assumption) ?_
          refine o_icmp_ge (tgt := 67) hC dX0_not_28 (by decide) (fun c_28 => ?_) (fun c_28 => ?_)
          · refine o_aload_n hC dX0_not_67 (by rfl) ?_
            refine o_aload_n hC dX0_not_68 (by rfl) ?_
            refine o_callV1 hC rl_BW_good rl_Ns_nw (by exact hB.2.2.2.2.2) YX0_settle IX0_settle VX0_settle (mX0_31 hC) (by rw [hB.1]; exact ct_X0_settle l D ids H0 h2 n d wm w.2.2 u w.1 w.2.1 hd3 (hw2.kept hfr (by omega)) dm) (by exact g1) rfl rfl (Nat.le_of_ble_eq_true rfl) (by rw [hB.2.1]; first | exact Nat.le_of_ble_eq_true rfl | (dsimp only; omega)) (by rw [hB.2.1]; first | exact Nat.le_of_ble_eq_true rfl | (dsimp only; omega)) (by rw [hB.2.1]; first | exact Nat.le_of_ble_eq_true rfl | (dsimp only; omega)) (by rw [hB.2.1]; first | exact Nat.le_of_ble_eq_true rfl | (dsimp only; omega)) dX0_not_69 (fun v h_69 n_69 p_69 => ?_)
            obtain ⟨x, rfl, rfl, p1⟩ := p_69
            try dsimp only [Option.toList, List.cons_append, List.nil_append]
            refine o_if_ne (tgt := 77) hC dX0_not_72 (by decide) (fun c_72 => ?_) (fun c_72 => ?_)
            · refine o_iinc hC dX0_not_77 (by rfl) (rl_inc _) (Nat.le_of_ble_eq_true rfl) ?_
              refine o_goto (tgt := 6) hC dX0_not_80 (by decide) ?_
              have e : u.2.2 ≤ 12 ∧ x = nI 1 ∧ ws_at ids h_69 wm (st_go u.1 u.2.1 u.2.2 0 w.1 w.2.1).1 (st_go u.1 u.2.1 u.2.2 0 w.1 w.2.1).2 u.2.2 := by
                rcases p1.2 with q | q
                · exact absurd (by rw [q.2.1]; decide +kernel) c_72
                · exact ⟨q.1, q.2.1, q.2.2.1⟩
              exact ih (i + 1) _ _ u ((st_go u.1 u.2.1 u.2.2 0 w.1 w.2.1).1, (st_go u.1 u.2.1 u.2.2 0 w.1 w.2.1).2, u.2.2) (by omega) p1.1 e.2.2 (hf.tr (hfr.d2.tr p1.f2)) (hs.trans (by rw [no_go, hs3, if_pos e.1]))
            · refine o_iconst (v := nI 0) hC dX0_not_75 (by decide +kernel) ?_
              refine o_zret hC hB dX0_not_76 (by first | rfl | decide +kernel) (Nat.le_of_ble_eq_true rfl) (Nat.le_of_ble_eq_true rfl) ?_
              have e : 12 < u.2.2 ∧ rl_fr h2 h_69 d (d + 3) := by
                rcases p1.2 with q | q
                · exact ⟨q.1, q.2.2⟩
                · exact absurd (c_72.symm.trans q.2.1) (by decide +kernel)
              have e2 : no_go fa ga (m + 1) i t w = (u, w, false) := by rw [no_go, hs3, if_neg (by omega)]
              refine ⟨_, rfl, rfl, ?_⟩
              rw [hs, e2]
              exact ⟨rfl, p1.1, (hw2.kept hfr (by omega)).kept e.2 (by omega), hf.tr (hfr.d2.tr e.2.d2)⟩
          · exact absurd (nI_le (by omega) (by omega)) c_28
        | succ m2 ih2 =>
          intro k h2 u hk hd3 hfr hs2
          obtain ⟨g1, g2, g3, g4⟩ := id hd3
          obtain ⟨a1, a2, a3, a4⟩ := (ha.kept2 hf (by omega) (by omega)).kept hfr (by omega)
          obtain ⟨w1, w2, w3, w4⟩ := hw2.kept hfr (by omega)
          refine o_iload hC dX0_not_22 (by rfl) ?_
          refine o_aload_n hC dX0_not_24 (by rfl) ?_
          refine o_getf hC (fX0_22 hC rfl) dX0_not_25 (by repeat (first | with_reducible assumption | (rw [rl_u_s]; done) | (rw [rl_u_s]; rfl) | rw [rl_u_n (by first | with_reducible assumption | omega)])) (by first | rfl | with_reducible assumption) ?_
          refine o_icmp_ge (tgt := 67) hC dX0_not_28 (by decide) (fun c_28 => ?_) (fun c_28 => ?_)
          · exact absurd c_28 (nI_ge (by omega) (by omega))
          · refine o_aload_n hC dX0_not_31 (by rfl) ?_
            refine o_aload_n hC dX0_not_32 (by rfl) ?_
            refine o_getf hC (fX0_25 hC rfl) dX0_not_33 (by repeat (first | with_reducible assumption | (rw [rl_u_s]; done) | (rw [rl_u_s]; rfl) | rw [rl_u_n (by first | with_reducible assumption | omega)])) (by first | rfl | with_reducible assumption) ?_
            refine o_iload hC dX0_not_36 (by rfl) ?_
            refine o_laldN (t0 := 1) hC rfl dX0_not_38 (by repeat (first | with_reducible assumption | (rw [rl_u_s]; done) | (rw [rl_u_s]; rfl) | rw [rl_u_n (by first | with_reducible assumption | omega)])) (by omega) (by decide) ?_
            refine o_aload_n hC dX0_not_39 (by rfl) ?_
            refine o_getf hC (fX0_26 hC rfl) dX0_not_40 (by repeat (first | with_reducible assumption | (rw [rl_u_s]; done) | (rw [rl_u_s]; rfl) | rw [rl_u_n (by first | with_reducible assumption | omega)])) (by first | rfl | with_reducible assumption) ?_
            refine o_iload hC dX0_not_43 (by rfl) ?_
            refine o_laldN (t0 := 1) hC rfl dX0_not_45 (by repeat (first | with_reducible assumption | (rw [rl_u_s]; done) | (rw [rl_u_s]; rfl) | rw [rl_u_n (by first | with_reducible assumption | omega)])) (by omega) (by decide) ?_
            refine o_aload_n hC dX0_not_46 (by rfl) ?_
            refine o_getf hC (fX0_25 hC rfl) dX0_not_47 (by repeat (first | with_reducible assumption | (rw [rl_u_s]; done) | (rw [rl_u_s]; rfl) | rw [rl_u_n (by first | with_reducible assumption | omega)])) (by first | rfl | with_reducible assumption) ?_
            refine o_iload_n hC dX0_not_50 (by rfl) ?_
            refine o_laldN (t0 := 1) hC rfl dX0_not_51 (by repeat (first | with_reducible assumption | (rw [rl_u_s]; done) | (rw [rl_u_s]; rfl) | rw [rl_u_n (by first | with_reducible assumption | omega)])) (by omega) (by decide) ?_
            refine o_aload_n hC dX0_not_52 (by rfl) ?_
            refine o_getf hC (fX0_26 hC rfl) dX0_not_53 (by repeat (first | with_reducible assumption | (rw [rl_u_s]; done) | (rw [rl_u_s]; rfl) | rw [rl_u_n (by first | with_reducible assumption | omega)])) (by first | rfl | with_reducible assumption) ?_
            refine o_iload_n hC dX0_not_56 (by rfl) ?_
            refine o_laldN (t0 := 1) hC rfl dX0_not_57 (by repeat (first | with_reducible assumption | (rw [rl_u_s]; done) | (rw [rl_u_s]; rfl) | rw [rl_u_n (by first | with_reducible assumption | omega)])) (by omega) (by decide) ?_
            refine o_callV4 hC rl_BW_good rl_Ns_nw (by exact hB.2.2.2.2.2) YX0_addTurns IX0_addTurns VX0_addTurns (mX0_38 hC) (by rw [hB.1]; exact ct_X0_addTurns l D ids H0 h2 n d _ _ _ _ u hd3) (by exact g1) rfl rfl (Nat.le_of_ble_eq_true rfl) (by rw [hB.2.1]; first | exact Nat.le_of_ble_eq_true rfl | (dsimp only; omega)) (by rw [hB.2.1]; first | exact Nat.le_of_ble_eq_true rfl | (dsimp only; omega)) (by rw [hB.2.1]; first | exact Nat.le_of_ble_eq_true rfl | (dsimp only; omega)) (by rw [hB.2.1]; first | exact Nat.le_of_ble_eq_true rfl | (dsimp only; omega)) dX0_not_58 (fun v h_58 n_58 p_58 => ?_)
            obtain ⟨rfl, rfl, p1, p2⟩ := p_58
            try dsimp only [Option.toList, List.cons_append, List.nil_append]
            refine o_iinc hC dX0_not_61 (by rfl) (rl_inc _) (Nat.le_of_ble_eq_true rfl) ?_
            refine o_goto (tgt := 22) hC dX0_not_64 (by decide) ?_
            exact ih2 (k + 1) _ _ (by omega) p1 (hfr.tr p2) hs2
      obtain ⟨g1, g2, g3, g4⟩ := id hd2
      obtain ⟨a1, a2, a3, a4⟩ := ha.kept2 hf (by omega) (by omega)
      refine o_iload_n hC dX0_not_6 (by rfl) ?_
      refine o_aload_n hC dX0_not_7 (by rfl) ?_
      refine o_getf hC (fX0_22 hC rfl) dX0_not_8 (by repeat (first | with_reducible assumption | (rw [rl_u_s]; done) | (rw [rl_u_s]; rfl) | rw [rl_u_n (by first | with_reducible assumption | omega)])) (by first | rfl | with_reducible assumption) ?_
      refine o_icmp_ge (tgt := 83) hC dX0_not_11 (by decide) (fun c_11 => ?_) (fun c_11 => ?_)
      · exact absurd c_11 (nI_ge (by omega) (by omega))
      · refine o_aload_n hC dX0_not_14 (by rfl) ?_
        refine o_iconst (v := nI 0) hC dX0_not_15 (by decide +kernel) ?_
        refine o_putf hC (fX0_18 hC rfl) (fwX0 rfl rfl rfl (Or.inl rfl)) dX0_not_16 (by repeat (first | with_reducible assumption | (rw [rl_u_s]; done) | (rw [rl_u_s]; rfl) | rw [rl_u_n (by first | with_reducible assumption | omega)])) (Nat.le_of_ble_eq_true rfl) ?_
        try simp only [List.set_cons_zero, List.set_cons_succ]
        refine o_iconst (v := nI 0) hC dX0_not_19 (by decide +kernel) ?_
        refine o_istore hC dX0_not_20 (Nat.le_of_ble_eq_true rfl) ?_
        exact loop2 w.2.2 0 _ (t.1, t.2.1, 0) (by omega) ⟨by repeat (first | with_reducible assumption | (rw [rl_u_s]; done) | (rw [rl_u_s]; rfl) | rw [rl_u_n (by first | with_reducible assumption | omega)]), by repeat (first | with_reducible assumption | (rw [rl_u_s]; done) | (rw [rl_u_s]; rfl) | rw [rl_u_n (by first | with_reducible assumption | omega)]), by repeat (first | with_reducible assumption | (rw [rl_u_s]; done) | (rw [rl_u_s]; rfl) | rw [rl_u_n (by first | with_reducible assumption | omega)]), Nat.zero_le _⟩ (fun q hq => rl_u_n (by omega)) rfl
  show rl_G X (rl_e D ids H0) 0 [some (.ref d), some (.ref wa), some (.ref wm), none, none] [] h n 0 0
  refine o_aload_n hC dX0_not_0 (by rfl) ?_
  refine o_callV0 hC rl_BW_good rl_Ns_nw (by exact hB.2.2.2.2.2) YX6_becomeTrue IX6_becomeTrue VX6_becomeTrue (mX0_35 hC) (by rw [hB.1]; exact ct_X6_becomeTrue l D ids H0 h n wm km fm gm hm) (by exact hm.1) rfl rfl (Nat.le_of_ble_eq_true rfl) (by rw [hB.2.1]; first | exact Nat.le_of_ble_eq_true rfl | (dsimp only; omega)) (by rw [hB.2.1]; first | exact Nat.le_of_ble_eq_true rfl | (dsimp only; omega)) (by rw [hB.2.1]; first | exact Nat.le_of_ble_eq_true rfl | (dsimp only; omega)) (by rw [hB.2.1]; first | exact Nat.le_of_ble_eq_true rfl | (dsimp only; omega)) dX0_not_1 (fun v h_1 n_1 p_1 => ?_)
  obtain ⟨rfl, rfl, p1, p2⟩ := p_1
  try dsimp only [Option.toList, List.cons_append, List.nil_append]
  refine o_iconst (v := nI 0) hC dX0_not_4 (by decide +kernel) ?_
  refine o_istore_n hC dX0_not_5 (Nat.le_of_ble_eq_true rfl) ?_
  exact loop1 ka 0 _ _ s _ (by omega) (hd.kept p2 (by omega)) p1 p2.w2 rfl
