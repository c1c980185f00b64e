section
/-! Draft: both, forget, addTurns, not -/
theorem ws_at.kept2 {ids : Nat → ClassId} {h h' : rl_H} {w d e : Nat} {f g : Nat → Int64} {k : Nat} (H : ws_at ids h w f g k) (hf : rl_f2 h h' d e) (hd : d + 3 ≤ w ∨ w + 3 ≤ d) (he : e + 3 ≤ w ∨ w + 3 ≤ e) : ws_at ids h' w f g k :=
  ⟨by rw [hf w (by omega) (by omega)]; exact H.1, by rw [hf (w + 1) (by omega) (by omega)]; exact H.2.1, by rw [hf (w + 2) (by omega) (by omega)]; exact H.2.2.1, H.2.2.2⟩
theorem rl_f2.rf {h : rl_H} {d w : Nat} : rl_f2 h h d w := fun _ _ _ => rfl
theorem rl_f2.tr {h h1 h2 : rl_H} {d w : Nat} (x : rl_f2 h h1 d w) (y : rl_f2 h1 h2 d w) : rl_f2 h h2 d w := fun q a b => (y q a b).trans (x q a b)
theorem rl_fr.d2 {h h1 : rl_H} {d w : Nat} (x : rl_fr h h1 d (d + 3)) : rl_f2 h h1 d w := fun q a _ => x q a
theorem rl_fr.w2 {h h1 : rl_H} {d w : Nat} (x : rl_fr h h1 w (w + 3)) : rl_f2 h h1 d w := fun q _ b => x q b
theorem dr_out.f2 {ids : Nat → ClassId} {h h' : rl_H} {d w : Nat} {s : dr_S} {f g : Nat → Int64} {x : Int32} (H : dr_out ids h h' d w s f g x) : rl_f2 h h' d w := by
  obtain ⟨a, b | b⟩ := H
  · exact b.2.2.d2
  · exact b.2.2.2
noncomputable def bo_in (a b : Int64) (f g : Nat → Int64) : Nat → Nat → dr_S → dr_S
  | 0, _, s => s
  | m + 1, j, s => bo_in a b f g m (j + 1) (dr_add (a ||| f j) (b ||| g j) s)
noncomputable def bo_go (fa ga fb gb : Nat → Int64) (kb : Nat) : Nat → Nat → dr_S → dr_S
  | 0, _, s => s
  | m + 1, i, s => bo_go fa ga fb gb kb m (i + 1) (bo_in (fa i) (ga i) fb gb kb 0 s)
noncomputable def fo_go (f g : Nat → Int64) (b : Int64) : Nat → Nat → dr_S → dr_S
  | 0, _, s => s
  | m + 1, j, s => fo_go f g b m (j + 1) (dr_add (f j &&& (b ^^^ (-1))) (g j &&& (b ^^^ (-1))) s)
abbrev tu_bit (r : Nat) : Int64 := (1 : Int64) <<< ((nI r).toInt64 &&& 63)
noncomputable def tu_one (a b c e : Int64) (r : Nat) (s : dr_S) : dr_S :=
  if e &&& tu_bit r = 0 then (if c &&& tu_bit r = 0 then s else dr_add a (b ||| tu_bit r) s) else dr_add (a ||| tu_bit r) b (if c &&& tu_bit r = 0 then s else dr_add a (b ||| tu_bit r) s)
noncomputable def tu_go (a b c e : Int64) : Nat → Nat → dr_S → dr_S
  | 0, _, s => s
  | m + 1, r, s => tu_go a b c e m (r + 1) (tu_one a b c e r s)
noncomputable def no_in (F G : Nat → Int64) (c e : Int64) : Nat → Nat → dr_S → dr_S
  | 0, _, s => s
  | m + 1, k, s => no_in F G c e m (k + 1) (tu_go (F k) (G k) c e 36 0 s)
/-- NOT, TERM by TERM: the draft, what is made, whether it fits -/
noncomputable def no_go (fa ga : Nat → Int64) : Nat → Nat → dr_S → dr_S → dr_S × dr_S × Bool
  | 0, _, s, w => (s, w, true)
  | m + 1, i, s, w => if (no_in w.1 w.2.1 (fa i) (ga i) w.2.2 0 (s.1, s.2.1, 0)).2.2 ≤ 12 then no_go fa ga m (i + 1) (no_in w.1 w.2.1 (fa i) (ga i) w.2.2 0 (s.1, s.2.1, 0)) ((st_go (no_in w.1 w.2.1 (fa i) (ga i) w.2.2 0 (s.1, s.2.1, 0)).1 (no_in w.1 w.2.1 (fa i) (ga i) w.2.2 0 (s.1, s.2.1, 0)).2.1 (no_in w.1 w.2.1 (fa i) (ga i) w.2.2 0 (s.1, s.2.1, 0)).2.2 0 w.1 w.2.1).1, (st_go (no_in w.1 w.2.1 (fa i) (ga i) w.2.2 0 (s.1, s.2.1, 0)).1 (no_in w.1 w.2.1 (fa i) (ga i) w.2.2 0 (s.1, s.2.1, 0)).2.1 (no_in w.1 w.2.1 (fa i) (ga i) w.2.2 0 (s.1, s.2.1, 0)).2.2 0 w.1 w.2.1).2, (no_in w.1 w.2.1 (fa i) (ga i) w.2.2 0 (s.1, s.2.1, 0)).2.2) else (no_in w.1 w.2.1 (fa i) (ga i) w.2.2 0 (s.1, s.2.1, 0), w, false)

set_option maxHeartbeats 4000000 in
set_option maxRecDepth 100000 in
theorem ct_X0_both (l : Launch) (D : va_G) (ids : Nat → ClassId) (H0 : Heap) (h : rl_H) (n : Nat) (d wa wb wm ka kb km : Nat) (s : dr_S) (fa ga fb gb fm gm : Nat → Int64) (hd : dr_at ids h d s) (ha : ws_at ids h wa fa ga ka) (hb : ws_at ids h wb fb gb kb) (hm : ws_at ids h wm fm gm km) (da : d + 3 ≤ wa ∨ wa + 3 ≤ d) (db : d + 3 ≤ wb ∨ wb + 3 ≤ d) (dm : d + 3 ≤ wm ∨ wm + 3 ≤ d) : rl_Met l (rl_e D ids H0) rl_BW rl_Ns yX0_both cX0_both 6 (some .boolean) ({ frames := 2, cells := 0, slots := 0, locals := 47 }) [.ref d, .ref wa, .ref wb, .ref wm] h n (fun v h' n' => ∃ x : Int32, v = some (.int x) ∧ n' = n ∧ dr_out ids h h' d wm (bo_go fa ga fb gb kb ka 0 (s.1, s.2.1, 0)) fm gm x) := by
  obtain ⟨h1, h2, h3, hk⟩ := id hd
  refine rl_Met.of (by decide +kernel) (Nat.le_of_ble_eq_true rfl) ?_
  intro X hC hB
  have loop1 : ∀ (m i : Nat) (o5 : Option Value) (h' : rl_H) (t : dr_S), i + m = ka → dr_at ids h' d t → rl_fr h h' d (d + 3) → (bo_go fa ga fb gb kb ka 0 (s.1, s.2.1, 0)) = bo_go fa ga fb gb kb m i t → rl_G X (rl_e D ids H0) 8 [some (.ref d), some (.ref wa), some (.ref wb), some (.ref wm), some (.int (nI i)), o5] [] h' n 0 0 := by
    intro m
    induction m with
    | zero =>
      intro i o5 h' t hi hd2 hfr hs
      obtain ⟨g1, g2, g3, g4⟩ := id hd2
      obtain ⟨w1, w2, w3, w4⟩ := ha.kept hfr (by omega)
      refine o_iload hC dX0_both_8 (by rfl) ?_
      refine o_aload_n hC dX0_both_10 (by rfl) ?_
      refine o_getf hC (fX0_22 hC rfl) dX0_both_11 (by repeat (first | with_reducible assumption | (rw [rl_u_s]; done) | (rw [rl_u_s]; rfl) | rw [rl_u_n (by first | with_reducible assumption | omega)])) (by first | rfl | with_reducible assumption) ?_
      refine o_icmp_ge (tgt := 75) hC dX0_both_14 (by decide) (fun c_14 => ?_) (fun c_14 => ?_)
      · refine o_aload_n hC dX0_both_75 (by rfl) ?_
        refine o_aload_n hC dX0_both_76 (by rfl) ?_
        refine o_callV1 hC rl_BW_good rl_Ns_nw (by exact hB.2.2.2.2.2) YX0_settle IX0_settle VX0_settle (mX0_31 hC) (by rw [hB.1]; exact ct_X0_settle l D ids H0 h' n d wm km t fm gm hd2 (hm.kept hfr (by omega)) dm) (by exact g1) rfl rfl (Nat.le_of_ble_eq_true rfl) (by rw [hB.2.1]; first | exact Nat.le_of_ble_eq_true rfl | (dsimp only; omega)) (by rw [hB.2.1]; first | exact Nat.le_of_ble_eq_true rfl | (dsimp only; omega)) (by rw [hB.2.1]; first | exact Nat.le_of_ble_eq_true rfl | (dsimp only; omega)) (by rw [hB.2.1]; first | exact Nat.le_of_ble_eq_true rfl | (dsimp only; omega)) dX0_both_77 (fun v h_77 n_77 p_77 => ?_)
        obtain ⟨x, rfl, rfl, p1⟩ := p_77
        try dsimp only [Option.toList, List.cons_append, List.nil_append]
        refine o_zret hC hB dX0_both_80 (by rcases p1.2 with q | q; rw [q.2.1]; decide +kernel; rw [q.2.1]; decide +kernel) (Nat.le_of_ble_eq_true rfl) (Nat.le_of_ble_eq_true rfl) ?_
        refine ⟨x, rfl, rfl, ?_⟩
        rw [hs]
        exact dr_out.of hfr p1
      · exact absurd (nI_le (by omega) (by omega)) c_14
    | succ m ih =>
      intro i o5 h' t hi hd2 hfr hs
      have loop2 : ∀ (m2 j : Nat) (h2 : rl_H) (u : dr_S), j + m2 = kb → dr_at ids h2 d u → rl_fr h h2 d (d + 3) → bo_in (fa i) (ga i) fb gb kb 0 t = bo_in (fa i) (ga i) fb gb m2 j u → rl_G X (rl_e D ids H0) 20 [some (.ref d), some (.ref wa), some (.ref wb), some (.ref wm), some (.int (nI i)), some (.int (nI j))] [] h2 n 0 0 := by
        intro m2
        induction m2 with
        | zero =>
          intro j h2 u hj hd3 hfr2 hs2
          obtain ⟨g1, g2, g3, g4⟩ := id hd3
          obtain ⟨w1, w2, w3, w4⟩ := ha.kept hfr2 (by omega)
          obtain ⟨b1, b2, b3, b4⟩ := hb.kept hfr2 (by omega)
          refine o_iload hC dX0_both_20 (by rfl) ?_
          refine o_aload_n hC dX0_both_22 (by rfl) ?_
          refine o_getf hC (fX0_22 hC rfl) dX0_both_23 (by repeat (first | with_reducible assumption | (rw [rl_u_s]; done) | (rw [rl_u_s]; rfl) | rw [rl_u_n (by first | with_reducible assumption | omega)])) (by first | rfl | with_reducible assumption) ?_
          refine o_icmp_ge (tgt := 69) hC dX0_both_26 (by decide) (fun c_26 => ?_) (fun c_26 => ?_)
          · refine o_iinc hC dX0_both_69 (by rfl) (rl_inc _) (Nat.le_of_ble_eq_true rfl) ?_
            refine o_goto (tgt := 8) hC dX0_both_72 (by decide) ?_
            exact ih (i + 1) _ _ _ (by omega) hd3 hfr2 (hs.trans (by show bo_go fa ga fb gb kb m (i + 1) (bo_in (fa i) (ga i) fb gb kb 0 t) = _; rw [hs2]; rfl))
          · exact absurd (nI_le (by omega) (by omega)) c_26
        | succ m2 ih2 =>
          intro j h2 u hj hd3 hfr2 hs2
          obtain ⟨g1, g2, g3, g4⟩ := id hd3
          obtain ⟨w1, w2, w3, w4⟩ := ha.kept hfr2 (by omega)
          obtain ⟨b1, b2, b3, b4⟩ := hb.kept hfr2 (by omega)
          refine o_iload hC dX0_both_20 (by rfl) ?_
          refine o_aload_n hC dX0_both_22 (by rfl) ?_
          refine o_getf hC (fX0_22 hC rfl) dX0_both_23 (by repeat (first | with_reducible assumption | (rw [rl_u_s]; done) | (rw [rl_u_s]; rfl) | rw [rl_u_n (by first | with_reducible assumption | omega)])) (by first | rfl | with_reducible assumption) ?_
          refine o_icmp_ge (tgt := 69) hC dX0_both_26 (by decide) (fun c_26 => ?_) (fun c_26 => ?_)
          · exact absurd c_26 (nI_ge (by omega) (by omega))
          · refine o_aload_n hC dX0_both_29 (by rfl) ?_
            refine o_aload_n hC dX0_both_30 (by rfl) ?_
            refine o_getf hC (fX0_25 hC rfl) dX0_both_31 (by repeat (first | with_reducible assumption | (rw [rl_u_s]; done) | (rw [rl_u_s]; rfl) | rw [rl_u_n (by first | with_reducible assumption | omega)])) (by first | rfl | with_reducible assumption) ?_
            refine o_iload hC dX0_both_34 (by rfl) ?_
            refine o_laldN (t0 := 1) hC rfl dX0_both_36 (by repeat (first | with_reducible assumption | (rw [rl_u_s]; done) | (rw [rl_u_s]; rfl) | rw [rl_u_n (by first | with_reducible assumption | omega)])) (by omega) (by decide) ?_
            refine o_aload_n hC dX0_both_37 (by rfl) ?_
            refine o_getf hC (fX0_25 hC rfl) dX0_both_38 (by repeat (first | with_reducible assumption | (rw [rl_u_s]; done) | (rw [rl_u_s]; rfl) | rw [rl_u_n (by first | with_reducible assumption | omega)])) (by first | rfl | with_reducible assumption) ?_
            refine o_iload hC dX0_both_41 (by rfl) ?_
            refine o_laldN (t0 := 1) hC rfl dX0_both_43 (by repeat (first | with_reducible assumption | (rw [rl_u_s]; done) | (rw [rl_u_s]; rfl) | rw [rl_u_n (by first | with_reducible assumption | omega)])) (by omega) (by decide) ?_
            refine o_lor hC dX0_both_44 ?_
            refine o_aload_n hC dX0_both_45 (by rfl) ?_
            refine o_getf hC (fX0_26 hC rfl) dX0_both_46 (by repeat (first | with_reducible assumption | (rw [rl_u_s]; done) | (rw [rl_u_s]; rfl) | rw [rl_u_n (by first | with_reducible assumption | omega)])) (by first | rfl | with_reducible assumption) ?_
            refine o_iload hC dX0_both_49 (by rfl) ?_
            refine o_laldN (t0 := 1) hC rfl dX0_both_51 (by repeat (first | with_reducible assumption | (rw [rl_u_s]; done) | (rw [rl_u_s]; rfl) | rw [rl_u_n (by first | with_reducible assumption | omega)])) (by omega) (by decide) ?_
            refine o_aload_n hC dX0_both_52 (by rfl) ?_
            refine o_getf hC (fX0_26 hC rfl) dX0_both_53 (by repeat (first | with_reducible assumption | (rw [rl_u_s]; done) | (rw [rl_u_s]; rfl) | rw [rl_u_n (by first | with_reducible assumption | omega)])) (by first | rfl | with_reducible assumption) ?_
            refine o_iload hC dX0_both_56 (by rfl) ?_
            refine o_laldN (t0 := 1) hC rfl dX0_both_58 (by repeat (first | with_reducible assumption | (rw [rl_u_s]; done) | (rw [rl_u_s]; rfl) | rw [rl_u_n (by first | with_reducible assumption | omega)])) (by omega) (by decide) ?_
            refine o_lor hC dX0_both_59 ?_
            refine o_callV2 hC rl_BW_good rl_Ns_nw (by exact hB.2.2.2.2.2) YX0_add IX0_add VX0_add (mX0_27 hC) (by rw [hB.1]; exact ct_X0_add l D ids H0 h2 n d _ _ _ hd3) (by exact g1) rfl rfl (Nat.le_of_ble_eq_true rfl) (by rw [hB.2.1]; first | exact Nat.le_of_ble_eq_true rfl | (dsimp only; omega)) (by rw [hB.2.1]; first | exact Nat.le_of_ble_eq_true rfl | (dsimp only; omega)) (by rw [hB.2.1]; first | exact Nat.le_of_ble_eq_true rfl | (dsimp only; omega)) (by rw [hB.2.1]; first | exact Nat.le_of_ble_eq_true rfl | (dsimp only; omega)) dX0_both_60 (fun v h_60 n_60 p_60 => ?_)
            obtain ⟨rfl, rfl, p1, p2⟩ := p_60
            try dsimp only [Option.toList, List.cons_append, List.nil_append]
            refine o_iinc hC dX0_both_63 (by rfl) (rl_inc _) (Nat.le_of_ble_eq_true rfl) ?_
            refine o_goto (tgt := 20) hC dX0_both_66 (by decide) ?_
            exact ih2 (j + 1) _ _ (by omega) p1 (hfr2.tr p2) hs2
      obtain ⟨g1, g2, g3, g4⟩ := id hd2
      obtain ⟨w1, w2, w3, w4⟩ := ha.kept hfr (by omega)
      refine o_iload hC dX0_both_8 (by rfl) ?_
      refine o_aload_n hC dX0_both_10 (by rfl) ?_
      refine o_getf hC (fX0_22 hC rfl) dX0_both_11 (by repeat (first | with_reducible assumption | (rw [rl_u_s]; done) | (rw [rl_u_s]; rfl) | rw [rl_u_n (by first | with_reducible assumption | omega)])) (by first | rfl | with_reducible assumption) ?_
      refine o_icmp_ge (tgt := 75) hC dX0_both_14 (by decide) (fun c_14 => ?_) (fun c_14 => ?_)
      · exact absurd c_14 (nI_ge (by omega) (by omega))
      · refine o_iconst (v := nI 0) hC dX0_both_17 (by decide +kernel) ?_
        refine o_istore hC dX0_both_18 (Nat.le_of_ble_eq_true rfl) ?_
        exact loop2 kb 0 _ t (by omega) hd2 hfr rfl
  show rl_G X (rl_e D ids H0) 0 [some (.ref d), some (.ref wa), some (.ref wb), some (.ref wm), none, none] [] h n 0 0
  refine o_aload_n hC dX0_both_0 (by rfl) ?_
  refine o_iconst (v := nI 0) hC dX0_both_1 (by decide +kernel) ?_
  refine o_putf hC (fX0_18 hC rfl) (fwX0 rfl rfl rfl (Or.inl rfl)) dX0_both_2 (by repeat (first | with_reducible assumption | (rw [rl_u_s]; done) | (rw [rl_u_s]; rfl) | rw [rl_u_n (by first | with_reducible assumption | omega)])) (Nat.le_of_ble_eq_true rfl) ?_
  try simp only [List.set_cons_zero, List.set_cons_succ]
  refine o_iconst (v := nI 0) hC dX0_both_5 (by decide +kernel) ?_
  refine o_istore hC dX0_both_6 (Nat.le_of_ble_eq_true rfl) ?_
  exact loop1 ka 0 _ _ (s.1, s.2.1, 0) (by omega) ⟨by repeat (first | with_reducible assumption | (rw [rl_u_s]; done) | (rw [rl_u_s]; rfl) | rw [rl_u_n (by first | with_reducible assumption | omega)]), by repeat (first | with_reducible assumption | (rw [rl_u_s]; done) | (rw [rl_u_s]; rfl) | rw [rl_u_n (by first | with_reducible assumption | omega)]), by repeat (first | with_reducible assumption | (rw [rl_u_s]; done) | (rw [rl_u_s]; rfl) | rw [rl_u_n (by first | with_reducible assumption | omega)]), Nat.zero_le _⟩ (fun q hq => rl_u_n (by omega)) rfl

set_option maxHeartbeats 4000000 in
set_option maxRecDepth 100000 in
theorem ct_X0_forget (l : Launch) (D : va_G) (ids : Nat → ClassId) (H0 : Heap) (h : rl_H) (n : Nat) (d wa wm ka km : Nat) (c : Int64) (s : dr_S) (fa ga fm gm : Nat → Int64) (hd : dr_at ids h d s) (ha : ws_at ids h wa fa ga ka) (hm : ws_at ids h wm fm gm km) (da : d + 3 ≤ wa ∨ wa + 3 ≤ d) (dm : d + 3 ≤ wm ∨ wm + 3 ≤ d) : rl_Met l (rl_e D ids H0) rl_BW rl_Ns yX0_forget cX0_forget 6 none ({ frames := 2, cells := 0, slots := 0, locals := 47 }) [.ref d, .ref wa, .long c, .ref wm] h n (fun v h' n' => v = none ∧ n' = n ∧ ∃ x : Int32, dr_out ids h h' d wm (fo_go fa ga c ka 0 (s.1, s.2.1, 0)) fm gm x) := by
  obtain ⟨h1, h2, h3, hk⟩ := id hd
  refine rl_Met.of (by decide +kernel) (Nat.le_of_ble_eq_true rfl) ?_
  intro X hC hB
  have loop : ∀ (m j : Nat) (h2 : rl_H) (t : dr_S), j + m = ka → dr_at ids h2 d t → rl_fr h h2 d (d + 3) → (fo_go fa ga c ka 0 (s.1, s.2.1, 0)) = fo_go fa ga c m j t → rl_G X (rl_e D ids H0) 8 [some (.ref d), some (.ref wa), some (.long c), none, some (.ref wm), some (.int (nI j))] [] h2 n 0 0 := by
    intro m
    induction m with
    | zero =>
      intro j h2 t hj hd2 hfr hs
      obtain ⟨g1, g2, g3, g4⟩ := id hd2
      obtain ⟨w1, w2, w3, w4⟩ := ha.kept hfr (by omega)
      refine o_iload hC dX0_forget_8 (by rfl) ?_
      refine o_aload_n hC dX0_forget_10 (by rfl) ?_
      refine o_getf hC (fX0_22 hC rfl) dX0_forget_11 (by repeat (first | with_reducible assumption | (rw [rl_u_s]; done) | (rw [rl_u_s]; rfl) | rw [rl_u_n (by first | with_reducible assumption | omega)])) (by first | rfl | with_reducible assumption) ?_
      refine o_icmp_ge (tgt := 53) hC dX0_forget_14 (by decide) (fun c_14 => ?_) (fun c_14 => ?_)
      · refine o_aload_n hC dX0_forget_53 (by rfl) ?_
        refine o_aload hC dX0_forget_54 (by rfl) ?_
        refine o_callV1 hC rl_BW_good rl_Ns_nw (by exact hB.2.2.2.2.2) YX0_settle IX0_settle VX0_settle (mX0_31 hC) (by rw [hB.1]; exact ct_X0_settle l D ids H0 h2 n d wm km t fm gm hd2 (hm.kept hfr (by omega)) dm) (by exact g1) rfl rfl (Nat.le_of_ble_eq_true rfl) (by rw [hB.2.1]; first | exact Nat.le_of_ble_eq_true rfl | (dsimp only; omega)) (by rw [hB.2.1]; first | exact Nat.le_of_ble_eq_true rfl | (dsimp only; omega)) (by rw [hB.2.1]; first | exact Nat.le_of_ble_eq_true rfl | (dsimp only; omega)) (by rw [hB.2.1]; first | exact Nat.le_of_ble_eq_true rfl | (dsimp only; omega)) dX0_forget_56 (fun v h_56 n_56 p_56 => ?_)
        obtain ⟨x, rfl, rfl, p1⟩ := p_56
        try dsimp only [Option.toList, List.cons_append, List.nil_append]
        refine o_pop hC dX0_forget_59 rfl ?_
        refine o_vret hC hB dX0_forget_60 (Nat.le_of_ble_eq_true rfl) (Nat.le_of_ble_eq_true rfl) ?_
        refine ⟨rfl, rfl, x, ?_⟩
        rw [hs]
        exact dr_out.of hfr p1
      · exact absurd (nI_le (by omega) (by omega)) c_14
    | succ m ih =>
      intro j h2 t hj hd2 hfr hs
      obtain ⟨g1, g2, g3, g4⟩ := id hd2
      obtain ⟨w1, w2, w3, w4⟩ := ha.kept hfr (by omega)
      refine o_iload hC dX0_forget_8 (by rfl) ?_
      refine o_aload_n hC dX0_forget_10 (by rfl) ?_
      refine o_getf hC (fX0_22 hC rfl) dX0_forget_11 (by repeat (first | with_reducible assumption | (rw [rl_u_s]; done) | (rw [rl_u_s]; rfl) | rw [rl_u_n (by first | with_reducible assumption | omega)])) (by first | rfl | with_reducible assumption) ?_
      refine o_icmp_ge (tgt := 53) hC dX0_forget_14 (by decide) (fun c_14 => ?_) (fun c_14 => ?_)
      · exact absurd c_14 (nI_ge (by omega) (by omega))
      · refine o_aload_n hC dX0_forget_17 (by rfl) ?_
        refine o_aload_n hC dX0_forget_18 (by rfl) ?_
        refine o_getf hC (fX0_25 hC rfl) dX0_forget_19 (by repeat (first | with_reducible assumption | (rw [rl_u_s]; done) | (rw [rl_u_s]; rfl) | rw [rl_u_n (by first | with_reducible assumption | omega)])) (by first | rfl | with_reducible assumption) ?_
        refine o_iload hC dX0_forget_22 (by rfl) ?_
        refine o_laldN (t0 := 1) hC rfl dX0_forget_24 (by repeat (first | with_reducible assumption | (rw [rl_u_s]; done) | (rw [rl_u_s]; rfl) | rw [rl_u_n (by first | with_reducible assumption | omega)])) (by omega) (by decide) ?_
        refine o_lload_n hC dX0_forget_25 (by rfl) ?_
        refine o_ldc2 hC nX0_42 dX0_forget_26 ?_
        refine o_lxor hC dX0_forget_29 ?_
        refine o_land hC dX0_forget_30 ?_
        refine o_aload_n hC dX0_forget_31 (by rfl) ?_
        refine o_getf hC (fX0_26 hC rfl) dX0_forget_32 (by repeat (first | with_reducible assumption | (rw [rl_u_s]; done) | (rw [rl_u_s]; rfl) | rw [rl_u_n (by first | with_reducible assumption | omega)])) (by first | rfl | with_reducible assumption) ?_
        refine o_iload hC dX0_forget_35 (by rfl) ?_
        refine o_laldN (t0 := 1) hC rfl dX0_forget_37 (by repeat (first | with_reducible assumption | (rw [rl_u_s]; done) | (rw [rl_u_s]; rfl) | rw [rl_u_n (by first | with_reducible assumption | omega)])) (by omega) (by decide) ?_
        refine o_lload_n hC dX0_forget_38 (by rfl) ?_
        refine o_ldc2 hC nX0_42 dX0_forget_39 ?_
        refine o_lxor hC dX0_forget_42 ?_
        refine o_land hC dX0_forget_43 ?_
        refine o_callV2 hC rl_BW_good rl_Ns_nw (by exact hB.2.2.2.2.2) YX0_add IX0_add VX0_add (mX0_27 hC) (by rw [hB.1]; exact ct_X0_add l D ids H0 h2 n d _ _ _ hd2) (by exact g1) rfl rfl (Nat.le_of_ble_eq_true rfl) (by rw [hB.2.1]; first | exact Nat.le_of_ble_eq_true rfl | (dsimp only; omega)) (by rw [hB.2.1]; first | exact Nat.le_of_ble_eq_true rfl | (dsimp only; omega)) (by rw [hB.2.1]; first | exact Nat.le_of_ble_eq_true rfl | (dsimp only; omega)) (by rw [hB.2.1]; first | exact Nat.le_of_ble_eq_true rfl | (dsimp only; omega)) dX0_forget_44 (fun v h_44 n_44 p_44 => ?_)
        obtain ⟨rfl, rfl, p1, p2⟩ := p_44
        try dsimp only [Option.toList, List.cons_append, List.nil_append]
        refine o_iinc hC dX0_forget_47 (by rfl) (rl_inc _) (Nat.le_of_ble_eq_true rfl) ?_
        refine o_goto (tgt := 8) hC dX0_forget_50 (by decide) ?_
        exact ih (j + 1) _ _ (by omega) p1 (hfr.tr p2) hs
  show rl_G X (rl_e D ids H0) 0 [some (.ref d), some (.ref wa), some (.long c), none, some (.ref wm), none] [] h n 0 0
  refine o_aload_n hC dX0_forget_0 (by rfl) ?_
  refine o_iconst (v := nI 0) hC dX0_forget_1 (by decide +kernel) ?_
  refine o_putf hC (fX0_18 hC rfl) (fwX0 rfl rfl rfl (Or.inl rfl)) dX0_forget_2 (by repeat (first | with_reducible assumption | (rw [rl_u_s]; done) | (rw [rl_u_s]; rfl) | rw [rl_u_n (by first | with_reducible assumption | omega)])) (Nat.le_of_ble_eq_true rfl) ?_
  try simp only [List.set_cons_zero, List.set_cons_succ]
  refine o_iconst (v := nI 0) hC dX0_forget_5 (by decide +kernel) ?_
  refine o_istore hC dX0_forget_6 (Nat.le_of_ble_eq_true rfl) ?_
  exact loop ka 0 _ (s.1, s.2.1, 0) (by omega) ⟨by repeat (first | with_reducible assumption | (rw [rl_u_s]; done) | (rw [rl_u_s]; rfl) | rw [rl_u_n (by first | with_reducible assumption | omega)]), by repeat (first | with_reducible assumption | (rw [rl_u_s]; done) | (rw [rl_u_s]; rfl) | rw [rl_u_n (by first | with_reducible assumption | omega)]), by repeat (first | with_reducible assumption | (rw [rl_u_s]; done) | (rw [rl_u_s]; rfl) | rw [rl_u_n (by first | with_reducible assumption | omega)]), Nat.zero_le _⟩ (fun q hq => rl_u_n (by omega)) rfl

set_option maxHeartbeats 4000000 in
set_option maxRecDepth 100000 in
theorem ct_X0_addTurns (l : Launch) (D : va_G) (ids : Nat → ClassId) (H0 : Heap) (h : rl_H) (n : Nat) (d : Nat) (a b c e : Int64) (s : dr_S) (hd : dr_at ids h d s) : rl_Met l (rl_e D ids H0) rl_BW rl_Ns yX0_addTurns cX0_addTurns 12 none ({ frames := 1, cells := 0, slots := 0, locals := 26 }) [.ref d, .long a, .long b, .long c, .long e] h n (fun v h' n' => v = none ∧ n' = n ∧ dr_at ids h' d (tu_go a b c e 36 0 s) ∧ rl_fr h h' d (d + 3)) := by
  refine rl_Met.of (by decide +kernel) (Nat.le_of_ble_eq_true rfl) ?_
  intro X hC hB
  have loop : ∀ (m r : Nat) (o10 : Option Value) (h2 : rl_H) (t : dr_S), r + m = 36 → dr_at ids h2 d t → rl_fr h h2 d (d + 3) → (tu_go a b c e 36 0 s) = tu_go a b c e m r t → rl_G X (rl_e D ids H0) 3 [some (.ref d), some (.long a), none, some (.long b), none, some (.long c), none, some (.long e), none, some (.int (nI r)), o10, none] [] h2 n 0 0 := by
    intro m
    induction m with
    | zero =>
      intro r o10 h2 t hr hd2 hfr hs
      refine o_iload hC dX0_addTurns_3 (by rfl) ?_
      refine o_bipush (v := nI 36) hC dX0_addTurns_5 (by decide +kernel) ?_
      refine o_icmp_ge (tgt := 60) hC dX0_addTurns_7 (by decide) (fun c_7 => ?_) (fun c_7 => ?_)
      · refine o_vret hC hB dX0_addTurns_60 (Nat.le_of_ble_eq_true rfl) (Nat.le_of_ble_eq_true rfl) ?_
        refine ⟨rfl, rfl, ?_, hfr⟩
        rw [hs]
        exact hd2
      · exact absurd (nI_le (by omega) (by omega)) c_7
    | succ m ih =>
      intro r o10 h2 t hr hd2 hfr hs
      obtain ⟨g1, g2, g3, g4⟩ := id hd2
      refine o_iload hC dX0_addTurns_3 (by rfl) ?_
      refine o_bipush (v := nI 36) hC dX0_addTurns_5 (by decide +kernel) ?_
      refine o_icmp_ge (tgt := 60) hC dX0_addTurns_7 (by decide) (fun c_7 => ?_) (fun c_7 => ?_)
      · exact absurd c_7 (nI_ge (by omega) (by omega))
      · refine o_lconst (v := 1) hC dX0_addTurns_10 (by decide +kernel) ?_
        refine o_iload hC dX0_addTurns_11 (by rfl) ?_
        refine o_lshl hC dX0_addTurns_13 ?_
        refine o_lstore hC dX0_addTurns_14 (Nat.le_of_ble_eq_true rfl) ?_
        refine o_lload hC dX0_addTurns_16 (by rfl) ?_
        refine o_lload hC dX0_addTurns_18 (by rfl) ?_
        refine o_land hC dX0_addTurns_20 ?_
        refine o_lconst (v := 0) hC dX0_addTurns_21 (by decide +kernel) ?_
        refine o_lcmp hC dX0_addTurns_22 ?_
        refine o_if_eq (tgt := 35) hC dX0_addTurns_23 (by decide) (fun c_23 => ?_) (fun c_23 => ?_)
        · refine o_lload hC dX0_addTurns_35 (by rfl) ?_
          refine o_lload hC dX0_addTurns_37 (by rfl) ?_
          refine o_land hC dX0_addTurns_39 ?_
          refine o_lconst (v := 0) hC dX0_addTurns_40 (by decide +kernel) ?_
          refine o_lcmp hC dX0_addTurns_41 ?_
          refine o_if_eq (tgt := 54) hC dX0_addTurns_42 (by decide) (fun c_42 => ?_) (fun c_42 => ?_)
          · refine o_iinc hC dX0_addTurns_54 (by rfl) (rl_inc _) (Nat.le_of_ble_eq_true rfl) ?_
            refine o_goto (tgt := 3) hC dX0_addTurns_57 (by decide) ?_
            exact ih (r + 1) _ _ _ (by omega) (by first | exact q1 | exact p1 | exact hd2) (by first | exact (hfr.tr p2).tr q2 | exact hfr.tr q2 | exact hfr.tr p2 | exact hfr) (hs.trans (by
                show tu_go a b c e m (r + 1) (tu_one a b c e r t) = _
                unfold tu_one
                first
                | rw [if_pos ((lg_cmp_eq _ _).mp c_42), if_pos ((lg_cmp_eq _ _).mp c_23)]
                | rw [if_pos ((lg_cmp_eq _ _).mp c_42), if_neg (fun q => c_23 ((lg_cmp_eq _ _).mpr q))]
                | rw [if_neg (fun q => c_42 ((lg_cmp_eq _ _).mpr q)), if_pos ((lg_cmp_eq _ _).mp c_23)]
                | rw [if_neg (fun q => c_42 ((lg_cmp_eq _ _).mpr q)), if_neg (fun q => c_23 ((lg_cmp_eq _ _).mpr q))]))
          · refine o_aload_n hC dX0_addTurns_45 (by rfl) ?_
            refine o_lload_n hC dX0_addTurns_46 (by rfl) ?_
            refine o_lload hC dX0_addTurns_47 (by rfl) ?_
            refine o_lor hC dX0_addTurns_49 ?_
            refine o_lload_n hC dX0_addTurns_50 (by rfl) ?_
            refine o_callV2 hC rl_BW_good rl_Ns_nw (by exact hB.2.2.2.2.2) YX0_add IX0_add VX0_add (mX0_27 hC) (by rw [hB.1]; exact ct_X0_add l D ids H0 _ _ d _ _ _ (by first | exact p1 | exact hd2)) (by first | exact p1.1 | exact g1) rfl rfl (Nat.le_of_ble_eq_true rfl) (by rw [hB.2.1]; first | exact Nat.le_of_ble_eq_true rfl | (dsimp only; omega)) (by rw [hB.2.1]; first | exact Nat.le_of_ble_eq_true rfl | (dsimp only; omega)) (by rw [hB.2.1]; first | exact Nat.le_of_ble_eq_true rfl | (dsimp only; omega)) (by rw [hB.2.1]; first | exact Nat.le_of_ble_eq_true rfl | (dsimp only; omega)) dX0_addTurns_51 (fun v h_51 n_51 p_51 => ?_)
            obtain ⟨rfl, rfl, q1, q2⟩ := p_51
            try dsimp only [Option.toList, List.cons_append, List.nil_append]
            refine o_iinc hC dX0_addTurns_54 (by rfl) (rl_inc _) (Nat.le_of_ble_eq_true rfl) ?_
            refine o_goto (tgt := 3) hC dX0_addTurns_57 (by decide) ?_
            exact ih (r + 1) _ _ _ (by omega) (by first | exact q1 | exact p1 | exact hd2) (by first | exact (hfr.tr p2).tr q2 | exact hfr.tr q2 | exact hfr.tr p2 | exact hfr) (hs.trans (by
                show tu_go a b c e m (r + 1) (tu_one a b c e r t) = _
                unfold tu_one
                first
                | rw [if_pos ((lg_cmp_eq _ _).mp c_42), if_pos ((lg_cmp_eq _ _).mp c_23)]
                | rw [if_pos ((lg_cmp_eq _ _).mp c_42), if_neg (fun q => c_23 ((lg_cmp_eq _ _).mpr q))]
                | rw [if_neg (fun q => c_42 ((lg_cmp_eq _ _).mpr q)), if_pos ((lg_cmp_eq _ _).mp c_23)]
                | rw [if_neg (fun q => c_42 ((lg_cmp_eq _ _).mpr q)), if_neg (fun q => c_23 ((lg_cmp_eq _ _).mpr q))]))
        · refine o_aload_n hC dX0_addTurns_26 (by rfl) ?_
          refine o_lload_n hC dX0_addTurns_27 (by rfl) ?_
          refine o_lload_n hC dX0_addTurns_28 (by rfl) ?_
          refine o_lload hC dX0_addTurns_29 (by rfl) ?_
          refine o_lor hC dX0_addTurns_31 ?_
          refine o_callV2 hC rl_BW_good rl_Ns_nw (by exact hB.2.2.2.2.2) YX0_add IX0_add VX0_add (mX0_27 hC) (by rw [hB.1]; exact ct_X0_add l D ids H0 h2 n d _ _ _ hd2) (by exact g1) rfl rfl (Nat.le_of_ble_eq_true rfl) (by rw [hB.2.1]; first | exact Nat.le_of_ble_eq_true rfl | (dsimp only; omega)) (by rw [hB.2.1]; first | exact Nat.le_of_ble_eq_true rfl | (dsimp only; omega)) (by rw [hB.2.1]; first | exact Nat.le_of_ble_eq_true rfl | (dsimp only; omega)) (by rw [hB.2.1]; first | exact Nat.le_of_ble_eq_true rfl | (dsimp only; omega)) dX0_addTurns_32 (fun v h_32 n_32 p_32 => ?_)
          obtain ⟨rfl, rfl, p1, p2⟩ := p_32
          try dsimp only [Option.toList, List.cons_append, List.nil_append]
          refine o_lload hC dX0_addTurns_35 (by rfl) ?_
          refine o_lload hC dX0_addTurns_37 (by rfl) ?_
          refine o_land hC dX0_addTurns_39 ?_
          refine o_lconst (v := 0) hC dX0_addTurns_40 (by decide +kernel) ?_
          refine o_lcmp hC dX0_addTurns_41 ?_
          refine o_if_eq (tgt := 54) hC dX0_addTurns_42 (by decide) (fun c_42 => ?_) (fun c_42 => ?_)
          · refine o_iinc hC dX0_addTurns_54 (by rfl) (rl_inc _) (Nat.le_of_ble_eq_true rfl) ?_
            refine o_goto (tgt := 3) hC dX0_addTurns_57 (by decide) ?_
            exact ih (r + 1) _ _ _ (by omega) (by first | exact q1 | exact p1 | exact hd2) (by first | exact (hfr.tr p2).tr q2 | exact hfr.tr q2 | exact hfr.tr p2 | exact hfr) (hs.trans (by
                show tu_go a b c e m (r + 1) (tu_one a b c e r t) = _
                unfold tu_one
                first
                | rw [if_pos ((lg_cmp_eq _ _).mp c_42), if_pos ((lg_cmp_eq _ _).mp c_23)]
                | rw [if_pos ((lg_cmp_eq _ _).mp c_42), if_neg (fun q => c_23 ((lg_cmp_eq _ _).mpr q))]
                | rw [if_neg (fun q => c_42 ((lg_cmp_eq _ _).mpr q)), if_pos ((lg_cmp_eq _ _).mp c_23)]
                | rw [if_neg (fun q => c_42 ((lg_cmp_eq _ _).mpr q)), if_neg (fun q => c_23 ((lg_cmp_eq _ _).mpr q))]))
          · refine o_aload_n hC dX0_addTurns_45 (by rfl) ?_
            refine o_lload_n hC dX0_addTurns_46 (by rfl) ?_
            refine o_lload hC dX0_addTurns_47 (by rfl) ?_
            refine o_lor hC dX0_addTurns_49 ?_
            refine o_lload_n hC dX0_addTurns_50 (by rfl) ?_
            refine o_callV2 hC rl_BW_good rl_Ns_nw (by exact hB.2.2.2.2.2) YX0_add IX0_add VX0_add (mX0_27 hC) (by rw [hB.1]; exact ct_X0_add l D ids H0 _ _ d _ _ _ (by first | exact p1 | exact hd2)) (by first | exact p1.1 | exact g1) rfl rfl (Nat.le_of_ble_eq_true rfl) (by rw [hB.2.1]; first | exact Nat.le_of_ble_eq_true rfl | (dsimp only; omega)) (by rw [hB.2.1]; first | exact Nat.le_of_ble_eq_true rfl | (dsimp only; omega)) (by rw [hB.2.1]; first | exact Nat.le_of_ble_eq_true rfl | (dsimp only; omega)) (by rw [hB.2.1]; first | exact Nat.le_of_ble_eq_true rfl | (dsimp only; omega)) dX0_addTurns_51 (fun v h_51 n_51 p_51 => ?_)
            obtain ⟨rfl, rfl, q1, q2⟩ := p_51
            try dsimp only [Option.toList, List.cons_append, List.nil_append]
            refine o_iinc hC dX0_addTurns_54 (by rfl) (rl_inc _) (Nat.le_of_ble_eq_true rfl) ?_
            refine o_goto (tgt := 3) hC dX0_addTurns_57 (by decide) ?_
            exact ih (r + 1) _ _ _ (by omega) (by first | exact q1 | exact p1 | exact hd2) (by first | exact (hfr.tr p2).tr q2 | exact hfr.tr q2 | exact hfr.tr p2 | exact hfr) (hs.trans (by
                show tu_go a b c e m (r + 1) (tu_one a b c e r t) = _
                unfold tu_one
                first
                | rw [if_pos ((lg_cmp_eq _ _).mp c_42), if_pos ((lg_cmp_eq _ _).mp c_23)]
                | rw [if_pos ((lg_cmp_eq _ _).mp c_42), if_neg (fun q => c_23 ((lg_cmp_eq _ _).mpr q))]
                | rw [if_neg (fun q => c_42 ((lg_cmp_eq _ _).mpr q)), if_pos ((lg_cmp_eq _ _).mp c_23)]
                | rw [if_neg (fun q => c_42 ((lg_cmp_eq _ _).mpr q)), if_neg (fun q => c_23 ((lg_cmp_eq _ _).mpr q))]))
  show rl_G X (rl_e D ids H0) 0 [some (.ref d), some (.long a), none, some (.long b), none, some (.long c), none, some (.long e), none, none, none, none] [] h n 0 0
  refine o_iconst (v := nI 0) hC dX0_addTurns_0 (by decide +kernel) ?_
  refine o_istore hC dX0_addTurns_1 (Nat.le_of_ble_eq_true rfl) ?_
  exact loop 36 0 _ _ s (by omega) hd rl_fr.rf rfl

set_option maxHeartbeats 4000000 in
set_option maxRecDepth 100000 in
theorem ct_X0_not (l : Launch) (D : va_G) (ids : Nat → ClassId) (H0 : Heap) (h : rl_H) (n : Nat) (d wa wm ka km : Nat) (s : dr_S) (fa ga fm gm : Nat → Int64) (hd : dr_at ids h d s) (ha : ws_at ids h wa fa ga ka) (hm : ws_at ids h wm fm gm km) (da : d + 3 ≤ wa ∨ wa + 3 ≤ d) (dm : d + 3 ≤ wm ∨ wm + 3 ≤ d) (dw : wa + 3 ≤ wm ∨ wm + 3 ≤ wa) : rl_Met l (rl_e D ids H0) rl_BW rl_Ns yX0_not cX0_not 5 (some .boolean) ({ frames := 2, cells := 0, slots := 0, locals := 57 }) [.ref d, .ref wa, .ref wm] h n (fun v h' n' => ∃ x : Int32, v = some (.int x) ∧ n' = n ∧ x = (if (no_go fa ga ka 0 s (vp_updL fm 0 0, vp_updL gm 0 0, 1)).2.2 then nI 1 else nI 0) ∧ dr_at ids h' d (no_go fa ga ka 0 s (vp_updL fm 0 0, vp_updL gm 0 0, 1)).1 ∧ ws_at ids h' wm (no_go fa ga ka 0 s (vp_updL fm 0 0, vp_updL gm 0 0, 1)).2.1.1 (no_go fa ga ka 0 s (vp_updL fm 0 0, vp_updL gm 0 0, 1)).2.1.2.1 (no_go fa ga ka 0 s (vp_updL fm 0 0, vp_updL gm 0 0, 1)).2.1.2.2 ∧ rl_f2 h h' d wm) := by
  refine rl_Met.of (by decide +kernel) (Nat.le_of_ble_eq_true rfl) ?_
  intro X hC hB
  have loop1 : ∀ (m i : Nat) (o4 : Option Value) (h1 : rl_H) (t w : dr_S), i + m = ka → dr_at ids h1 d t → ws_at ids h1 wm w.1 w.2.1 w.2.2 → rl_f2 h h1 d wm → (no_go fa ga ka 0 s (vp_updL fm 0 0, vp_updL gm 0 0, 1)) = no_go fa ga m i t w → rl_G X (rl_e D ids H0) 6 [some (.ref d), some (.ref wa), some (.ref wm), some (.int (nI i)), o4] [] h1 n 0 0 := by
    intro m
    induction m with
    | zero =>
      intro i o4 h1 t w hi hd2 hw2 hf hs
      obtain ⟨g1, g2, g3, g4⟩ := id hd2
      obtain ⟨a1, a2, a3, a4⟩ := ha.kept2 hf (by omega) (by omega)
      refine o_iload_n hC dX0_not_6 (by rfl) ?_
      refine o_aload_n hC dX0_not_7 (by rfl) ?_
      refine o_getf hC (fX0_22 hC rfl) dX0_not_8 (by repeat (first | with_reducible assumption | (rw [rl_u_s]; done) | (rw [rl_u_s]; rfl) | rw [rl_u_n (by first | with_reducible assumption | omega)])) (by first | rfl | with_reducible assumption) ?_
      refine o_icmp_ge (tgt := 83) hC dX0_not_11 (by decide) (fun c_11 => ?_) (fun c_11 => ?_)
      · refine o_iconst (v := nI 1) hC dX0_not_83 (by decide +kernel) ?_
        refine o_zret hC hB dX0_not_84 (by first | rfl | decide +kernel) (Nat.le_of_ble_eq_true rfl) (Nat.le_of_ble_eq_true rfl) ?_
        refine ⟨_, rfl, rfl, ?_⟩
        rw [hs]
        exact ⟨rfl, hd2, hw2, hf⟩
      · exact absurd (nI_le (by omega) (by omega)) c_11
    | succ m ih =>
      intro i o4 h1 t w hi hd2 hw2 hf hs
      have loop2 : ∀ (m2 k : Nat) (h2 : rl_H) (u : dr_S), k + m2 = w.2.2 → dr_at ids h2 d u → rl_fr h1 h2 d (d + 3) → (no_in w.1 w.2.1 (fa i) (ga i) w.2.2 0 (t.1, t.2.1, 0)) = no_in w.1 w.2.1 (fa i) (ga i) m2 k u → rl_G X (rl_e D ids H0) 22 [some (.ref d), some (.ref wa), some (.ref wm), some (.int (nI i)), some (.int (nI k))] [] h2 n 0 0 := by
        intro m2
        induction m2 with
        | zero =>
          intro k h2 u hk hd3 hfr hs2
          obtain ⟨g1, g2, g3, g4⟩ := id hd3
          obtain ⟨a1, a2, a3, a4⟩ := (ha.kept2 hf (by omega) (by omega)).kept hfr (by omega)
          obtain ⟨w1, w2, w3, w4⟩ := hw2.kept hfr (by omega)
          have hs3 : (no_in w.1 w.2.1 (fa i) (ga i) w.2.2 0 (t.1, t.2.1, 0)) = u := hs2
          refine o_iload hC dX0_not_22 (by rfl) ?_
          refine o_aload_n hC dX0_not_24 (by rfl) ?_
          refine o_getf hC (fX0_22 hC rfl) dX0_not_25 (by repeat (first | with_reducible assumption | (rw [rl_u_s]; done) | (rw [rl_u_s]; rfl) | rw [rl_u_n (by first | with_reducible assumption | omega)])) (by first | rfl | with_reducible assumption) ?_
          refine o_icmp_ge (tgt := 67) hC dX0_not_28 (by decide) (fun c_28 => ?_) (fun c_28 => ?_)
          · refine o_aload_n hC dX0_not_67 (by rfl) ?_
            refine o_aload_n hC dX0_not_68 (by rfl) ?_
            refine o_callV1 hC rl_BW_good rl_Ns_nw (by exact hB.2.2.2.2.2) YX0_settle IX0_settle VX0_settle (mX0_31 hC) (by rw [hB.1]; exact ct_X0_settle l D ids H0 h2 n d wm w.2.2 u w.1 w.2.1 hd3 (hw2.kept hfr (by omega)) dm) (by exact g1) rfl rfl (Nat.le_of_ble_eq_true rfl) (by rw [hB.2.1]; first | exact Nat.le_of_ble_eq_true rfl | (dsimp only; omega)) (by rw [hB.2.1]; first | exact Nat.le_of_ble_eq_true rfl | (dsimp only; omega)) (by rw [hB.2.1]; first | exact Nat.le_of_ble_eq_true rfl | (dsimp only; omega)) (by rw [hB.2.1]; first | exact Nat.le_of_ble_eq_true rfl | (dsimp only; omega)) dX0_not_69 (fun v h_69 n_69 p_69 => ?_)
            obtain ⟨x, rfl, rfl, p1⟩ := p_69
            try dsimp only [Option.toList, List.cons_append, List.nil_append]
            refine o_if_ne (tgt := 77) hC dX0_not_72 (by decide) (fun c_72 => ?_) (fun c_72 => ?_)
            · refine o_iinc hC dX0_not_77 (by rfl) (rl_inc _) (Nat.le_of_ble_eq_true rfl) ?_
              refine o_goto (tgt := 6) hC dX0_not_80 (by decide) ?_
              have e : u.2.2 ≤ 12 ∧ x = nI 1 ∧ ws_at ids h_69 wm (st_go u.1 u.2.1 u.2.2 0 w.1 w.2.1).1 (st_go u.1 u.2.1 u.2.2 0 w.1 w.2.1).2 u.2.2 := by
                rcases p1.2 with q | q
                · exact absurd (by rw [q.2.1]; decide +kernel) c_72
                · exact ⟨q.1, q.2.1, q.2.2.1⟩
              exact ih (i + 1) _ _ u ((st_go u.1 u.2.1 u.2.2 0 w.1 w.2.1).1, (st_go u.1 u.2.1 u.2.2 0 w.1 w.2.1).2, u.2.2) (by omega) p1.1 e.2.2 (hf.tr (hfr.d2.tr p1.f2)) (hs.trans (by rw [no_go, hs3, if_pos e.1]))
            · refine o_iconst (v := nI 0) hC dX0_not_75 (by decide +kernel) ?_
              refine o_zret hC hB dX0_not_76 (by first | rfl | decide +kernel) (Nat.le_of_ble_eq_true rfl) (Nat.le_of_ble_eq_true rfl) ?_
              have e : 12 < u.2.2 ∧ rl_fr h2 h_69 d (d + 3) := by
                rcases p1.2 with q | q
                · exact ⟨q.1, q.2.2⟩
                · exact absurd (c_72.symm.trans q.2.1) (by decide +kernel)
              have e2 : no_go fa ga (m + 1) i t w = (u, w, false) := by rw [no_go, hs3, if_neg (by omega)]
              refine ⟨_, rfl, rfl, ?_⟩
              rw [hs, e2]
              exact ⟨rfl, p1.1, (hw2.kept hfr (by omega)).kept e.2 (by omega), hf.tr (hfr.d2.tr e.2.d2)⟩
          · exact absurd (nI_le (by omega) (by omega)) c_28
        | succ m2 ih2 =>
          intro k h2 u hk hd3 hfr hs2
          obtain ⟨g1, g2, g3, g4⟩ := id hd3
          obtain ⟨a1, a2, a3, a4⟩ := (ha.kept2 hf (by omega) (by omega)).kept hfr (by omega)
          obtain ⟨w1, w2, w3, w4⟩ := hw2.kept hfr (by omega)
          refine o_iload hC dX0_not_22 (by rfl) ?_
          refine o_aload_n hC dX0_not_24 (by rfl) ?_
          refine o_getf hC (fX0_22 hC rfl) dX0_not_25 (by repeat (first | with_reducible assumption | (rw [rl_u_s]; done) | (rw [rl_u_s]; rfl) | rw [rl_u_n (by first | with_reducible assumption | omega)])) (by first | rfl | with_reducible assumption) ?_
          refine o_icmp_ge (tgt := 67) hC dX0_not_28 (by decide) (fun c_28 => ?_) (fun c_28 => ?_)
          · exact absurd c_28 (nI_ge (by omega) (by omega))
          · refine o_aload_n hC dX0_not_31 (by rfl) ?_
            refine o_aload_n hC dX0_not_32 (by rfl) ?_
            refine o_getf hC (fX0_25 hC rfl) dX0_not_33 (by repeat (first | with_reducible assumption | (rw [rl_u_s]; done) | (rw [rl_u_s]; rfl) | rw [rl_u_n (by first | with_reducible assumption | omega)])) (by first | rfl | with_reducible assumption) ?_
            refine o_iload hC dX0_not_36 (by rfl) ?_
            refine o_laldN (t0 := 1) hC rfl dX0_not_38 (by repeat (first | with_reducible assumption | (rw [rl_u_s]; done) | (rw [rl_u_s]; rfl) | rw [rl_u_n (by first | with_reducible assumption | omega)])) (by omega) (by decide) ?_
            refine o_aload_n hC dX0_not_39 (by rfl) ?_
            refine o_getf hC (fX0_26 hC rfl) dX0_not_40 (by repeat (first | with_reducible assumption | (rw [rl_u_s]; done) | (rw [rl_u_s]; rfl) | rw [rl_u_n (by first | with_reducible assumption | omega)])) (by first | rfl | with_reducible assumption) ?_
            refine o_iload hC dX0_not_43 (by rfl) ?_
            refine o_laldN (t0 := 1) hC rfl dX0_not_45 (by repeat (first | with_reducible assumption | (rw [rl_u_s]; done) | (rw [rl_u_s]; rfl) | rw [rl_u_n (by first | with_reducible assumption | omega)])) (by omega) (by decide) ?_
            refine o_aload_n hC dX0_not_46 (by rfl) ?_
            refine o_getf hC (fX0_25 hC rfl) dX0_not_47 (by repeat (first | with_reducible assumption | (rw [rl_u_s]; done) | (rw [rl_u_s]; rfl) | rw [rl_u_n (by first | with_reducible assumption | omega)])) (by first | rfl | with_reducible assumption) ?_
            refine o_iload_n hC dX0_not_50 (by rfl) ?_
            refine o_laldN (t0 := 1) hC rfl dX0_not_51 (by repeat (first | with_reducible assumption | (rw [rl_u_s]; done) | (rw [rl_u_s]; rfl) | rw [rl_u_n (by first | with_reducible assumption | omega)])) (by omega) (by decide) ?_
            refine o_aload_n hC dX0_not_52 (by rfl) ?_
            refine o_getf hC (fX0_26 hC rfl) dX0_not_53 (by repeat (first | with_reducible assumption | (rw [rl_u_s]; done) | (rw [rl_u_s]; rfl) | rw [rl_u_n (by first | with_reducible assumption | omega)])) (by first | rfl | with_reducible assumption) ?_
            refine o_iload_n hC dX0_not_56 (by rfl) ?_
            refine o_laldN (t0 := 1) hC rfl dX0_not_57 (by repeat (first | with_reducible assumption | (rw [rl_u_s]; done) | (rw [rl_u_s]; rfl) | rw [rl_u_n (by first | with_reducible assumption | omega)])) (by omega) (by decide) ?_
            refine o_callV4 hC rl_BW_good rl_Ns_nw (by exact hB.2.2.2.2.2) YX0_addTurns IX0_addTurns VX0_addTurns (mX0_38 hC) (by rw [hB.1]; exact ct_X0_addTurns l D ids H0 h2 n d _ _ _ _ u hd3) (by exact g1) rfl rfl (Nat.le_of_ble_eq_true rfl) (by rw [hB.2.1]; first | exact Nat.le_of_ble_eq_true rfl | (dsimp only; omega)) (by rw [hB.2.1]; first | exact Nat.le_of_ble_eq_true rfl | (dsimp only; omega)) (by rw [hB.2.1]; first | exact Nat.le_of_ble_eq_true rfl | (dsimp only; omega)) (by rw [hB.2.1]; first | exact Nat.le_of_ble_eq_true rfl | (dsimp only; omega)) dX0_not_58 (fun v h_58 n_58 p_58 => ?_)
            obtain ⟨rfl, rfl, p1, p2⟩ := p_58
            try dsimp only [Option.toList, List.cons_append, List.nil_append]
            refine o_iinc hC dX0_not_61 (by rfl) (rl_inc _) (Nat.le_of_ble_eq_true rfl) ?_
            refine o_goto (tgt := 22) hC dX0_not_64 (by decide) ?_
            exact ih2 (k + 1) _ _ (by omega) p1 (hfr.tr p2) hs2
      obtain ⟨g1, g2, g3, g4⟩ := id hd2
      obtain ⟨a1, a2, a3, a4⟩ := ha.kept2 hf (by omega) (by omega)
      refine o_iload_n hC dX0_not_6 (by rfl) ?_
      refine o_aload_n hC dX0_not_7 (by rfl) ?_
      refine o_getf hC (fX0_22 hC rfl) dX0_not_8 (by repeat (first | with_reducible assumption | (rw [rl_u_s]; done) | (rw [rl_u_s]; rfl) | rw [rl_u_n (by first | with_reducible assumption | omega)])) (by first | rfl | with_reducible assumption) ?_
      refine o_icmp_ge (tgt := 83) hC dX0_not_11 (by decide) (fun c_11 => ?_) (fun c_11 => ?_)
      · exact absurd c_11 (nI_ge (by omega) (by omega))
      · refine o_aload_n hC dX0_not_14 (by rfl) ?_
        refine o_iconst (v := nI 0) hC dX0_not_15 (by decide +kernel) ?_
        refine o_putf hC (fX0_18 hC rfl) (fwX0 rfl rfl rfl (Or.inl rfl)) dX0_not_16 (by repeat (first | with_reducible assumption | (rw [rl_u_s]; done) | (rw [rl_u_s]; rfl) | rw [rl_u_n (by first | with_reducible assumption | omega)])) (Nat.le_of_ble_eq_true rfl) ?_
        try simp only [List.set_cons_zero, List.set_cons_succ]
        refine o_iconst (v := nI 0) hC dX0_not_19 (by decide +kernel) ?_
        refine o_istore hC dX0_not_20 (Nat.le_of_ble_eq_true rfl) ?_
        exact loop2 w.2.2 0 _ (t.1, t.2.1, 0) (by omega) ⟨by repeat (first | with_reducible assumption | (rw [rl_u_s]; done) | (rw [rl_u_s]; rfl) | rw [rl_u_n (by first | with_reducible assumption | omega)]), by repeat (first | with_reducible assumption | (rw [rl_u_s]; done) | (rw [rl_u_s]; rfl) | rw [rl_u_n (by first | with_reducible assumption | omega)]), by repeat (first | with_reducible assumption | (rw [rl_u_s]; done) | (rw [rl_u_s]; rfl) | rw [rl_u_n (by first | with_reducible assumption | omega)]), Nat.zero_le _⟩ (fun q hq => rl_u_n (by omega)) rfl
  show rl_G X (rl_e D ids H0) 0 [some (.ref d), some (.ref wa), some (.ref wm), none, none] [] h n 0 0
  refine o_aload_n hC dX0_not_0 (by rfl) ?_
  refine o_callV0 hC rl_BW_good rl_Ns_nw (by exact hB.2.2.2.2.2) YX6_becomeTrue IX6_becomeTrue VX6_becomeTrue (mX0_35 hC) (by rw [hB.1]; exact ct_X6_becomeTrue l D ids H0 h n wm km fm gm hm) (by exact hm.1) rfl rfl (Nat.le_of_ble_eq_true rfl) (by rw [hB.2.1]; first | exact Nat.le_of_ble_eq_true rfl | (dsimp only; omega)) (by rw [hB.2.1]; first | exact Nat.le_of_ble_eq_true rfl | (dsimp only; omega)) (by rw [hB.2.1]; first | exact Nat.le_of_ble_eq_true rfl | (dsimp only; omega)) (by rw [hB.2.1]; first | exact Nat.le_of_ble_eq_true rfl | (dsimp only; omega)) dX0_not_1 (fun v h_1 n_1 p_1 => ?_)
  obtain ⟨rfl, rfl, p1, p2⟩ := p_1
  try dsimp only [Option.toList, List.cons_append, List.nil_append]
  refine o_iconst (v := nI 0) hC dX0_not_4 (by decide +kernel) ?_
  refine o_istore_n hC dX0_not_5 (Nat.le_of_ble_eq_true rfl) ?_
  exact loop1 ka 0 _ _ s _ (by omega) (hd.kept p2 (by omega)) p1 p2.w2 rfl
end
section
/-! RowLineage$Table: at a, its tuples at a + 1, its Tuples from a + 2, by 5; P says which stands where -/
theorem rl_pred (k : Nat) : nI (k + 1) - nI 1 = nI k := by
  rw [← rl_inc k, show nI 1 = Int32.ofInt 1 from by decide +kernel]
  exact Int32.add_sub_cancel _ _
abbrev tb_S : Type := (Nat → Nat → Int32) × (Nat → Nat → Int64) × (Nat → Nat → Int64) × (Nat → Nat)
def tb_at (ids : Nat → ClassId) (h : rl_H) (a sz wd : Nat) (P : Nat → Nat) (S : tb_S) : Prop :=
  h a = some (.inr (4, [.ref (a + 1), .int (nI sz), .int (nI wd)])) ∧ (∃ f : Nat → Option Nat, h (a + 1) = some (.inl (ids 3, 80, .inr (.inr (.inr (.inr f))))) ∧ ∀ j, j < 80 → f j = some (a + 2 + 5 * P j)) ∧ (∀ j, j < 80 → P j < 80) ∧ (∀ i, i < 80 → tp_at ids h (a + 2 + 5 * i) (S.1 i) (S.2.1 i) (S.2.2.1 i) (S.2.2.2 i)) ∧ sz ≤ 80 ∧ wd ≤ 6
theorem tb_at.kept {ids : Nat → ClassId} {h h' : rl_H} {a sz wd x z : Nat} {P : Nat → Nat} {S : tb_S} (H : tb_at ids h a sz wd P S) (hf : rl_fr h h' x z) (hd : a + 402 ≤ x ∨ z ≤ a) : tb_at ids h' a sz wd P S := by
  obtain ⟨h1, ⟨f, h2, h3⟩, h4, h5, h6⟩ := H
  exact ⟨by rw [hf a (by omega)]; exact h1, ⟨f, by rw [hf (a + 1) (by omega)]; exact h2, h3⟩, h4, fun i hi => (h5 i hi).kept hf (by omega), h6⟩
def tb_fb (o : Nat → Int32) : Nat → Nat
  | 0 => 0
  | k + 1 => if o k ≤ 0 then k + 1 else tb_fb o k
theorem tb_fb_le (o : Nat → Int32) : ∀ k, tb_fb o k ≤ k
  | 0 => Nat.le_refl _
  | k + 1 => by
    unfold tb_fb
    split
    · exact Nat.le_refl _
    · exact Nat.le_succ_of_le (tb_fb_le o k)
/-- how the TUPLES from j on stand to a key -/
abbrev tb_o (S : tb_S) (P : Nat → Nat) (kc : Nat → Int32) (wd : Nat) : Nat → Int32 := fun j => tb_ord (S.1 (P j)) kc wd 0
/-- those from fb on go up by one, the one at sz comes to fb -/
def tb_sh (P : Nat → Nat) (fb sz : Nat) : Nat → Nat := fun j => if j < fb then P j else if j = fb then P sz else if j ≤ sz then P (j - 1) else P j
def tb_in (S : tb_S) (i : Nat) (kc : Nat → Int32) : tb_S := (va_up S.1 i (va_cpy kc (S.1 i) 0 0 6), S.2.1, S.2.2.1, va_up S.2.2.2 i 0)

set_option maxHeartbeats 4000000 in
set_option maxRecDepth 100000 in
theorem ct_X4_firstBehind (l : Launch) (D : va_G) (ids : Nat → ClassId) (H0 : Heap) (h : rl_H) (n : Nat) (a sz wd ka : Nat) (P : Nat → Nat) (S : tb_S) (kc : Nat → Int32) (ht : tb_at ids h a sz wd P S) (hk1 : h ka = some (.inl (ids 0, 6, .inl kc))) : rl_Met l (rl_e D ids H0) rl_BW rl_Ns yX4_firstBehind cX4_firstBehind 3 (some .int) ({ frames := 1, cells := 0, slots := 0, locals := 23 }) [.ref a, .ref ka] h n (fun v h' n' => v = some (.int (nI (tb_fb (tb_o S P kc wd) sz))) ∧ h' = h ∧ n' = n) := by
  obtain ⟨t1, ⟨tf, t2, t3⟩, t4, t5, t6, t7⟩ := id ht
  refine rl_Met.of (by decide +kernel) (Nat.le_of_ble_eq_true rfl) ?_
  intro X hC hB
  have loop : ∀ (k : Nat), k ≤ sz → tb_fb (tb_o S P kc wd) sz = tb_fb (tb_o S P kc wd) k → rl_G X (rl_e D ids H0) 5 [some (.ref a), some (.ref ka), some (.int (nI k))] [] h n 0 0 := by
    intro k
    induction k with
    | zero =>
      intro hk hs
      refine o_iload_n hC dX4_firstBehind_5 (by rfl) ?_
      refine o_if_le (tgt := 34) hC dX4_firstBehind_6 (by decide) (fun c_6 => ?_) (fun c_6 => ?_)
      · refine o_iload_n hC dX4_firstBehind_34 (by rfl) ?_
        refine o_iret hC hB dX4_firstBehind_35 (Nat.le_of_ble_eq_true rfl) (Nat.le_of_ble_eq_true rfl) ?_
        refine ⟨?_, rfl, rfl⟩
        rw [hs]
        rfl
      · exact absurd (by decide +kernel) c_6
    | succ k ih =>
      intro hk hs
      obtain ⟨e1, e2, e3⟩ := t5 (P k) (t4 k (by omega))
      refine o_iload_n hC dX4_firstBehind_5 (by rfl) ?_
      refine o_if_le (tgt := 34) hC dX4_firstBehind_6 (by decide) (fun c_6 => ?_) (fun c_6 => ?_)
      · refine o_iload_n hC dX4_firstBehind_34 (by rfl) ?_
        refine o_iret hC hB dX4_firstBehind_35 (Nat.le_of_ble_eq_true rfl) (Nat.le_of_ble_eq_true rfl) ?_
        exact absurd (show nI (k + 1) ≤ nI 0 from c_6) (nI_ge (by omega) (by omega))
      · refine o_aload_n hC dX4_firstBehind_9 (by rfl) ?_
        refine o_aload_n hC dX4_firstBehind_10 (by rfl) ?_
        refine o_getf hC (fX4_11 hC rfl) dX4_firstBehind_11 (by repeat (first | with_reducible assumption | (rw [rl_u_s]; done) | (rw [rl_u_s]; rfl) | rw [rl_u_n (by first | with_reducible assumption | omega)])) (by first | rfl | with_reducible assumption) ?_
        refine o_iload_n hC dX4_firstBehind_14 (by rfl) ?_
        refine o_iconst (v := nI 1) hC dX4_firstBehind_15 (by decide +kernel) ?_
        refine o_isub hC dX4_firstBehind_16 ?_
        rw [rl_pred k]
        refine o_aaldN (t0 := 3) hC rfl dX4_firstBehind_17 (by repeat (first | with_reducible assumption | (rw [rl_u_s]; done) | (rw [rl_u_s]; rfl) | rw [rl_u_n (by first | with_reducible assumption | omega)])) (by omega) (by decide) ?_
        rw [t3 _ (by omega)]
        show rl_G X _ _ _ (.ref _ :: _) _ _ _ _
        refine o_getf hC (fX4_29 hC rfl) dX4_firstBehind_18 (by repeat (first | with_reducible assumption | (rw [rl_u_s]; done) | (rw [rl_u_s]; rfl) | rw [rl_u_n (by first | with_reducible assumption | omega)])) (by first | rfl | with_reducible assumption) ?_
        refine o_aload_n hC dX4_firstBehind_21 (by rfl) ?_
        refine o_callV2 hC rl_BW_good rl_Ns_nw (by exact hB.2.2.2.2.2) YX4_order IX4_order VX4_order (mX4_33 hC) (by rw [hB.1]; exact ct_X4_order l D ids H0 h n a (a + 2 + 5 * P k + 1) ka wd _ _ (S.1 (P k)) kc t1 e2 hk1 t7) (by exact t1) rfl rfl (Nat.le_of_ble_eq_true rfl) (by rw [hB.2.1]; first | exact Nat.le_of_ble_eq_true rfl | (dsimp only; omega)) (by rw [hB.2.1]; first | exact Nat.le_of_ble_eq_true rfl | (dsimp only; omega)) (by rw [hB.2.1]; first | exact Nat.le_of_ble_eq_true rfl | (dsimp only; omega)) (by rw [hB.2.1]; first | exact Nat.le_of_ble_eq_true rfl | (dsimp only; omega)) dX4_firstBehind_22 (fun v h_22 n_22 p_22 => ?_)
        obtain ⟨rfl, rfl, rfl⟩ := p_22
        try dsimp only [Option.toList, List.cons_append, List.nil_append]
        refine o_if_le (tgt := 34) hC dX4_firstBehind_25 (by decide) (fun c_25 => ?_) (fun c_25 => ?_)
        · refine o_iload_n hC dX4_firstBehind_34 (by rfl) ?_
          refine o_iret hC hB dX4_firstBehind_35 (Nat.le_of_ble_eq_true rfl) (Nat.le_of_ble_eq_true rfl) ?_
          refine ⟨?_, rfl, rfl⟩
          rw [hs]
          rw [tb_fb, if_pos c_25]
        · refine o_iinc hC dX4_firstBehind_28 (by rfl) (rl_dec _) (Nat.le_of_ble_eq_true rfl) ?_
          refine o_goto (tgt := 5) hC dX4_firstBehind_31 (by decide) ?_
          exact ih (by omega) (by rw [hs, tb_fb, if_neg c_25])
  show rl_G X (rl_e D ids H0) 0 [some (.ref a), some (.ref ka), none] [] h n 0 0
  refine o_aload_n hC dX4_firstBehind_0 (by rfl) ?_
  refine o_getf hC (fX4_18 hC rfl) dX4_firstBehind_1 (by repeat (first | with_reducible assumption | (rw [rl_u_s]; done) | (rw [rl_u_s]; rfl) | rw [rl_u_n (by first | with_reducible assumption | omega)])) (by first | rfl | with_reducible assumption) ?_
  refine o_istore_n hC dX4_firstBehind_4 (Nat.le_of_ble_eq_true rfl) ?_
  exact loop sz (Nat.le_refl _) rfl

set_option maxHeartbeats 4000000 in
set_option maxRecDepth 100000 in
theorem ct_X4_find (l : Launch) (D : va_G) (ids : Nat → ClassId) (H0 : Heap) (h : rl_H) (n : Nat) (a sz wd ka : Nat) (P : Nat → Nat) (S : tb_S) (kc : Nat → Int32) (ht : tb_at ids h a sz wd P S) (hk1 : h ka = some (.inl (ids 0, 6, .inl kc))) : rl_Met l (rl_e D ids H0) rl_BW rl_Ns yX4_find cX4_find 3 (some (.object "RowLineage$Tuple")) ({ frames := 2, cells := 0, slots := 0, locals := 45 }) [.ref a, .ref ka] h n (fun v h' n' => v = (if 0 < (tb_fb (tb_o S P kc wd) sz) ∧ tb_o S P kc wd ((tb_fb (tb_o S P kc wd) sz) - 1) = 0 then some (.ref (a + 2 + 5 * P ((tb_fb (tb_o S P kc wd) sz) - 1))) else some .null) ∧ h' = h ∧ n' = n) := by
  obtain ⟨t1, ⟨tf, t2, t3⟩, t4, t5, t6, t7⟩ := id ht
  refine rl_Met.of (by decide +kernel) (Nat.le_of_ble_eq_true rfl) ?_
  intro X hC hB
  show rl_G X (rl_e D ids H0) 0 [some (.ref a), some (.ref ka), none] [] h n 0 0
  refine o_aload_n hC dX4_find_0 (by rfl) ?_
  refine o_aload_n hC dX4_find_1 (by rfl) ?_
  refine o_callV1 hC rl_BW_good rl_Ns_nw (by exact hB.2.2.2.2.2) YX4_firstBehind IX4_firstBehind VX4_firstBehind (mX4_25 hC) (by rw [hB.1]; exact ct_X4_firstBehind l D ids H0 h n a sz wd ka P S kc ht hk1) (by exact t1) rfl rfl (Nat.le_of_ble_eq_true rfl) (by rw [hB.2.1]; first | exact Nat.le_of_ble_eq_true rfl | (dsimp only; omega)) (by rw [hB.2.1]; first | exact Nat.le_of_ble_eq_true rfl | (dsimp only; omega)) (by rw [hB.2.1]; first | exact Nat.le_of_ble_eq_true rfl | (dsimp only; omega)) (by rw [hB.2.1]; first | exact Nat.le_of_ble_eq_true rfl | (dsimp only; omega)) dX4_find_2 (fun v h_2 n_2 p_2 => ?_)
  obtain ⟨rfl, rfl, rfl⟩ := p_2
  have hfb := tb_fb_le (tb_o S P kc wd) sz
  generalize hz : (tb_fb (tb_o S P kc wd) sz) = z at hfb ⊢
  try dsimp only [Option.toList, List.cons_append, List.nil_append]
  refine o_istore_n hC dX4_find_5 (Nat.le_of_ble_eq_true rfl) ?_
  refine o_iload_n hC dX4_find_6 (by rfl) ?_
  refine o_if_le (tgt := 40) hC dX4_find_7 (by decide) (fun c_7 => ?_) (fun c_7 => ?_)
  · refine o_null hC dX4_find_40 ?_
    refine o_aret hC hB (by first | exact Or.inl ⟨_, rfl⟩ | exact Or.inr ⟨_, rfl⟩) (by first | exact Or.inl rfl | exact Or.inr ⟨_, rfl⟩) dX4_find_41 (Nat.le_of_ble_eq_true rfl) (Nat.le_of_ble_eq_true rfl) ?_
    have hz0 : z = 0 := by
      rcases Nat.eq_zero_or_pos z with q | q
      · exact q
      · exact absurd (show nI z ≤ nI 0 from c_7) (nI_ge q (by omega))
    subst hz0
    refine ⟨?_, rfl, rfl⟩
    rw [if_neg (fun q => absurd q.1 (by omega))]
  · have hz0 : z ≠ 0 := by
      intro q
      subst q
      exact c_7 (by decide +kernel)
    obtain ⟨k, rfl⟩ : ∃ k, z = k + 1 := ⟨z - 1, by omega⟩
    obtain ⟨e1, e2, e3⟩ := t5 (P k) (t4 k (by omega))
    refine o_aload_n hC dX4_find_10 (by rfl) ?_
    refine o_aload_n hC dX4_find_11 (by rfl) ?_
    refine o_getf hC (fX4_11 hC rfl) dX4_find_12 (by repeat (first | with_reducible assumption | (rw [rl_u_s]; done) | (rw [rl_u_s]; rfl) | rw [rl_u_n (by first | with_reducible assumption | omega)])) (by first | rfl | with_reducible assumption) ?_
    refine o_iload_n hC dX4_find_15 (by rfl) ?_
    refine o_iconst (v := nI 1) hC dX4_find_16 (by decide +kernel) ?_
    refine o_isub hC dX4_find_17 ?_
    rw [rl_pred k]
    refine o_aaldN (t0 := 3) hC rfl dX4_find_18 (by repeat (first | with_reducible assumption | (rw [rl_u_s]; done) | (rw [rl_u_s]; rfl) | rw [rl_u_n (by first | with_reducible assumption | omega)])) (by omega) (by decide) ?_
    rw [t3 _ (by omega)]
    show rl_G X _ _ _ (.ref _ :: _) _ _ _ _
    refine o_getf hC (fX4_29 hC rfl) dX4_find_19 (by repeat (first | with_reducible assumption | (rw [rl_u_s]; done) | (rw [rl_u_s]; rfl) | rw [rl_u_n (by first | with_reducible assumption | omega)])) (by first | rfl | with_reducible assumption) ?_
    refine o_aload_n hC dX4_find_22 (by rfl) ?_
    refine o_callV2 hC rl_BW_good rl_Ns_nw (by exact hB.2.2.2.2.2) YX4_order IX4_order VX4_order (mX4_33 hC) (by rw [hB.1]; exact ct_X4_order l D ids H0 _ _ a (a + 2 + 5 * P k + 1) ka wd _ _ (S.1 (P k)) kc t1 e2 hk1 t7) (by exact t1) rfl rfl (Nat.le_of_ble_eq_true rfl) (by rw [hB.2.1]; first | exact Nat.le_of_ble_eq_true rfl | (dsimp only; omega)) (by rw [hB.2.1]; first | exact Nat.le_of_ble_eq_true rfl | (dsimp only; omega)) (by rw [hB.2.1]; first | exact Nat.le_of_ble_eq_true rfl | (dsimp only; omega)) (by rw [hB.2.1]; first | exact Nat.le_of_ble_eq_true rfl | (dsimp only; omega)) dX4_find_23 (fun v h_23 n_23 p_23 => ?_)
    obtain ⟨rfl, rfl, rfl⟩ := p_23
    try dsimp only [Option.toList, List.cons_append, List.nil_append]
    refine o_if_ne (tgt := 40) hC dX4_find_26 (by decide) (fun c_26 => ?_) (fun c_26 => ?_)
    · refine o_null hC dX4_find_40 ?_
      refine o_aret hC hB (by first | exact Or.inl ⟨_, rfl⟩ | exact Or.inr ⟨_, rfl⟩) (by first | exact Or.inl rfl | exact Or.inr ⟨_, rfl⟩) dX4_find_41 (Nat.le_of_ble_eq_true rfl) (Nat.le_of_ble_eq_true rfl) ?_
      refine ⟨?_, rfl, rfl⟩
      rw [hz, if_neg (fun q => c_26 q.2)]
    · refine o_aload_n hC dX4_find_29 (by rfl) ?_
      refine o_getf hC (fX4_11 hC rfl) dX4_find_30 (by repeat (first | with_reducible assumption | (rw [rl_u_s]; done) | (rw [rl_u_s]; rfl) | rw [rl_u_n (by first | with_reducible assumption | omega)])) (by first | rfl | with_reducible assumption) ?_
      refine o_iload_n hC dX4_find_33 (by rfl) ?_
      refine o_iconst (v := nI 1) hC dX4_find_34 (by decide +kernel) ?_
      refine o_isub hC dX4_find_35 ?_
      rw [rl_pred k]
      refine o_aaldN (t0 := 3) hC rfl dX4_find_36 (by repeat (first | with_reducible assumption | (rw [rl_u_s]; done) | (rw [rl_u_s]; rfl) | rw [rl_u_n (by first | with_reducible assumption | omega)])) (by omega) (by decide) ?_
      rw [t3 _ (by omega)]
      show rl_G X _ _ _ (.ref _ :: _) _ _ _ _
      refine o_goto (tgt := 41) hC dX4_find_37 (by decide) ?_
      refine o_aret hC hB (by first | exact Or.inl ⟨_, rfl⟩ | exact Or.inr ⟨_, rfl⟩) (by first | exact Or.inl rfl | exact Or.inr ⟨_, rfl⟩) dX4_find_41 (Nat.le_of_ble_eq_true rfl) (Nat.le_of_ble_eq_true rfl) ?_
      refine ⟨?_, rfl, rfl⟩
      rw [hz, if_pos ⟨Nat.succ_pos k, c_26⟩]
      rfl

set_option maxHeartbeats 4000000 in
set_option maxRecDepth 100000 in
theorem ct_X4_findOrAdd (l : Launch) (D : va_G) (ids : Nat → ClassId) (H0 : Heap) (h : rl_H) (n : Nat) (a sz wd ka : Nat) (P : Nat → Nat) (S : tb_S) (kc : Nat → Int32) (ht : tb_at ids h a sz wd P S) (hk1 : h ka = some (.inl (ids 0, 6, .inl kc))) (hka : ka < a ∨ a + 402 ≤ ka) : rl_Met l (rl_e D ids H0) rl_BW rl_Ns yX4_findOrAdd cX4_findOrAdd 5 (some (.object "RowLineage$Tuple")) ({ frames := 2, cells := 0, slots := 0, locals := 101 }) [.ref a, .ref ka] h n (fun v h' n' => (0 < (tb_fb (tb_o S P kc wd) sz) ∧ tb_o S P kc wd ((tb_fb (tb_o S P kc wd) sz) - 1) = 0) ∧ v = some (.ref (a + 2 + 5 * P ((tb_fb (tb_o S P kc wd) sz) - 1))) ∧ h' = h ∧ n' = n ∨ v = some .null ∧ 80 ≤ sz ∧ ¬ (0 < (tb_fb (tb_o S P kc wd) sz) ∧ tb_o S P kc wd ((tb_fb (tb_o S P kc wd) sz) - 1) = 0) ∧ h' = h ∧ n' = n ∨ ¬ (0 < (tb_fb (tb_o S P kc wd) sz) ∧ tb_o S P kc wd ((tb_fb (tb_o S P kc wd) sz) - 1) = 0) ∧ sz < 80 ∧ v = some (.ref (a + 2 + 5 * P sz)) ∧ n' = n ∧ tb_at ids h' a (sz + 1) wd (tb_sh P (tb_fb (tb_o S P kc wd) sz) sz) (tb_in S (P sz) kc) ∧ rl_fr h h' a (a + 402)) := by
  obtain ⟨t1, ⟨tf, t2, t3⟩, t4, t5, t6, t7⟩ := id ht
  refine rl_Met.of (by decide +kernel) (Nat.le_of_ble_eq_true rfl) ?_
  intro X hC hB
  have hP := t4
  have loop : ∀ (d t z : Nat) (h1 : rl_H) (f1 : Nat → Option Nat), z + d = t → t ≤ sz → sz < 80 → z = (tb_fb (tb_o S P kc wd) sz) → ¬ (0 < z ∧ tb_o S P kc wd (z - 1) = 0) → h1 (a + 1) = some (.inl (ids 3, 80, .inr (.inr (.inr (.inr f1))))) → (∀ j, j < 80 → f1 j = some (a + 2 + 5 * (if t < j ∧ j ≤ sz then P (j - 1) else P j))) → rl_fr h h1 (a + 1) (a + 2) → rl_G X (rl_e D ids H0) 65 [some (.ref a), some (.ref ka), some (.int (nI z)), some (.ref (a + 2 + 5 * P sz)), some (.int (nI t))] [] h1 n 0 0 := by
    intro d
    induction d with
    | zero =>
      intro t z h1 f1 hd ht hz80 hz hnz u1 u2 hfr
      have u0 : h1 a = some (.inr (4, [.ref (a + 1), .int (nI sz), .int (nI wd)])) := by rw [hfr a (by omega)]; exact t1
      have u3 : h1 (a + 2 + 5 * P sz) = some (.inr (5, [.ref (a + 2 + 5 * P sz + 1), .ref (a + 2 + 5 * P sz + 2)])) := by rw [hfr _ (by omega)]; exact (t5 (P sz) (t4 sz hz80)).1
      refine o_iload hC dX4_findOrAdd_65 (by rfl) ?_
      refine o_iload_n hC dX4_findOrAdd_67 (by rfl) ?_
      refine o_icmp_le (tgt := 93) hC dX4_findOrAdd_68 (by decide) (fun c_68 => ?_) (fun c_68 => ?_)
      · refine o_aload_n hC dX4_findOrAdd_93 (by rfl) ?_
        refine o_getf hC (fX4_11 hC rfl) dX4_findOrAdd_94 (by repeat (first | with_reducible assumption | (rw [rl_u_s]; done) | (rw [rl_u_s]; rfl) | rw [rl_u_n (by first | with_reducible assumption | omega)])) (by first | rfl | with_reducible assumption) ?_
        refine o_iload_n hC dX4_findOrAdd_97 (by rfl) ?_
        refine o_aload_n hC dX4_findOrAdd_98 (by rfl) ?_
        have hb := t4 sz hz80
        refine o_aastN (t0 := 3) hC rfl rfl dX4_findOrAdd_99 u1 u3 (by omega) (by decide) ?_
        refine o_aload_n hC dX4_findOrAdd_100 (by rfl) ?_
        refine o_dup hC dX4_findOrAdd_101 rfl ?_
        refine o_getf hC (fX4_18 hC rfl) dX4_findOrAdd_102 (by repeat (first | with_reducible assumption | (rw [rl_u_s]; done) | (rw [rl_u_s]; rfl) | rw [rl_u_n (by first | with_reducible assumption | omega)])) (by first | rfl | with_reducible assumption) ?_
        refine o_iconst (v := nI 1) hC dX4_findOrAdd_105 (by decide +kernel) ?_
        refine o_iadd hC dX4_findOrAdd_106 ?_
        rw [nI_add sz 1]
        refine o_putf hC (fX4_18 hC rfl) (fwX4 rfl rfl rfl (Or.inl rfl)) dX4_findOrAdd_107 (by repeat (first | with_reducible assumption | (rw [rl_u_s]; done) | (rw [rl_u_s]; rfl) | rw [rl_u_n (by first | with_reducible assumption | omega)])) (Nat.le_of_ble_eq_true rfl) ?_
        try simp only [List.set_cons_zero, List.set_cons_succ]
        refine o_aload_n hC dX4_findOrAdd_110 (by rfl) ?_
        refine o_aload_n hC dX4_findOrAdd_111 (by rfl) ?_
        refine o_callV1 hC rl_BW_good rl_Ns_nw (by exact hB.2.2.2.2.2) YX5_become IX5_become VX5_become (mX4_37 hC) (by rw [hB.1]; exact ct_X5_become l D ids H0 _ _ (a + 2 + 5 * P sz) ka _ _ kc _ _ ((t5 (P sz) (t4 sz hz80)).eqv (fun q q1 q2 => by rw [rl_u_n (by omega), rl_u_n (by omega)]; exact hfr q (by omega))) (by rw [rl_u_n (by omega), rl_u_n (by omega), hfr ka (by omega)]; exact hk1)) (by rw [rl_u_n (by omega), rl_u_n (by omega)]; exact u3) rfl rfl (Nat.le_of_ble_eq_true rfl) (by rw [hB.2.1]; first | exact Nat.le_of_ble_eq_true rfl | (dsimp only; omega)) (by rw [hB.2.1]; first | exact Nat.le_of_ble_eq_true rfl | (dsimp only; omega)) (by rw [hB.2.1]; first | exact Nat.le_of_ble_eq_true rfl | (dsimp only; omega)) (by rw [hB.2.1]; first | exact Nat.le_of_ble_eq_true rfl | (dsimp only; omega)) dX4_findOrAdd_112 (fun v h_112 n_112 p_112 => ?_)
        obtain ⟨rfl, rfl, p1, p2⟩ := p_112
        try dsimp only [Option.toList, List.cons_append, List.nil_append]
        refine o_aload_n hC dX4_findOrAdd_115 (by rfl) ?_
        refine o_aret hC hB (by first | exact Or.inl ⟨_, rfl⟩ | exact Or.inr ⟨_, rfl⟩) (by first | exact Or.inl rfl | exact Or.inr ⟨_, rfl⟩) dX4_findOrAdd_116 (Nat.le_of_ble_eq_true rfl) (Nat.le_of_ble_eq_true rfl) ?_
        refine Or.inr (Or.inr ⟨?_, hz80, ?_, rfl, ?_, ?_⟩)
        · rw [← hz]; exact hnz
        · rfl
        · rw [← hz]
          refine ⟨?_, ⟨va_up f1 z (some (a + 2 + 5 * P sz)), ?_, ?_⟩, ?_, ?_, by omega, t7⟩
          · rw [p2 a (by omega)]
            repeat (first | with_reducible assumption | (rw [rl_u_s]; done) | (rw [rl_u_s]; rfl) | rw [rl_u_n (by first | with_reducible assumption | omega)])
          · rw [p2 (a + 1) (by omega)]
            repeat (first | with_reducible assumption | (rw [rl_u_s]; done) | (rw [rl_u_s]; rfl) | rw [rl_u_n (by first | with_reducible assumption | omega)])
          · intro j hj
            have hq := u2 j hj
            unfold va_up tb_sh
            by_cases j1 : j = z
            · subst j1
              rw [if_pos rfl, if_neg (by omega), if_pos rfl]
            · rw [if_neg j1, hq]
              by_cases j2 : j < z
              · rw [if_neg (by omega), if_pos j2]
              · by_cases j3 : j ≤ sz
                · rw [if_pos (by omega), if_neg j2, if_neg j1, if_pos j3]
                · rw [if_neg (by omega), if_neg j2, if_neg j1, if_neg j3]
          · intro j hj
            unfold tb_sh
            split
            · exact t4 j hj
            · split
              · exact t4 sz hz80
              · split
                · exact t4 (j - 1) (by omega)
                · exact t4 j hj
          · intro i hi
            by_cases i1 : i = P sz
            · subst i1
              show tp_at ids _ _ (va_up S.1 (P sz) _ (P sz)) _ _ (va_up S.2.2.2 (P sz) 0 (P sz))
              unfold va_up
              rw [if_pos rfl, if_pos rfl]
              exact p1
            · show tp_at ids _ _ (va_up S.1 (P sz) _ i) _ _ (va_up S.2.2.2 (P sz) 0 i)
              unfold va_up
              rw [if_neg i1, if_neg i1]
              refine (t5 i hi).eqv (fun q q1 q2 => ?_)
              rw [p2 q (by omega), rl_u_n (by omega), rl_u_n (by omega)]
              exact hfr q (by omega)
        · intro q hq
          have hb := t4 sz hz80
          rw [p2 q (by omega), rl_u_n (by omega), rl_u_n (by omega)]
          exact hfr q (by omega)
      · exact absurd (nI_le (by omega) (by omega)) c_68
    | succ d ih =>
      intro t z h1 f1 hd ht hz80 hz hnz u1 u2 hfr
      obtain ⟨s, rfl⟩ : ∃ s, t = s + 1 := ⟨t - 1, by omega⟩
      have u0 : h1 a = some (.inr (4, [.ref (a + 1), .int (nI sz), .int (nI wd)])) := by rw [hfr a (by omega)]; exact t1
      have u4 : f1 s = some (a + 2 + 5 * P s) := by rw [u2 s (by omega), if_neg (by omega)]
      have u3 : h1 (a + 2 + 5 * P s) = some (.inr (5, [.ref (a + 2 + 5 * P s + 1), .ref (a + 2 + 5 * P s + 2)])) := by rw [hfr _ (by omega)]; exact (t5 (P s) (t4 s (by omega))).1
      refine o_iload hC dX4_findOrAdd_65 (by rfl) ?_
      refine o_iload_n hC dX4_findOrAdd_67 (by rfl) ?_
      refine o_icmp_le (tgt := 93) hC dX4_findOrAdd_68 (by decide) (fun c_68 => ?_) (fun c_68 => ?_)
      · exact absurd c_68 (nI_ge (by omega) (by omega))
      · refine o_aload_n hC dX4_findOrAdd_71 (by rfl) ?_
        refine o_getf hC (fX4_11 hC rfl) dX4_findOrAdd_72 (by repeat (first | with_reducible assumption | (rw [rl_u_s]; done) | (rw [rl_u_s]; rfl) | rw [rl_u_n (by first | with_reducible assumption | omega)])) (by first | rfl | with_reducible assumption) ?_
        refine o_iload hC dX4_findOrAdd_75 (by rfl) ?_
        refine o_aload_n hC dX4_findOrAdd_77 (by rfl) ?_
        refine o_getf hC (fX4_11 hC rfl) dX4_findOrAdd_78 (by repeat (first | with_reducible assumption | (rw [rl_u_s]; done) | (rw [rl_u_s]; rfl) | rw [rl_u_n (by first | with_reducible assumption | omega)])) (by first | rfl | with_reducible assumption) ?_
        refine o_iload hC dX4_findOrAdd_81 (by rfl) ?_
        refine o_iconst (v := nI 1) hC dX4_findOrAdd_83 (by decide +kernel) ?_
        refine o_isub hC dX4_findOrAdd_84 ?_
        rw [rl_pred s]
        refine o_aaldN (t0 := 3) hC rfl dX4_findOrAdd_85 u1 (by omega) (by decide) ?_
        rw [u4]
        show rl_G X _ _ _ (.ref _ :: _) _ _ _ _
        refine o_aastN (t0 := 3) hC rfl rfl dX4_findOrAdd_86 u1 u3 (by omega) (by decide) ?_
        refine o_iinc hC dX4_findOrAdd_87 (by rfl) (rl_dec _) (Nat.le_of_ble_eq_true rfl) ?_
        refine o_goto (tgt := 65) hC dX4_findOrAdd_90 (by decide) ?_
        exact ih s z _ _ (by omega) (by omega) hz80 hz hnz rl_u_s (fun j hj => by
            unfold va_up
            by_cases j1 : j = s + 1
            · subst j1
              rw [if_pos rfl, if_pos (by omega)]
              rfl
            · rw [if_neg j1, u2 j hj]
              by_cases j2 : s + 1 < j ∧ j ≤ sz
              · rw [if_pos j2, if_pos (by omega)]
              · rw [if_neg j2, if_neg (by omega)]) (fun q hq => by rw [rl_u_n (by omega)]; exact hfr q hq)
  show rl_G X (rl_e D ids H0) 0 [some (.ref a), some (.ref ka), none, none, none] [] h n 0 0
  refine o_aload_n hC dX4_findOrAdd_0 (by rfl) ?_
  refine o_aload_n hC dX4_findOrAdd_1 (by rfl) ?_
  refine o_callV1 hC rl_BW_good rl_Ns_nw (by exact hB.2.2.2.2.2) YX4_firstBehind IX4_firstBehind VX4_firstBehind (mX4_25 hC) (by rw [hB.1]; exact ct_X4_firstBehind l D ids H0 h n a sz wd ka P S kc ht hk1) (by exact t1) rfl rfl (Nat.le_of_ble_eq_true rfl) (by rw [hB.2.1]; first | exact Nat.le_of_ble_eq_true rfl | (dsimp only; omega)) (by rw [hB.2.1]; first | exact Nat.le_of_ble_eq_true rfl | (dsimp only; omega)) (by rw [hB.2.1]; first | exact Nat.le_of_ble_eq_true rfl | (dsimp only; omega)) (by rw [hB.2.1]; first | exact Nat.le_of_ble_eq_true rfl | (dsimp only; omega)) dX4_findOrAdd_2 (fun v h_2 n_2 p_2 => ?_)
  obtain ⟨rfl, rfl, rfl⟩ := p_2
  have hfb := tb_fb_le (tb_o S P kc wd) sz
  generalize hz : (tb_fb (tb_o S P kc wd) sz) = z at hfb ⊢
  try dsimp only [Option.toList, List.cons_append, List.nil_append]
  refine o_istore_n hC dX4_findOrAdd_5 (Nat.le_of_ble_eq_true rfl) ?_
  refine o_iload_n hC dX4_findOrAdd_6 (by rfl) ?_
  refine o_if_le (tgt := 38) hC dX4_findOrAdd_7 (by decide) (fun c_7 => ?_) (fun c_7 => ?_)
  · refine o_aload_n hC dX4_findOrAdd_38 (by rfl) ?_
    refine o_getf hC (fX4_18 hC rfl) dX4_findOrAdd_39 (by repeat (first | with_reducible assumption | (rw [rl_u_s]; done) | (rw [rl_u_s]; rfl) | rw [rl_u_n (by first | with_reducible assumption | omega)])) (by first | rfl | with_reducible assumption) ?_
    refine o_bipush (v := nI 80) hC dX4_findOrAdd_42 (by decide +kernel) ?_
    refine o_icmp_lt (tgt := 49) hC dX4_findOrAdd_44 (by decide) (fun c_44 => ?_) (fun c_44 => ?_)
    · have hs80 : sz < 80 := by
        rcases Nat.lt_or_ge sz 80 with q | q
        · exact q
        · exact absurd c_44 (nI_nlt q (by omega))
      refine o_aload_n hC dX4_findOrAdd_49 (by rfl) ?_
      refine o_getf hC (fX4_11 hC rfl) dX4_findOrAdd_50 (by repeat (first | with_reducible assumption | (rw [rl_u_s]; done) | (rw [rl_u_s]; rfl) | rw [rl_u_n (by first | with_reducible assumption | omega)])) (by first | rfl | with_reducible assumption) ?_
      refine o_aload_n hC dX4_findOrAdd_53 (by rfl) ?_
      refine o_getf hC (fX4_18 hC rfl) dX4_findOrAdd_54 (by repeat (first | with_reducible assumption | (rw [rl_u_s]; done) | (rw [rl_u_s]; rfl) | rw [rl_u_n (by first | with_reducible assumption | omega)])) (by first | rfl | with_reducible assumption) ?_
      refine o_aaldN (t0 := 3) hC rfl dX4_findOrAdd_57 (by repeat (first | with_reducible assumption | (rw [rl_u_s]; done) | (rw [rl_u_s]; rfl) | rw [rl_u_n (by first | with_reducible assumption | omega)])) (by omega) (by decide) ?_
      rw [t3 _ (by omega)]
      show rl_G X _ _ _ (.ref _ :: _) _ _ _ _
      refine o_astore_n hC dX4_findOrAdd_58 (Nat.le_of_ble_eq_true rfl) ?_
      refine o_aload_n hC dX4_findOrAdd_59 (by rfl) ?_
      refine o_getf hC (fX4_18 hC rfl) dX4_findOrAdd_60 (by repeat (first | with_reducible assumption | (rw [rl_u_s]; done) | (rw [rl_u_s]; rfl) | rw [rl_u_n (by first | with_reducible assumption | omega)])) (by first | rfl | with_reducible assumption) ?_
      refine o_istore hC dX4_findOrAdd_63 (Nat.le_of_ble_eq_true rfl) ?_
      have hz0 : z = 0 := by
        rcases Nat.eq_zero_or_pos z with q | q
        · exact q
        · exact absurd (show nI z ≤ nI 0 from c_7) (nI_ge q (by omega))
      exact loop (sz - z) sz z _ tf (by omega) (Nat.le_refl _) hs80 hz.symm (fun q => absurd q.1 (by omega)) t2 (fun j hj => by rw [t3 j hj, if_neg (by omega)]) rl_fr.rf
    · refine o_null hC dX4_findOrAdd_47 ?_
      refine o_aret hC hB (by first | exact Or.inl ⟨_, rfl⟩ | exact Or.inr ⟨_, rfl⟩) (by first | exact Or.inl rfl | exact Or.inr ⟨_, rfl⟩) dX4_findOrAdd_48 (Nat.le_of_ble_eq_true rfl) (Nat.le_of_ble_eq_true rfl) ?_
      have hz0 : z = 0 := by
        rcases Nat.eq_zero_or_pos z with q | q
        · exact q
        · exact absurd (show nI z ≤ nI 0 from c_7) (nI_ge q (by omega))
      refine Or.inr (Or.inl ⟨rfl, ?_, ?_, rfl, rfl⟩)
      · rcases Nat.lt_or_ge sz 80 with q | q
        · exact absurd (nI_lt q (by decide)) c_44
        · exact q
      · rw [hz]
        exact fun q => absurd q.1 (by omega)
  · have hz0 : z ≠ 0 := by
      intro q
      subst q
      exact c_7 (by decide +kernel)
    obtain ⟨k, rfl⟩ : ∃ k, z = k + 1 := ⟨z - 1, by omega⟩
    obtain ⟨e1, e2, e3⟩ := t5 (P k) (t4 k (by omega))
    refine o_aload_n hC dX4_findOrAdd_10 (by rfl) ?_
    refine o_aload_n hC dX4_findOrAdd_11 (by rfl) ?_
    refine o_getf hC (fX4_11 hC rfl) dX4_findOrAdd_12 (by repeat (first | with_reducible assumption | (rw [rl_u_s]; done) | (rw [rl_u_s]; rfl) | rw [rl_u_n (by first | with_reducible assumption | omega)])) (by first | rfl | with_reducible assumption) ?_
    refine o_iload_n hC dX4_findOrAdd_15 (by rfl) ?_
    refine o_iconst (v := nI 1) hC dX4_findOrAdd_16 (by decide +kernel) ?_
    refine o_isub hC dX4_findOrAdd_17 ?_
    rw [rl_pred k]
    refine o_aaldN (t0 := 3) hC rfl dX4_findOrAdd_18 (by repeat (first | with_reducible assumption | (rw [rl_u_s]; done) | (rw [rl_u_s]; rfl) | rw [rl_u_n (by first | with_reducible assumption | omega)])) (by omega) (by decide) ?_
    rw [t3 _ (by omega)]
    show rl_G X _ _ _ (.ref _ :: _) _ _ _ _
    refine o_getf hC (fX4_29 hC rfl) dX4_findOrAdd_19 (by repeat (first | with_reducible assumption | (rw [rl_u_s]; done) | (rw [rl_u_s]; rfl) | rw [rl_u_n (by first | with_reducible assumption | omega)])) (by first | rfl | with_reducible assumption) ?_
    refine o_aload_n hC dX4_findOrAdd_22 (by rfl) ?_
    refine o_callV2 hC rl_BW_good rl_Ns_nw (by exact hB.2.2.2.2.2) YX4_order IX4_order VX4_order (mX4_33 hC) (by rw [hB.1]; exact ct_X4_order l D ids H0 _ _ a (a + 2 + 5 * P k + 1) ka wd _ _ (S.1 (P k)) kc t1 e2 hk1 t7) (by exact t1) rfl rfl (Nat.le_of_ble_eq_true rfl) (by rw [hB.2.1]; first | exact Nat.le_of_ble_eq_true rfl | (dsimp only; omega)) (by rw [hB.2.1]; first | exact Nat.le_of_ble_eq_true rfl | (dsimp only; omega)) (by rw [hB.2.1]; first | exact Nat.le_of_ble_eq_true rfl | (dsimp only; omega)) (by rw [hB.2.1]; first | exact Nat.le_of_ble_eq_true rfl | (dsimp only; omega)) dX4_findOrAdd_23 (fun v h_23 n_23 p_23 => ?_)
    obtain ⟨rfl, rfl, rfl⟩ := p_23
    try dsimp only [Option.toList, List.cons_append, List.nil_append]
    refine o_if_ne (tgt := 38) hC dX4_findOrAdd_26 (by decide) (fun c_26 => ?_) (fun c_26 => ?_)
    · refine o_aload_n hC dX4_findOrAdd_38 (by rfl) ?_
      refine o_getf hC (fX4_18 hC rfl) dX4_findOrAdd_39 (by repeat (first | with_reducible assumption | (rw [rl_u_s]; done) | (rw [rl_u_s]; rfl) | rw [rl_u_n (by first | with_reducible assumption | omega)])) (by first | rfl | with_reducible assumption) ?_
      refine o_bipush (v := nI 80) hC dX4_findOrAdd_42 (by decide +kernel) ?_
      refine o_icmp_lt (tgt := 49) hC dX4_findOrAdd_44 (by decide) (fun c_44 => ?_) (fun c_44 => ?_)
      · have hs80 : sz < 80 := by
          rcases Nat.lt_or_ge sz 80 with q | q
          · exact q
          · exact absurd c_44 (nI_nlt q (by omega))
        refine o_aload_n hC dX4_findOrAdd_49 (by rfl) ?_
        refine o_getf hC (fX4_11 hC rfl) dX4_findOrAdd_50 (by repeat (first | with_reducible assumption | (rw [rl_u_s]; done) | (rw [rl_u_s]; rfl) | rw [rl_u_n (by first | with_reducible assumption | omega)])) (by first | rfl | with_reducible assumption) ?_
        refine o_aload_n hC dX4_findOrAdd_53 (by rfl) ?_
        refine o_getf hC (fX4_18 hC rfl) dX4_findOrAdd_54 (by repeat (first | with_reducible assumption | (rw [rl_u_s]; done) | (rw [rl_u_s]; rfl) | rw [rl_u_n (by first | with_reducible assumption | omega)])) (by first | rfl | with_reducible assumption) ?_
        refine o_aaldN (t0 := 3) hC rfl dX4_findOrAdd_57 (by repeat (first | with_reducible assumption | (rw [rl_u_s]; done) | (rw [rl_u_s]; rfl) | rw [rl_u_n (by first | with_reducible assumption | omega)])) (by omega) (by decide) ?_
        rw [t3 _ (by omega)]
        show rl_G X _ _ _ (.ref _ :: _) _ _ _ _
        refine o_astore_n hC dX4_findOrAdd_58 (Nat.le_of_ble_eq_true rfl) ?_
        refine o_aload_n hC dX4_findOrAdd_59 (by rfl) ?_
        refine o_getf hC (fX4_18 hC rfl) dX4_findOrAdd_60 (by repeat (first | with_reducible assumption | (rw [rl_u_s]; done) | (rw [rl_u_s]; rfl) | rw [rl_u_n (by first | with_reducible assumption | omega)])) (by first | rfl | with_reducible assumption) ?_
        refine o_istore hC dX4_findOrAdd_63 (Nat.le_of_ble_eq_true rfl) ?_
        exact loop (sz - (k + 1)) sz (k + 1) _ tf (by omega) (Nat.le_refl _) hs80 hz.symm (fun q => c_26 q.2) t2 (fun j hj => by rw [t3 j hj, if_neg (by omega)]) rl_fr.rf
      · refine o_null hC dX4_findOrAdd_47 ?_
        refine o_aret hC hB (by first | exact Or.inl ⟨_, rfl⟩ | exact Or.inr ⟨_, rfl⟩) (by first | exact Or.inl rfl | exact Or.inr ⟨_, rfl⟩) dX4_findOrAdd_48 (Nat.le_of_ble_eq_true rfl) (Nat.le_of_ble_eq_true rfl) ?_
        refine Or.inr (Or.inl ⟨rfl, ?_, ?_, rfl, rfl⟩)
        · rcases Nat.lt_or_ge sz 80 with q | q
          · exact absurd (nI_lt q (by decide)) c_44
          · exact q
        · rw [hz]
          exact fun q => c_26 q.2
    · refine o_aload_n hC dX4_findOrAdd_29 (by rfl) ?_
      refine o_getf hC (fX4_11 hC rfl) dX4_findOrAdd_30 (by repeat (first | with_reducible assumption | (rw [rl_u_s]; done) | (rw [rl_u_s]; rfl) | rw [rl_u_n (by first | with_reducible assumption | omega)])) (by first | rfl | with_reducible assumption) ?_
      refine o_iload_n hC dX4_findOrAdd_33 (by rfl) ?_
      refine o_iconst (v := nI 1) hC dX4_findOrAdd_34 (by decide +kernel) ?_
      refine o_isub hC dX4_findOrAdd_35 ?_
      rw [rl_pred k]
      refine o_aaldN (t0 := 3) hC rfl dX4_findOrAdd_36 (by repeat (first | with_reducible assumption | (rw [rl_u_s]; done) | (rw [rl_u_s]; rfl) | rw [rl_u_n (by first | with_reducible assumption | omega)])) (by omega) (by decide) ?_
      rw [t3 _ (by omega)]
      show rl_G X _ _ _ (.ref _ :: _) _ _ _ _
      refine o_aret hC hB (by first | exact Or.inl ⟨_, rfl⟩ | exact Or.inr ⟨_, rfl⟩) (by first | exact Or.inl rfl | exact Or.inr ⟨_, rfl⟩) dX4_findOrAdd_37 (Nat.le_of_ble_eq_true rfl) (Nat.le_of_ble_eq_true rfl) ?_
      refine Or.inl ⟨?_, ?_, rfl, rfl⟩
      · rw [hz]; exact ⟨Nat.succ_pos k, c_26⟩
      · rw [hz]; rfl

/-- how many of the TUPLES from t on hold -/
noncomputable def hm_go (S : tb_S) (P : Nat → Nat) (x : Int64) : Nat → Nat → Int32 → Int32
  | 0, _, c => c
  | m + 1, t, c => if tm_first (S.2.1 (P t)) (S.2.2.1 (P t)) x (S.2.2.2 (P t)) 0 = -1 then hm_go S P x m (t + 1) c else hm_go S P x m (t + 1) (c + Int32.ofInt 1)

set_option maxHeartbeats 4000000 in
set_option maxRecDepth 100000 in
theorem ct_X4_howManyHold (l : Launch) (D : va_G) (ids : Nat → ClassId) (H0 : Heap) (h : rl_H) (n : Nat) (a sz wd : Nat) (P : Nat → Nat) (S : tb_S) (x : Int64) (ht : tb_at ids h a sz wd P S) : rl_Met l (rl_e D ids H0) rl_BW rl_Ns yX4_howManyHold cX4_howManyHold 5 (some .int) ({ frames := 2, cells := 0, slots := 0, locals := 45 }) [.ref a, .long x] h n (fun v h' n' => v = some (.int (hm_go S P x sz 0 0)) ∧ h' = h ∧ n' = n) := by
  obtain ⟨t1, ⟨tf, t2, t3⟩, t4, t5, t6, t7⟩ := id ht
  refine rl_Met.of (by decide +kernel) (Nat.le_of_ble_eq_true rfl) ?_
  intro X hC hB
  have loop : ∀ (m t : Nat) (c : Int32), t + m = sz → hm_go S P x sz 0 0 = hm_go S P x m t c → rl_G X (rl_e D ids H0) 5 [some (.ref a), some (.long x), none, some (.int c), some (.int (nI t))] [] h n 0 0 := by
    intro m
    induction m with
    | zero =>
      intro t c ht hs
      refine o_iload hC dX4_howManyHold_5 (by rfl) ?_
      refine o_aload_n hC dX4_howManyHold_7 (by rfl) ?_
      refine o_getf hC (fX4_18 hC rfl) dX4_howManyHold_8 (by repeat (first | with_reducible assumption | (rw [rl_u_s]; done) | (rw [rl_u_s]; rfl) | rw [rl_u_n (by first | with_reducible assumption | omega)])) (by first | rfl | with_reducible assumption) ?_
      refine o_icmp_ge (tgt := 40) hC dX4_howManyHold_11 (by decide) (fun c_11 => ?_) (fun c_11 => ?_)
      · refine o_iload_n hC dX4_howManyHold_40 (by rfl) ?_
        refine o_iret hC hB dX4_howManyHold_41 (Nat.le_of_ble_eq_true rfl) (Nat.le_of_ble_eq_true rfl) ?_
        exact ⟨by rw [hs]; rfl, rfl, rfl⟩
      · exact absurd (nI_le (by omega) (by omega)) c_11
    | succ m ih =>
      intro t c ht hs
      obtain ⟨e1, e2, e3⟩ := t5 (P t) (t4 t (by omega))
      refine o_iload hC dX4_howManyHold_5 (by rfl) ?_
      refine o_aload_n hC dX4_howManyHold_7 (by rfl) ?_
      refine o_getf hC (fX4_18 hC rfl) dX4_howManyHold_8 (by repeat (first | with_reducible assumption | (rw [rl_u_s]; done) | (rw [rl_u_s]; rfl) | rw [rl_u_n (by first | with_reducible assumption | omega)])) (by first | rfl | with_reducible assumption) ?_
      refine o_icmp_ge (tgt := 40) hC dX4_howManyHold_11 (by decide) (fun c_11 => ?_) (fun c_11 => ?_)
      · exact absurd c_11 (nI_ge (by omega) (by omega))
      · refine o_aload_n hC dX4_howManyHold_14 (by rfl) ?_
        refine o_getf hC (fX4_11 hC rfl) dX4_howManyHold_15 (by repeat (first | with_reducible assumption | (rw [rl_u_s]; done) | (rw [rl_u_s]; rfl) | rw [rl_u_n (by first | with_reducible assumption | omega)])) (by first | rfl | with_reducible assumption) ?_
        refine o_iload hC dX4_howManyHold_18 (by rfl) ?_
        refine o_aaldN (t0 := 3) hC rfl dX4_howManyHold_20 (by repeat (first | with_reducible assumption | (rw [rl_u_s]; done) | (rw [rl_u_s]; rfl) | rw [rl_u_n (by first | with_reducible assumption | omega)])) (by omega) (by decide) ?_
        rw [t3 _ (by omega)]
        show rl_G X _ _ _ (.ref _ :: _) _ _ _ _
        refine o_getf hC (fX4_41 hC rfl) dX4_howManyHold_21 (by repeat (first | with_reducible assumption | (rw [rl_u_s]; done) | (rw [rl_u_s]; rfl) | rw [rl_u_n (by first | with_reducible assumption | omega)])) (by first | rfl | with_reducible assumption) ?_
        refine o_lload_n hC dX4_howManyHold_24 (by rfl) ?_
        refine o_callV1 hC rl_BW_good rl_Ns_nw (by exact hB.2.2.2.2.2) YX6_holdsWith IX6_holdsWith VX6_holdsWith (mX4_45 hC) (by rw [hB.1]; exact ct_X6_holdsWith l D ids H0 _ _ (a + 2 + 5 * P t + 2) _ _ _ x e3) (by exact e3.1) rfl rfl (Nat.le_of_ble_eq_true rfl) (by rw [hB.2.1]; first | exact Nat.le_of_ble_eq_true rfl | (dsimp only; omega)) (by rw [hB.2.1]; first | exact Nat.le_of_ble_eq_true rfl | (dsimp only; omega)) (by rw [hB.2.1]; first | exact Nat.le_of_ble_eq_true rfl | (dsimp only; omega)) (by rw [hB.2.1]; first | exact Nat.le_of_ble_eq_true rfl | (dsimp only; omega)) dX4_howManyHold_25 (fun v h_25 n_25 p_25 => ?_)
        obtain ⟨rfl, rfl, rfl⟩ := p_25
        try dsimp only [Option.toList, List.cons_append, List.nil_append]
        refine o_if_eq (tgt := 34) hC dX4_howManyHold_28 (by decide) (fun c_28 => ?_) (fun c_28 => ?_)
        · refine o_iinc hC dX4_howManyHold_34 (by rfl) (rl_inc _) (Nat.le_of_ble_eq_true rfl) ?_
          refine o_goto (tgt := 5) hC dX4_howManyHold_37 (by decide) ?_
          refine ih (t + 1) _ (by omega) (hs.trans ?_)
          by_cases q : tm_first (S.2.1 (P t)) (S.2.2.1 (P t)) x (S.2.2.2 (P t)) 0 = -1
          · first
            | (rw [hm_go, if_pos q]; done)
            | (rw [if_pos q] at c_28; exact absurd rfl c_28)
          · first
            | (rw [hm_go, if_neg q]; done)
            | (rw [if_neg q] at c_28; exact absurd c_28 (by decide +kernel))
        · refine o_iinc hC dX4_howManyHold_31 (by rfl) rfl (Nat.le_of_ble_eq_true rfl) ?_
          refine o_iinc hC dX4_howManyHold_34 (by rfl) (rl_inc _) (Nat.le_of_ble_eq_true rfl) ?_
          refine o_goto (tgt := 5) hC dX4_howManyHold_37 (by decide) ?_
          refine ih (t + 1) _ (by omega) (hs.trans ?_)
          by_cases q : tm_first (S.2.1 (P t)) (S.2.2.1 (P t)) x (S.2.2.2 (P t)) 0 = -1
          · first
            | (rw [hm_go, if_pos q]; done)
            | (rw [if_pos q] at c_28; exact absurd rfl c_28)
          · first
            | (rw [hm_go, if_neg q]; done)
            | (rw [if_neg q] at c_28; exact absurd c_28 (by decide +kernel))
  show rl_G X (rl_e D ids H0) 0 [some (.ref a), some (.long x), none, none, none] [] h n 0 0
  refine o_iconst (v := nI 0) hC dX4_howManyHold_0 (by decide +kernel) ?_
  refine o_istore_n hC dX4_howManyHold_1 (Nat.le_of_ble_eq_true rfl) ?_
  refine o_iconst (v := nI 0) hC dX4_howManyHold_2 (by decide +kernel) ?_
  refine o_istore hC dX4_howManyHold_3 (Nat.le_of_ble_eq_true rfl) ?_
  exact loop sz 0 _ (by omega) rfl
end
section
/-! RowLineage$Operators by shapes: each call comes back, and what it may change keeps its shape -/
def ws_ok (ids : Nat → ClassId) (h : rl_H) (w : Nat) : Prop := ∃ (f g : Nat → Int64) (k : Nat), ws_at ids h w f g k
def dr_ok (ids : Nat → ClassId) (h : rl_H) (d : Nat) : Prop := ∃ s : dr_S, dr_at ids h d s
def tb_ok (ids : Nat → ClassId) (h : rl_H) (a wd : Nat) : Prop := ∃ (sz : Nat) (P : Nat → Nat) (S : tb_S), tb_at ids h a sz wd P S
/-- nothing has changed but in two stretches -/
def rl_g2 (h h' : rl_H) (a b c d : Nat) : Prop := ∀ q : Nat, (q < a ∨ b ≤ q) → (q < c ∨ d ≤ q) → h' q = h q
theorem rl_g2.rf {h : rl_H} {a b c d : Nat} : rl_g2 h h a b c d := fun _ _ _ => rfl
theorem rl_g2.tr {h h1 h2 : rl_H} {a b c d : Nat} (x : rl_g2 h h1 a b c d) (y : rl_g2 h1 h2 a b c d) : rl_g2 h h2 a b c d := fun q p r => (y q p r).trans (x q p r)
theorem rl_g2.wd {h h1 : rl_H} {a b c d a' b' c' d' : Nat} (x : rl_g2 h h1 a b c d) (z1 : a' ≤ a) (z2 : b ≤ b') (z3 : c' ≤ c) (z4 : d ≤ d') : rl_g2 h h1 a' b' c' d' := fun q p r => x q (by omega) (by omega)
theorem rl_fr.g1 {h h1 : rl_H} {a b c d : Nat} (x : rl_fr h h1 a b) : rl_g2 h h1 a b c d := fun q p _ => x q p
theorem rl_fr.g2 {h h1 : rl_H} {a b c d : Nat} (x : rl_fr h h1 c d) : rl_g2 h h1 a b c d := fun q _ r => x q r
theorem ws_ok.eqv {ids : Nat → ClassId} {h h' : rl_H} {w : Nat} (H : ws_ok ids h w) (he : ∀ q, w ≤ q → q < w + 3 → h' q = h q) : ws_ok ids h' w := by
  obtain ⟨f, g, k, H⟩ := H
  exact ⟨f, g, k, H.eqv he⟩
theorem dr_ok.eqv {ids : Nat → ClassId} {h h' : rl_H} {w : Nat} (H : dr_ok ids h w) (he : ∀ q, w ≤ q → q < w + 3 → h' q = h q) : dr_ok ids h' w := by
  obtain ⟨s, H⟩ := H
  exact ⟨s, H.eqv he⟩
theorem tb_at.eqv {ids : Nat → ClassId} {h h' : rl_H} {a sz wd : Nat} {P : Nat → Nat} {S : tb_S} (H : tb_at ids h a sz wd P S) (he : ∀ q, a ≤ q → q < a + 402 → h' q = h q) : tb_at ids h' a sz wd P S := by
  obtain ⟨h1, ⟨f, h2, h3⟩, h4, h5, h6⟩ := H
  exact ⟨by rw [he a (by omega) (by omega)]; exact h1, ⟨f, by rw [he (a + 1) (by omega) (by omega)]; exact h2, h3⟩, h4, fun i hi => (h5 i hi).eqv (fun q q1 q2 => he q (by omega) (by omega)), h6⟩
theorem tb_ok.eqv {ids : Nat → ClassId} {h h' : rl_H} {a wd : Nat} (H : tb_ok ids h a wd) (he : ∀ q, a ≤ q → q < a + 402 → h' q = h q) : tb_ok ids h' a wd := by
  obtain ⟨sz, P, S, H⟩ := H
  exact ⟨sz, P, S, H.eqv he⟩
/-- a Tuple's Ways is another -/
theorem tb_at.way {ids : Nat → ClassId} {h h' : rl_H} {a sz wd i : Nat} {P : Nat → Nat} {S : tb_S} (H : tb_at ids h a sz wd P S) (hi : i < 80) (hw : ws_ok ids h' (a + 2 + 5 * i + 2)) (he : ∀ q, a ≤ q → q < a + 402 → (q < a + 2 + 5 * i + 2 ∨ a + 2 + 5 * i + 5 ≤ q) → h' q = h q) : ∃ S' : tb_S, tb_at ids h' a sz wd P S' := by
  obtain ⟨h1, ⟨f, h2, h3⟩, h4, h5, h6⟩ := H
  obtain ⟨wf, wg, wk, hw⟩ := hw
  refine ⟨(S.1, va_up S.2.1 i wf, va_up S.2.2.1 i wg, va_up S.2.2.2 i wk), by rw [he a (by omega) (by omega) (by omega)]; exact h1, ⟨f, by rw [he (a + 1) (by omega) (by omega) (by omega)]; exact h2, h3⟩, h4, fun j hj => ?_, h6⟩
  show tp_at ids h' _ (S.1 j) (va_up S.2.1 i wf j) (va_up S.2.2.1 i wg j) (va_up S.2.2.2 i wk j)
  by_cases q : j = i
  · subst q
    unfold va_up
    rw [if_pos rfl, if_pos rfl, if_pos rfl]
    obtain ⟨e1, e2, e3⟩ := h5 j hj
    exact ⟨by rw [he _ (by omega) (by omega) (by omega)]; exact e1, by rw [he _ (by omega) (by omega) (by omega)]; exact e2, hw⟩
  · unfold va_up
    rw [if_neg q, if_neg q, if_neg q]
    exact (h5 j hj).eqv (fun q q1 q2 => he q (by omega) (by omega) (by omega))
theorem dr_out.ws {ids : Nat → ClassId} {h h' : rl_H} {d w k : Nat} {s : dr_S} {f g f0 g0 : Nat → Int64} {x : Int32} (H : dr_out ids h h' d w s f g x) (hw : ws_at ids h w f0 g0 k) (hd : d + 3 ≤ w ∨ w + 3 ≤ d) : ws_ok ids h' w := by
  obtain ⟨a, b | b⟩ := H
  · exact ⟨_, _, _, hw.kept b.2.2 (by omega)⟩
  · exact ⟨_, _, _, b.2.2.1⟩
theorem dr_out.x {ids : Nat → ClassId} {h h' : rl_H} {d w : Nat} {s : dr_S} {f g : Nat → Int64} {x : Int32} (H : dr_out ids h h' d w s f g x) : x = nI 0 ∨ x = nI 1 := by
  obtain ⟨a, b | b⟩ := H
  · exact Or.inl b.2.1
  · exact Or.inr b.2.1
def op_sh (ids : Nat → ClassId) (h : rl_H) (o so : Nat) (gp : Nat → Option Nat) : Prop :=
  h o = some (.inr (2, [.ref (o + 1), .ref (o + 4), .ref (o + 7), .ref (o + 8), .ref (o + 9)])) ∧ dr_ok ids h (o + 1) ∧ ws_ok ids h (o + 4) ∧ (∃ tp : Nat → Option Nat, h (o + 7) = some (.inl (ids 4, 4, .inr (.inr (.inr (.inr tp))))) ∧ ∀ m, m < 4 → tp m = some (o + 10 + 3 * m)) ∧ h (o + 8) = some (.inl (ids 3, 4, .inr (.inr (.inr (.inr gp))))) ∧ (∃ kc : Nat → Int32, h (o + 9) = some (.inl (ids 0, 6, .inl kc))) ∧ ∀ m, m < 4 → ws_ok ids h (o + 10 + 3 * m)
theorem op_sh.eqv {ids : Nat → ClassId} {h h' : rl_H} {o so : Nat} {gp : Nat → Option Nat} (H : op_sh ids h o so gp) (he : ∀ q, o ≤ q → q < o + 22 → h' q = h q) : op_sh ids h' o so gp := by
  obtain ⟨h1, h2, h3, ⟨tp, h4, h5⟩, h6, ⟨kc, h7⟩, h8⟩ := H
  exact ⟨by rw [he o (by omega) (by omega)]; exact h1, h2.eqv (fun q a b => he q (by omega) (by omega)), h3.eqv (fun q a b => he q (by omega) (by omega)), ⟨tp, by rw [he (o + 7) (by omega) (by omega)]; exact h4, h5⟩, by rw [he (o + 8) (by omega) (by omega)]; exact h6, ⟨kc, by rw [he (o + 9) (by omega) (by omega)]; exact h7⟩, fun m hm => (h8 m hm).eqv (fun q a b => he q (by omega) (by omega))⟩
/-- the draft is another -/
theorem op_sh.dr {ids : Nat → ClassId} {h h' : rl_H} {o so : Nat} {gp : Nat → Option Nat} (H : op_sh ids h o so gp) (hd : dr_ok ids h' (o + 1)) (he : ∀ q, o ≤ q → q < o + 22 → (q < o + 1 ∨ o + 4 ≤ q) → h' q = h q) : op_sh ids h' o so gp := by
  obtain ⟨h1, h2, h3, ⟨tp, h4, h5⟩, h6, ⟨kc, h7⟩, h8⟩ := H
  exact ⟨by rw [he o (by omega) (by omega) (by omega)]; exact h1, hd, h3.eqv (fun q a b => he q (by omega) (by omega) (by omega)), ⟨tp, by rw [he (o + 7) (by omega) (by omega) (by omega)]; exact h4, h5⟩, by rw [he (o + 8) (by omega) (by omega) (by omega)]; exact h6, ⟨kc, by rw [he (o + 9) (by omega) (by omega) (by omega)]; exact h7⟩, fun m hm => (h8 m hm).eqv (fun q a b => he q (by omega) (by omega) (by omega))⟩
/-- the draft and what is made are others -/
theorem op_sh.mk {ids : Nat → ClassId} {h h' : rl_H} {o so : Nat} {gp : Nat → Option Nat} (H : op_sh ids h o so gp) (hd : dr_ok ids h' (o + 1)) (hm : ws_ok ids h' (o + 4)) (he : ∀ q, o ≤ q → q < o + 22 → (q < o + 1 ∨ o + 7 ≤ q) → h' q = h q) : op_sh ids h' o so gp := by
  obtain ⟨h1, h2, h3, ⟨tp, h4, h5⟩, h6, ⟨kc, h7⟩, h8⟩ := H
  exact ⟨by rw [he o (by omega) (by omega) (by omega)]; exact h1, hd, hm, ⟨tp, by rw [he (o + 7) (by omega) (by omega) (by omega)]; exact h4, h5⟩, by rw [he (o + 8) (by omega) (by omega) (by omega)]; exact h6, ⟨kc, by rw [he (o + 9) (by omega) (by omega) (by omega)]; exact h7⟩, fun m hm => (h8 m hm).eqv (fun q a b => he q (by omega) (by omega) (by omega))⟩
theorem fo_sum {ids : Nat → ClassId} {h h' : rl_H} {n n' a sz wd z : Nat} {P Q : Nat → Nat} {S T : tb_S} {v : Option Value} {A B : Prop} (ht : tb_at ids h a sz wd P S) (hz : z - 1 < 80) (H : A ∧ v = some (.ref (a + 2 + 5 * P (z - 1))) ∧ h' = h ∧ n' = n ∨ v = some .null ∧ 80 ≤ sz ∧ B ∧ h' = h ∧ n' = n ∨ B ∧ sz < 80 ∧ v = some (.ref (a + 2 + 5 * P sz)) ∧ n' = n ∧ tb_at ids h' a (sz + 1) wd Q T ∧ rl_fr h h' a (a + 402)) :
    (v = some .null ∧ h' = h ∧ n' = n) ∨ ∃ i : Nat, i < 80 ∧ v = some (.ref (a + 2 + 5 * i)) ∧ n' = n ∧ (∃ (sz : Nat) (P : Nat → Nat) (S : tb_S), tb_at ids h' a sz wd P S) ∧ rl_fr h h' a (a + 402) := by
  rcases H with ⟨-, e1, rfl, rfl⟩ | ⟨e1, -, -, rfl, rfl⟩ | ⟨-, h80, e1, rfl, p1, p2⟩
  · exact Or.inr ⟨_, ht.2.2.1 _ hz, e1, rfl, ⟨_, _, _, ht⟩, rl_fr.rf⟩
  · exact Or.inl ⟨e1, rfl, rfl⟩
  · exact Or.inr ⟨_, ht.2.2.1 _ h80, e1, rfl, ⟨_, _, _, p1⟩, p2⟩

set_option maxHeartbeats 4000000 in
set_option maxRecDepth 100000 in
theorem ct_X2_put (l : Launch) (D : va_G) (ids : Nat → ClassId) (H0 : Heap) (h : rl_H) (n : Nat) (o so a w na sz wd k : Nat) (gp : Nat → Option Nat) (P : Nat → Nat) (S : tb_S) (f g : Nat → Int64) (nc : Nat → Int32) (ho : op_sh ids h o so gp) (ht : tb_at ids h a sz wd P S) (hn : h na = some (.inl (ids 0, 6, .inl nc))) (hw : ws_at ids h w f g k) (hna : na < a ∨ a + 402 ≤ na) (hwa : w + 3 ≤ a ∨ a + 402 ≤ w) (hwd : o + 4 ≤ w ∨ w + 3 ≤ o + 1) (hoa : o + 22 ≤ a ∨ a + 402 ≤ o) : rl_Met l (rl_e D ids H0) rl_BW rl_Ns yX2_put cX2_put 5 (some .boolean) ({ frames := 3, cells := 0, slots := 0, locals := 125 }) [.ref o, .ref a, .ref na, .ref w] h n (fun v h' n' => ∃ x : Int32, v = some (.int x) ∧ n' = n ∧ (x = nI 0 ∨ x = nI 1) ∧ op_sh ids h' o so gp ∧ tb_ok ids h' a wd ∧ rl_g2 h h' (o + 1) (o + 4) a (a + 402)) := by
  obtain ⟨o0, ⟨ds, hd⟩, o4, o7, o8, o9, ot⟩ := id ho
  obtain ⟨w1, w2, w3, w4⟩ := id hw
  refine rl_Met.of (by decide +kernel) (Nat.le_of_ble_eq_true rfl) ?_
  intro X hC hB
  show rl_G X (rl_e D ids H0) 0 [some (.ref o), some (.ref a), some (.ref na), some (.ref w), none] [] h n 0 0
  refine o_aload_n hC dX2_put_0 (by rfl) ?_
  refine o_getf hC (fX2_191 hC rfl) dX2_put_1 (by repeat (first | with_reducible assumption | (rw [rl_u_s]; done) | (rw [rl_u_s]; rfl) | rw [rl_u_n (by first | with_reducible assumption | omega)])) (by first | rfl | with_reducible assumption) ?_
  refine o_if_ne (tgt := 9) hC dX2_put_4 (by decide) (fun c_4 => ?_) (fun c_4 => ?_)
  · refine o_aload_n hC dX2_put_9 (by rfl) ?_
    refine o_aload_n hC dX2_put_10 (by rfl) ?_
    refine o_callV1 hC rl_BW_good rl_Ns_nw (by exact hB.2.2.2.2.2) YX4_findOrAdd IX4_findOrAdd VX4_findOrAdd (mX2_192 hC) (by rw [hB.1]; exact ct_X4_findOrAdd l D ids H0 h n a sz wd na P S nc ht hn hna) (by exact ht.1) rfl rfl (Nat.le_of_ble_eq_true rfl) (by rw [hB.2.1]; first | exact Nat.le_of_ble_eq_true rfl | (dsimp only; omega)) (by rw [hB.2.1]; first | exact Nat.le_of_ble_eq_true rfl | (dsimp only; omega)) (by rw [hB.2.1]; first | exact Nat.le_of_ble_eq_true rfl | (dsimp only; omega)) (by rw [hB.2.1]; first | exact Nat.le_of_ble_eq_true rfl | (dsimp only; omega)) dX2_put_11 (fun v h_11 n_11 p_11 => ?_)
    try dsimp only [Option.toList, List.cons_append, List.nil_append]
    rcases fo_sum ht (by have := tb_fb_le (tb_o S P nc wd) sz; have := ht.2.2.2.2.1; omega) p_11 with ⟨rfl, rfl, rfl⟩ | ⟨i, hi, rfl, rfl, ⟨sz1, P1, S1, p1⟩, p2⟩
    · try dsimp only [Option.toList, List.cons_append, List.nil_append]
      refine o_astoreN hC dX2_put_14 (Nat.le_of_ble_eq_true rfl) ?_
      refine o_aloadN hC dX2_put_16 (by rfl) ?_
      refine o_ifnullN (tgt := 46) hC dX2_put_18 (by decide) ?_
      refine o_iconst (v := nI 0) hC dX2_put_46 (by decide +kernel) ?_
      refine o_zret hC hB dX2_put_47 (by first | rfl | decide +kernel) (Nat.le_of_ble_eq_true rfl) (Nat.le_of_ble_eq_true rfl) ?_
      refine ⟨_, rfl, rfl, Or.inl rfl, ho, ⟨_, _, _, ht⟩, rl_g2.rf⟩
    · try dsimp only [Option.toList, List.cons_append, List.nil_append]
      obtain ⟨e1, e2, e3⟩ := p1.2.2.2.1 i hi
      have u1 : h_11 o = some (.inr (2, [.ref (o + 1), .ref (o + 4), .ref (o + 7), .ref (o + 8), .ref (o + 9)])) := by rw [p2 o (by omega)]; exact o0
      have u2 : dr_at ids h_11 (o + 1) ds := hd.kept p2 (by omega)
      have u3 := hw.kept p2 (by omega)
      refine o_astore hC dX2_put_14 (Nat.le_of_ble_eq_true rfl) ?_
      refine o_aload hC dX2_put_16 (by rfl) ?_
      refine o_ifnull hC dX2_put_18 ?_
      refine o_aload_n hC dX2_put_21 (by rfl) ?_
      refine o_getf hC (fX2_12 hC rfl) dX2_put_22 (by repeat (first | with_reducible assumption | (rw [rl_u_s]; done) | (rw [rl_u_s]; rfl) | rw [rl_u_n (by first | with_reducible assumption | omega)])) (by first | rfl | with_reducible assumption) ?_
      refine o_aload hC dX2_put_25 (by rfl) ?_
      refine o_getf hC (fX2_116 hC rfl) dX2_put_27 (by repeat (first | with_reducible assumption | (rw [rl_u_s]; done) | (rw [rl_u_s]; rfl) | rw [rl_u_n (by first | with_reducible assumption | omega)])) (by first | rfl | with_reducible assumption) ?_
      refine o_aload_n hC dX2_put_30 (by rfl) ?_
      refine o_aload hC dX2_put_31 (by rfl) ?_
      refine o_getf hC (fX2_116 hC rfl) dX2_put_33 (by repeat (first | with_reducible assumption | (rw [rl_u_s]; done) | (rw [rl_u_s]; rfl) | rw [rl_u_n (by first | with_reducible assumption | omega)])) (by first | rfl | with_reducible assumption) ?_
      refine o_callV3 hC rl_BW_good rl_Ns_nw (by exact hB.2.2.2.2.2) YX0_either IX0_either VX0_either (mX2_195 hC) (by rw [hB.1]; exact ct_X0_either l D ids H0 _ _ (o + 1) (a + 2 + 5 * i + 2) w (a + 2 + 5 * i + 2) _ _ _ ds _ _ _ _ _ _ u2 e3 u3 e3 (by omega) (by omega) (by omega)) (by exact u2.1) rfl rfl (Nat.le_of_ble_eq_true rfl) (by rw [hB.2.1]; first | exact Nat.le_of_ble_eq_true rfl | (dsimp only; omega)) (by rw [hB.2.1]; first | exact Nat.le_of_ble_eq_true rfl | (dsimp only; omega)) (by rw [hB.2.1]; first | exact Nat.le_of_ble_eq_true rfl | (dsimp only; omega)) (by rw [hB.2.1]; first | exact Nat.le_of_ble_eq_true rfl | (dsimp only; omega)) dX2_put_36 (fun v h_36 n_36 p_36 => ?_)
      obtain ⟨x, rfl, rfl, q1⟩ := p_36
      try dsimp only [Option.toList, List.cons_append, List.nil_append]
      refine o_if_eq (tgt := 46) hC dX2_put_39 (by decide) (fun c_39 => ?_) (fun c_39 => ?_)
      · refine o_iconst (v := nI 0) hC dX2_put_46 (by decide +kernel) ?_
        refine o_zret hC hB dX2_put_47 (by first | rfl | decide +kernel) (Nat.le_of_ble_eq_true rfl) (Nat.le_of_ble_eq_true rfl) ?_
        have e5 : ws_ok ids h_36 (a + 2 + 5 * i + 2) := q1.ws e3 (by omega)
        have e6 := q1.f2
        refine ⟨_, rfl, rfl, Or.inl rfl, ho.dr ⟨_, q1.1⟩ (fun q a1 a2 a3 => by rw [e6 q (by omega) (by omega)]; exact p2 q (by omega)), ?_, fun q a1 a2 => by rw [e6 q (by omega) (by omega)]; exact p2 q (by omega)⟩
        obtain ⟨S2, e7⟩ := p1.way hi e5 (fun q a1 a2 a3 => e6 q (by omega) (by omega))
        exact ⟨_, _, _, e7⟩
      · refine o_iconst (v := nI 1) hC dX2_put_42 (by decide +kernel) ?_
        refine o_goto (tgt := 47) hC dX2_put_43 (by decide) ?_
        refine o_zret hC hB dX2_put_47 (by first | rfl | decide +kernel) (Nat.le_of_ble_eq_true rfl) (Nat.le_of_ble_eq_true rfl) ?_
        have e5 : ws_ok ids h_36 (a + 2 + 5 * i + 2) := q1.ws e3 (by omega)
        have e6 := q1.f2
        refine ⟨_, rfl, rfl, Or.inr rfl, ho.dr ⟨_, q1.1⟩ (fun q a1 a2 a3 => by rw [e6 q (by omega) (by omega)]; exact p2 q (by omega)), ?_, fun q a1 a2 => by rw [e6 q (by omega) (by omega)]; exact p2 q (by omega)⟩
        obtain ⟨S2, e7⟩ := p1.way hi e5 (fun q a1 a2 a3 => e6 q (by omega) (by omega))
        exact ⟨_, _, _, e7⟩
  · refine o_iconst (v := nI 1) hC dX2_put_7 (by decide +kernel) ?_
    refine o_zret hC hB dX2_put_8 (by first | rfl | decide +kernel) (Nat.le_of_ble_eq_true rfl) (Nat.le_of_ble_eq_true rfl) ?_
    refine ⟨_, rfl, rfl, Or.inr rfl, ho, ⟨_, _, _, ht⟩, rl_g2.rf⟩
end
section
/-! Operators by shapes: what fills tables -/

set_option maxHeartbeats 4000000 in
set_option maxRecDepth 100000 in
theorem ct_X2_putAll (l : Launch) (D : va_G) (ids : Nat → ClassId) (H0 : Heap) (h : rl_H) (n : Nat) (o so a a1 sz1 wd wd1 : Nat) (gp : Nat → Option Nat) (P1 : Nat → Nat) (S1 : tb_S) (ho : op_sh ids h o so gp) (ht : tb_ok ids h a wd) (hi : tb_at ids h a1 sz1 wd1 P1 S1) (hoa : o + 22 ≤ a ∨ a + 402 ≤ o) (hoi : o + 22 ≤ a1 ∨ a1 + 402 ≤ o) (hia : a1 + 402 ≤ a ∨ a + 402 ≤ a1) : rl_Met l (rl_e D ids H0) rl_BW rl_Ns yX2_putAll cX2_putAll 4 (some .boolean) ({ frames := 4, cells := 0, slots := 0, locals := 149 }) [.ref o, .ref a1, .ref a] h n (fun v h' n' => ∃ x : Int32, v = some (.int x) ∧ n' = n ∧ (x = nI 0 ∨ x = nI 1) ∧ (∃ gp' : Nat → Option Nat, op_sh ids h' o so gp') ∧ tb_ok ids h' a wd ∧ rl_g2 h h' o (o + 22) a (a + 402)) := by
  refine rl_Met.of (by decide +kernel) (Nat.le_of_ble_eq_true rfl) ?_
  intro X hC hB
  have loop : ∀ (m t : Nat) (h1 : rl_H) (gp1 : Nat → Option Nat), t + m = sz1 → op_sh ids h1 o so gp1 → tb_ok ids h1 a wd → rl_g2 h h1 o (o + 22) a (a + 402) → rl_G X (rl_e D ids H0) 2 [some (.ref o), some (.ref a1), some (.ref a), some (.int (nI t))] [] h1 n 0 0 := by
    intro m
    induction m with
    | zero =>
      intro t h1 gp1 hm ho1 ht1 hf
      obtain ⟨t1, ⟨tf, t2, t3⟩, t4, t5, t6, t7⟩ := hi.eqv (h' := h1) (fun q q1 q2 => hf q (by omega) (by omega))
      refine o_iload_n hC dX2_putAll_2 (by rfl) ?_
      refine o_aload_n hC dX2_putAll_3 (by rfl) ?_
      refine o_getf hC (fX2_103 hC rfl) dX2_putAll_4 (by repeat (first | with_reducible assumption | (rw [rl_u_s]; done) | (rw [rl_u_s]; rfl) | rw [rl_u_n (by first | with_reducible assumption | omega)])) (by first | rfl | with_reducible assumption) ?_
      refine o_icmp_ge (tgt := 44) hC dX2_putAll_7 (by decide) (fun c_7 => ?_) (fun c_7 => ?_)
      · refine o_iconst (v := nI 1) hC dX2_putAll_44 (by decide +kernel) ?_
        refine o_zret hC hB dX2_putAll_45 (by first | rfl | decide +kernel) (Nat.le_of_ble_eq_true rfl) (Nat.le_of_ble_eq_true rfl) ?_
        exact ⟨_, rfl, rfl, Or.inr rfl, ⟨_, ho1⟩, ht1, hf⟩
      · exact absurd (nI_le (by omega) (by omega)) c_7
    | succ m ih =>
      intro t h1 gp1 hm ho1 ht1 hf
      obtain ⟨t1, ⟨tf, t2, t3⟩, t4, t5, t6, t7⟩ := hi.eqv (h' := h1) (fun q q1 q2 => hf q (by omega) (by omega))
      obtain ⟨sz0, P0, S0, ht0⟩ := id ht1
      have hb := t4 t (by omega)
      obtain ⟨e1, e2, e3⟩ := t5 (P1 t) hb
      refine o_iload_n hC dX2_putAll_2 (by rfl) ?_
      refine o_aload_n hC dX2_putAll_3 (by rfl) ?_
      refine o_getf hC (fX2_103 hC rfl) dX2_putAll_4 (by repeat (first | with_reducible assumption | (rw [rl_u_s]; done) | (rw [rl_u_s]; rfl) | rw [rl_u_n (by first | with_reducible assumption | omega)])) (by first | rfl | with_reducible assumption) ?_
      refine o_icmp_ge (tgt := 44) hC dX2_putAll_7 (by decide) (fun c_7 => ?_) (fun c_7 => ?_)
      · exact absurd c_7 (nI_ge (by omega) (by omega))
      · refine o_aload_n hC dX2_putAll_10 (by rfl) ?_
        refine o_aload_n hC dX2_putAll_11 (by rfl) ?_
        refine o_aload_n hC dX2_putAll_12 (by rfl) ?_
        refine o_getf hC (fX2_106 hC rfl) dX2_putAll_13 (by repeat (first | with_reducible assumption | (rw [rl_u_s]; done) | (rw [rl_u_s]; rfl) | rw [rl_u_n (by first | with_reducible assumption | omega)])) (by first | rfl | with_reducible assumption) ?_
        refine o_iload_n hC dX2_putAll_16 (by rfl) ?_
        refine o_aaldN (t0 := 3) hC rfl dX2_putAll_17 (by repeat (first | with_reducible assumption | (rw [rl_u_s]; done) | (rw [rl_u_s]; rfl) | rw [rl_u_n (by first | with_reducible assumption | omega)])) (by omega) (by decide) ?_
        rw [t3 _ (by omega)]
        show rl_G X _ _ _ (.ref _ :: _) _ _ _ _
        refine o_getf hC (fX2_109 hC rfl) dX2_putAll_18 (by repeat (first | with_reducible assumption | (rw [rl_u_s]; done) | (rw [rl_u_s]; rfl) | rw [rl_u_n (by first | with_reducible assumption | omega)])) (by first | rfl | with_reducible assumption) ?_
        refine o_aload_n hC dX2_putAll_21 (by rfl) ?_
        refine o_getf hC (fX2_106 hC rfl) dX2_putAll_22 (by repeat (first | with_reducible assumption | (rw [rl_u_s]; done) | (rw [rl_u_s]; rfl) | rw [rl_u_n (by first | with_reducible assumption | omega)])) (by first | rfl | with_reducible assumption) ?_
        refine o_iload_n hC dX2_putAll_25 (by rfl) ?_
        refine o_aaldN (t0 := 3) hC rfl dX2_putAll_26 (by repeat (first | with_reducible assumption | (rw [rl_u_s]; done) | (rw [rl_u_s]; rfl) | rw [rl_u_n (by first | with_reducible assumption | omega)])) (by omega) (by decide) ?_
        rw [t3 _ (by omega)]
        show rl_G X _ _ _ (.ref _ :: _) _ _ _ _
        refine o_getf hC (fX2_116 hC rfl) dX2_putAll_27 (by repeat (first | with_reducible assumption | (rw [rl_u_s]; done) | (rw [rl_u_s]; rfl) | rw [rl_u_n (by first | with_reducible assumption | omega)])) (by first | rfl | with_reducible assumption) ?_
        refine o_callV3 hC rl_BW_good rl_Ns_nw (by exact hB.2.2.2.2.2) YX2_put IX2_put VX2_put (mX2_99 hC) (by rw [hB.1]; exact ct_X2_put l D ids H0 _ _ o so a (a1 + 2 + 5 * P1 t + 2) (a1 + 2 + 5 * P1 t + 1) sz0 wd _ _ P0 S0 _ _ _ ho1 ht0 e2 e3 (by omega) (by omega) (by omega) (by omega)) (by exact ho1.1) rfl rfl (Nat.le_of_ble_eq_true rfl) (by rw [hB.2.1]; first | exact Nat.le_of_ble_eq_true rfl | (dsimp only; omega)) (by rw [hB.2.1]; first | exact Nat.le_of_ble_eq_true rfl | (dsimp only; omega)) (by rw [hB.2.1]; first | exact Nat.le_of_ble_eq_true rfl | (dsimp only; omega)) (by rw [hB.2.1]; first | exact Nat.le_of_ble_eq_true rfl | (dsimp only; omega)) dX2_putAll_30 (fun v h_30 n_30 p_30 => ?_)
        obtain ⟨x, rfl, rfl, q0, q1, q2, q3⟩ := p_30
        try dsimp only [Option.toList, List.cons_append, List.nil_append]
        refine o_if_ne (tgt := 38) hC dX2_putAll_33 (by decide) (fun c_33 => ?_) (fun c_33 => ?_)
        · refine o_iinc hC dX2_putAll_38 (by rfl) (rl_inc _) (Nat.le_of_ble_eq_true rfl) ?_
          refine o_goto (tgt := 2) hC dX2_putAll_41 (by decide) ?_
          exact ih (t + 1) _ _ (by omega) q1 q2 (hf.tr (q3.wd (by omega) (by omega) (Nat.le_refl _) (Nat.le_refl _)))
        · refine o_iconst (v := nI 0) hC dX2_putAll_36 (by decide +kernel) ?_
          refine o_zret hC hB dX2_putAll_37 (by first | rfl | decide +kernel) (Nat.le_of_ble_eq_true rfl) (Nat.le_of_ble_eq_true rfl) ?_
          exact ⟨_, rfl, rfl, Or.inl rfl, ⟨_, q1⟩, q2, hf.tr (q3.wd (by omega) (by omega) (Nat.le_refl _) (Nat.le_refl _))⟩
  show rl_G X (rl_e D ids H0) 0 [some (.ref o), some (.ref a1), some (.ref a), none] [] h n 0 0
  refine o_iconst (v := nI 0) hC dX2_putAll_0 (by decide +kernel) ?_
  refine o_istore_n hC dX2_putAll_1 (Nat.le_of_ble_eq_true rfl) ?_
  exact loop sz1 0 h gp (by omega) ho ht rl_g2.rf

set_option maxHeartbeats 4000000 in
set_option maxRecDepth 100000 in
theorem ct_X2_isPicked (l : Launch) (D : va_G) (ids : Nat → ClassId) (H0 : Heap) (h : rl_H) (n : Nat) (nd ca c4 kd : Nat) (f0 f1 f2 f3 f5 f7 f8 : Int32) (cc : Nat → Int32) (hnd : h nd = some (.inr (1, [.int f0, .int f1, .int f2, .int f3, .int (nI c4), .int f5, .int (nI kd), .int f7, .int f8]))) (hc : h ca = some (.inl (ids 0, 6, .inl cc))) (h4 : c4 < 6) (hf5 : f5 = -1 ∨ ∃ c5 : Nat, c5 < 6 ∧ f5 = nI c5) (h6 : kd ≤ 2) : rl_Met l (rl_e D ids H0) rl_BW rl_Ns yX2_isPicked cX2_isPicked 4 (some .boolean) ({ frames := 0, cells := 0, slots := 0, locals := 0 }) [.ref nd, .ref ca] h n (fun v h' n' => ∃ x : Int32, v = some (.int x) ∧ h' = h ∧ n' = n ∧ (x = nI 0 ∨ x = nI 1)) := by
  refine rl_Met.of (by decide +kernel) (Nat.le_of_ble_eq_true rfl) ?_
  intro X hC hB
  show rl_G X (rl_e D ids H0) 0 [some (.ref nd), some (.ref ca), none, none] [] h n 0 0
  refine o_aload_n hC dX2_isPicked_0 (by rfl) ?_
  refine o_aload_n hC dX2_isPicked_1 (by rfl) ?_
  refine o_getf hC (fX2_119 hC rfl) dX2_isPicked_2 (by repeat (first | with_reducible assumption | (rw [rl_u_s]; done) | (rw [rl_u_s]; rfl) | rw [rl_u_n (by first | with_reducible assumption | omega)])) (by first | rfl | with_reducible assumption) ?_
  refine o_ialdN (t0 := 0) (k := c4) hC rfl dX2_isPicked_5 hc (by omega) (by decide) ?_
  refine o_istore_n hC dX2_isPicked_6 (Nat.le_of_ble_eq_true rfl) ?_
  refine o_aload_n hC dX2_isPicked_7 (by rfl) ?_
  refine o_getf hC (fX2_122 hC rfl) dX2_isPicked_8 (by repeat (first | with_reducible assumption | (rw [rl_u_s]; done) | (rw [rl_u_s]; rfl) | rw [rl_u_n (by first | with_reducible assumption | omega)])) (by first | rfl | with_reducible assumption) ?_
  refine o_iconst (v := (-1 : Int32)) hC dX2_isPicked_11 (by decide +kernel) ?_
  refine o_icmp_ne (tgt := 22) hC dX2_isPicked_12 (by decide) (fun c_12 => ?_) (fun c_12 => ?_)
  · obtain ⟨c5, h5, rfl⟩ := hf5.resolve_left c_12
    refine o_aload_n hC dX2_isPicked_22 (by rfl) ?_
    refine o_aload_n hC dX2_isPicked_23 (by rfl) ?_
    refine o_getf hC (fX2_122 hC rfl) dX2_isPicked_24 (by repeat (first | with_reducible assumption | (rw [rl_u_s]; done) | (rw [rl_u_s]; rfl) | rw [rl_u_n (by first | with_reducible assumption | omega)])) (by first | rfl | with_reducible assumption) ?_
    refine o_ialdN (t0 := 0) (k := c5) hC rfl dX2_isPicked_27 hc (by omega) (by decide) ?_
    refine o_istore_n hC dX2_isPicked_28 (Nat.le_of_ble_eq_true rfl) ?_
    refine o_aload_n hC dX2_isPicked_29 (by rfl) ?_
    refine o_getf hC (fX2_125 hC rfl) dX2_isPicked_30 (by repeat (first | with_reducible assumption | (rw [rl_u_s]; done) | (rw [rl_u_s]; rfl) | rw [rl_u_n (by first | with_reducible assumption | omega)])) (by first | rfl | with_reducible assumption) ?_
    rcases (show kd = 0 ∨ kd = 1 ∨ kd = 2 by omega) with rfl | rfl | rfl
    · refine o_lookup (off := 27) (tgt := 60) hC dX2_isPicked_33 (by decide +kernel) (by decide +kernel) (by decide) ?_
      refine o_iload_n hC dX2_isPicked_60 (by rfl) ?_
      refine o_iload_n hC dX2_isPicked_61 (by rfl) ?_
      refine o_icmp_ge (tgt := 69) hC dX2_isPicked_62 (by decide) (fun c_62 => ?_) (fun c_62 => ?_)
      · refine o_iconst (v := nI 0) hC dX2_isPicked_69 (by decide +kernel) ?_
        refine o_zret hC hB dX2_isPicked_70 (by first | rfl | decide +kernel) (Nat.le_of_ble_eq_true rfl) (Nat.le_of_ble_eq_true rfl) ?_
        exact ⟨_, rfl, rfl, rfl, by first | exact Or.inl rfl | exact Or.inr rfl⟩
      · refine o_iconst (v := nI 1) hC dX2_isPicked_65 (by decide +kernel) ?_
        refine o_goto (tgt := 70) hC dX2_isPicked_66 (by decide) ?_
        refine o_zret hC hB dX2_isPicked_70 (by first | rfl | decide +kernel) (Nat.le_of_ble_eq_true rfl) (Nat.le_of_ble_eq_true rfl) ?_
        exact ⟨_, rfl, rfl, rfl, by first | exact Or.inl rfl | exact Or.inr rfl⟩
    · refine o_lookup (off := 38) (tgt := 71) hC dX2_isPicked_33 (by decide +kernel) (by decide +kernel) (by decide) ?_
      refine o_iload_n hC dX2_isPicked_71 (by rfl) ?_
      refine o_iload_n hC dX2_isPicked_72 (by rfl) ?_
      refine o_icmp_ne (tgt := 80) hC dX2_isPicked_73 (by decide) (fun c_73 => ?_) (fun c_73 => ?_)
      · refine o_iconst (v := nI 0) hC dX2_isPicked_80 (by decide +kernel) ?_
        refine o_zret hC hB dX2_isPicked_81 (by first | rfl | decide +kernel) (Nat.le_of_ble_eq_true rfl) (Nat.le_of_ble_eq_true rfl) ?_
        exact ⟨_, rfl, rfl, rfl, by first | exact Or.inl rfl | exact Or.inr rfl⟩
      · refine o_iconst (v := nI 1) hC dX2_isPicked_76 (by decide +kernel) ?_
        refine o_goto (tgt := 81) hC dX2_isPicked_77 (by decide) ?_
        refine o_zret hC hB dX2_isPicked_81 (by first | rfl | decide +kernel) (Nat.le_of_ble_eq_true rfl) (Nat.le_of_ble_eq_true rfl) ?_
        exact ⟨_, rfl, rfl, rfl, by first | exact Or.inl rfl | exact Or.inr rfl⟩
    · refine o_lookup (off := 49) (tgt := 82) hC dX2_isPicked_33 (by decide +kernel) (by decide +kernel) (by decide) ?_
      refine o_iload_n hC dX2_isPicked_82 (by rfl) ?_
      refine o_iload_n hC dX2_isPicked_83 (by rfl) ?_
      refine o_icmp_le (tgt := 91) hC dX2_isPicked_84 (by decide) (fun c_84 => ?_) (fun c_84 => ?_)
      · refine o_iconst (v := nI 0) hC dX2_isPicked_91 (by decide +kernel) ?_
        refine o_zret hC hB dX2_isPicked_92 (by first | rfl | decide +kernel) (Nat.le_of_ble_eq_true rfl) (Nat.le_of_ble_eq_true rfl) ?_
        exact ⟨_, rfl, rfl, rfl, by first | exact Or.inl rfl | exact Or.inr rfl⟩
      · refine o_iconst (v := nI 1) hC dX2_isPicked_87 (by decide +kernel) ?_
        refine o_goto (tgt := 92) hC dX2_isPicked_88 (by decide) ?_
        refine o_zret hC hB dX2_isPicked_92 (by first | rfl | decide +kernel) (Nat.le_of_ble_eq_true rfl) (Nat.le_of_ble_eq_true rfl) ?_
        exact ⟨_, rfl, rfl, rfl, by first | exact Or.inl rfl | exact Or.inr rfl⟩
  · refine o_aload_n hC dX2_isPicked_15 (by rfl) ?_
    refine o_getf hC (fX2_88 hC rfl) dX2_isPicked_16 (by repeat (first | with_reducible assumption | (rw [rl_u_s]; done) | (rw [rl_u_s]; rfl) | rw [rl_u_n (by first | with_reducible assumption | omega)])) (by first | rfl | with_reducible assumption) ?_
    refine o_goto (tgt := 28) hC dX2_isPicked_19 (by decide) ?_
    refine o_istore_n hC dX2_isPicked_28 (Nat.le_of_ble_eq_true rfl) ?_
    refine o_aload_n hC dX2_isPicked_29 (by rfl) ?_
    refine o_getf hC (fX2_125 hC rfl) dX2_isPicked_30 (by repeat (first | with_reducible assumption | (rw [rl_u_s]; done) | (rw [rl_u_s]; rfl) | rw [rl_u_n (by first | with_reducible assumption | omega)])) (by first | rfl | with_reducible assumption) ?_
    rcases (show kd = 0 ∨ kd = 1 ∨ kd = 2 by omega) with rfl | rfl | rfl
    · refine o_lookup (off := 27) (tgt := 60) hC dX2_isPicked_33 (by decide +kernel) (by decide +kernel) (by decide) ?_
      refine o_iload_n hC dX2_isPicked_60 (by rfl) ?_
      refine o_iload_n hC dX2_isPicked_61 (by rfl) ?_
      refine o_icmp_ge (tgt := 69) hC dX2_isPicked_62 (by decide) (fun c_62 => ?_) (fun c_62 => ?_)
      · refine o_iconst (v := nI 0) hC dX2_isPicked_69 (by decide +kernel) ?_
        refine o_zret hC hB dX2_isPicked_70 (by first | rfl | decide +kernel) (Nat.le_of_ble_eq_true rfl) (Nat.le_of_ble_eq_true rfl) ?_
        exact ⟨_, rfl, rfl, rfl, by first | exact Or.inl rfl | exact Or.inr rfl⟩
      · refine o_iconst (v := nI 1) hC dX2_isPicked_65 (by decide +kernel) ?_
        refine o_goto (tgt := 70) hC dX2_isPicked_66 (by decide) ?_
        refine o_zret hC hB dX2_isPicked_70 (by first | rfl | decide +kernel) (Nat.le_of_ble_eq_true rfl) (Nat.le_of_ble_eq_true rfl) ?_
        exact ⟨_, rfl, rfl, rfl, by first | exact Or.inl rfl | exact Or.inr rfl⟩
    · refine o_lookup (off := 38) (tgt := 71) hC dX2_isPicked_33 (by decide +kernel) (by decide +kernel) (by decide) ?_
      refine o_iload_n hC dX2_isPicked_71 (by rfl) ?_
      refine o_iload_n hC dX2_isPicked_72 (by rfl) ?_
      refine o_icmp_ne (tgt := 80) hC dX2_isPicked_73 (by decide) (fun c_73 => ?_) (fun c_73 => ?_)
      · refine o_iconst (v := nI 0) hC dX2_isPicked_80 (by decide +kernel) ?_
        refine o_zret hC hB dX2_isPicked_81 (by first | rfl | decide +kernel) (Nat.le_of_ble_eq_true rfl) (Nat.le_of_ble_eq_true rfl) ?_
        exact ⟨_, rfl, rfl, rfl, by first | exact Or.inl rfl | exact Or.inr rfl⟩
      · refine o_iconst (v := nI 1) hC dX2_isPicked_76 (by decide +kernel) ?_
        refine o_goto (tgt := 81) hC dX2_isPicked_77 (by decide) ?_
        refine o_zret hC hB dX2_isPicked_81 (by first | rfl | decide +kernel) (Nat.le_of_ble_eq_true rfl) (Nat.le_of_ble_eq_true rfl) ?_
        exact ⟨_, rfl, rfl, rfl, by first | exact Or.inl rfl | exact Or.inr rfl⟩
    · refine o_lookup (off := 49) (tgt := 82) hC dX2_isPicked_33 (by decide +kernel) (by decide +kernel) (by decide) ?_
      refine o_iload_n hC dX2_isPicked_82 (by rfl) ?_
      refine o_iload_n hC dX2_isPicked_83 (by rfl) ?_
      refine o_icmp_le (tgt := 91) hC dX2_isPicked_84 (by decide) (fun c_84 => ?_) (fun c_84 => ?_)
      · refine o_iconst (v := nI 0) hC dX2_isPicked_91 (by decide +kernel) ?_
        refine o_zret hC hB dX2_isPicked_92 (by first | rfl | decide +kernel) (Nat.le_of_ble_eq_true rfl) (Nat.le_of_ble_eq_true rfl) ?_
        exact ⟨_, rfl, rfl, rfl, by first | exact Or.inl rfl | exact Or.inr rfl⟩
      · refine o_iconst (v := nI 1) hC dX2_isPicked_87 (by decide +kernel) ?_
        refine o_goto (tgt := 92) hC dX2_isPicked_88 (by decide) ?_
        refine o_zret hC hB dX2_isPicked_92 (by first | rfl | decide +kernel) (Nat.le_of_ble_eq_true rfl) (Nat.le_of_ble_eq_true rfl) ?_
        exact ⟨_, rfl, rfl, rfl, by first | exact Or.inl rfl | exact Or.inr rfl⟩

set_option maxHeartbeats 4000000 in
set_option maxRecDepth 100000 in
theorem ct_X2_fillPick (l : Launch) (D : va_G) (ids : Nat → ClassId) (H0 : Heap) (h : rl_H) (n : Nat) (o so a a1 sz1 wd wd1 : Nat) (gp : Nat → Option Nat) (P1 : Nat → Nat) (S1 : tb_S) (nd c4 kd : Nat) (f0 f1 f2 f3 f5 f7 f8 : Int32) (ho : op_sh ids h o so gp) (ht : tb_ok ids h a wd) (hi : tb_at ids h a1 sz1 wd1 P1 S1) (hoa : o + 22 ≤ a ∨ a + 402 ≤ o) (hoi : o + 22 ≤ a1 ∨ a1 + 402 ≤ o) (hia : a1 + 402 ≤ a ∨ a + 402 ≤ a1) (hnd : h nd = some (.inr (1, [.int f0, .int f1, .int f2, .int f3, .int (nI c4), .int f5, .int (nI kd), .int f7, .int f8]))) (h4 : c4 < 6) (hf5 : f5 = -1 ∨ ∃ c5 : Nat, c5 < 6 ∧ f5 = nI c5) (h6 : kd ≤ 2) (hno : nd < o ∨ o + 22 ≤ nd) (hna : nd < a ∨ a + 402 ≤ nd) : rl_Met l (rl_e D ids H0) rl_BW rl_Ns yX2_fillPick cX2_fillPick 6 (some .boolean) ({ frames := 4, cells := 0, slots := 0, locals := 149 }) [.ref o, .ref nd, .ref a1, .ref a] h n (fun v h' n' => ∃ x : Int32, v = some (.int x) ∧ n' = n ∧ (x = nI 0 ∨ x = nI 1) ∧ (∃ gp' : Nat → Option Nat, op_sh ids h' o so gp') ∧ tb_ok ids h' a wd ∧ rl_g2 h h' o (o + 22) a (a + 402)) := by
  refine rl_Met.of (by decide +kernel) (Nat.le_of_ble_eq_true rfl) ?_
  intro X hC hB
  have loop : ∀ (m t : Nat) (o5 : Option Value) (h1 : rl_H) (gp1 : Nat → Option Nat), t + m = sz1 → op_sh ids h1 o so gp1 → tb_ok ids h1 a wd → rl_g2 h h1 o (o + 22) a (a + 402) → rl_G X (rl_e D ids H0) 3 [some (.ref o), some (.ref nd), some (.ref a1), some (.ref a), some (.int (nI t)), o5] [] h1 n 0 0 := by
    intro m
    induction m with
    | zero =>
      intro t o5 h1 gp1 hm ho1 ht1 hf
      obtain ⟨t1, ⟨tf, t2, t3⟩, t4, t5, t6, t7⟩ := hi.eqv (h' := h1) (fun q q1 q2 => hf q (by omega) (by omega))
      refine o_iload hC dX2_fillPick_3 (by rfl) ?_
      refine o_aload_n hC dX2_fillPick_5 (by rfl) ?_
      refine o_getf hC (fX2_103 hC rfl) dX2_fillPick_6 (by repeat (first | with_reducible assumption | (rw [rl_u_s]; done) | (rw [rl_u_s]; rfl) | rw [rl_u_n (by first | with_reducible assumption | omega)])) (by first | rfl | with_reducible assumption) ?_
      refine o_icmp_ge (tgt := 59) hC dX2_fillPick_9 (by decide) (fun c_9 => ?_) (fun c_9 => ?_)
      · refine o_iconst (v := nI 1) hC dX2_fillPick_59 (by decide +kernel) ?_
        refine o_zret hC hB dX2_fillPick_60 (by first | rfl | decide +kernel) (Nat.le_of_ble_eq_true rfl) (Nat.le_of_ble_eq_true rfl) ?_
        exact ⟨_, rfl, rfl, Or.inr rfl, ⟨_, ho1⟩, ht1, hf⟩
      · exact absurd (nI_le (by omega) (by omega)) c_9
    | succ m ih =>
      intro t o5 h1 gp1 hm ho1 ht1 hf
      obtain ⟨t1, ⟨tf, t2, t3⟩, t4, t5, t6, t7⟩ := hi.eqv (h' := h1) (fun q q1 q2 => hf q (by omega) (by omega))
      obtain ⟨sz0, P0, S0, ht0⟩ := id ht1
      have n1 := (hf nd (by omega) (by omega)).trans hnd
      have hb := t4 t (by omega)
      obtain ⟨e1, e2, e3⟩ := t5 (P1 t) hb
      refine o_iload hC dX2_fillPick_3 (by rfl) ?_
      refine o_aload_n hC dX2_fillPick_5 (by rfl) ?_
      refine o_getf hC (fX2_103 hC rfl) dX2_fillPick_6 (by repeat (first | with_reducible assumption | (rw [rl_u_s]; done) | (rw [rl_u_s]; rfl) | rw [rl_u_n (by first | with_reducible assumption | omega)])) (by first | rfl | with_reducible assumption) ?_
      refine o_icmp_ge (tgt := 59) hC dX2_fillPick_9 (by decide) (fun c_9 => ?_) (fun c_9 => ?_)
      · exact absurd c_9 (nI_ge (by omega) (by omega))
      · refine o_aload_n hC dX2_fillPick_12 (by rfl) ?_
        refine o_getf hC (fX2_106 hC rfl) dX2_fillPick_13 (by repeat (first | with_reducible assumption | (rw [rl_u_s]; done) | (rw [rl_u_s]; rfl) | rw [rl_u_n (by first | with_reducible assumption | omega)])) (by first | rfl | with_reducible assumption) ?_
        refine o_iload hC dX2_fillPick_16 (by rfl) ?_
        refine o_aaldN (t0 := 3) hC rfl dX2_fillPick_18 (by repeat (first | with_reducible assumption | (rw [rl_u_s]; done) | (rw [rl_u_s]; rfl) | rw [rl_u_n (by first | with_reducible assumption | omega)])) (by omega) (by decide) ?_
        rw [t3 _ (by omega)]
        show rl_G X _ _ _ (.ref _ :: _) _ _ _ _
        refine o_astore hC dX2_fillPick_19 (Nat.le_of_ble_eq_true rfl) ?_
        refine o_aload_n hC dX2_fillPick_21 (by rfl) ?_
        refine o_aload hC dX2_fillPick_22 (by rfl) ?_
        refine o_getf hC (fX2_109 hC rfl) dX2_fillPick_24 (by repeat (first | with_reducible assumption | (rw [rl_u_s]; done) | (rw [rl_u_s]; rfl) | rw [rl_u_n (by first | with_reducible assumption | omega)])) (by first | rfl | with_reducible assumption) ?_
        refine o_callS2 hC rl_BW_good rl_Ns_nw (by exact hB.2.2.2.2.2) YX2_isPicked SX2_isPicked (mX2_112 hC) (by rw [hB.1]; exact ct_X2_isPicked l D ids H0 _ _ nd (a1 + 2 + 5 * P1 t + 1) c4 kd _ _ _ _ f5 _ _ _ n1 e2 h4 hf5 h6) (Nat.le_of_ble_eq_true rfl) (by rw [hB.2.1]; first | exact Nat.le_of_ble_eq_true rfl | (dsimp only; omega)) (by rw [hB.2.1]; first | exact Nat.le_of_ble_eq_true rfl | (dsimp only; omega)) (by rw [hB.2.1]; first | exact Nat.le_of_ble_eq_true rfl | (dsimp only; omega)) (by rw [hB.2.1]; first | exact Nat.le_of_ble_eq_true rfl | (dsimp only; omega)) dX2_fillPick_27 (fun v h_27 n_27 p_27 => ?_)
        obtain ⟨x0, rfl, rfl, rfl, q9⟩ := p_27
        try dsimp only [Option.toList, List.cons_append, List.nil_append]
        refine o_if_eq (tgt := 53) hC dX2_fillPick_30 (by decide) (fun c_30 => ?_) (fun c_30 => ?_)
        · refine o_iinc hC dX2_fillPick_53 (by rfl) (rl_inc _) (Nat.le_of_ble_eq_true rfl) ?_
          refine o_goto (tgt := 3) hC dX2_fillPick_56 (by decide) ?_
          first
          | exact ih (t + 1) _ _ _ (by omega) q1 q2 (hf.tr (q3.wd (by omega) (by omega) (Nat.le_refl _) (Nat.le_refl _)))
          | exact ih (t + 1) _ _ _ (by omega) ho1 ht1 hf
        · refine o_aload_n hC dX2_fillPick_33 (by rfl) ?_
          refine o_aload_n hC dX2_fillPick_34 (by rfl) ?_
          refine o_aload hC dX2_fillPick_35 (by rfl) ?_
          refine o_getf hC (fX2_109 hC rfl) dX2_fillPick_37 (by repeat (first | with_reducible assumption | (rw [rl_u_s]; done) | (rw [rl_u_s]; rfl) | rw [rl_u_n (by first | with_reducible assumption | omega)])) (by first | rfl | with_reducible assumption) ?_
          refine o_aload hC dX2_fillPick_40 (by rfl) ?_
          refine o_getf hC (fX2_116 hC rfl) dX2_fillPick_42 (by repeat (first | with_reducible assumption | (rw [rl_u_s]; done) | (rw [rl_u_s]; rfl) | rw [rl_u_n (by first | with_reducible assumption | omega)])) (by first | rfl | with_reducible assumption) ?_
          refine o_callV3 hC rl_BW_good rl_Ns_nw (by exact hB.2.2.2.2.2) YX2_put IX2_put VX2_put (mX2_99 hC) (by rw [hB.1]; exact ct_X2_put l D ids H0 _ _ o so a (a1 + 2 + 5 * P1 t + 2) (a1 + 2 + 5 * P1 t + 1) sz0 wd _ _ P0 S0 _ _ _ ho1 ht0 e2 e3 (by omega) (by omega) (by omega) (by omega)) (by exact ho1.1) rfl rfl (Nat.le_of_ble_eq_true rfl) (by rw [hB.2.1]; first | exact Nat.le_of_ble_eq_true rfl | (dsimp only; omega)) (by rw [hB.2.1]; first | exact Nat.le_of_ble_eq_true rfl | (dsimp only; omega)) (by rw [hB.2.1]; first | exact Nat.le_of_ble_eq_true rfl | (dsimp only; omega)) (by rw [hB.2.1]; first | exact Nat.le_of_ble_eq_true rfl | (dsimp only; omega)) dX2_fillPick_45 (fun v h_45 n_45 p_45 => ?_)
          obtain ⟨x, rfl, rfl, q0, q1, q2, q3⟩ := p_45
          try dsimp only [Option.toList, List.cons_append, List.nil_append]
          refine o_if_ne (tgt := 53) hC dX2_fillPick_48 (by decide) (fun c_48 => ?_) (fun c_48 => ?_)
          · refine o_iinc hC dX2_fillPick_53 (by rfl) (rl_inc _) (Nat.le_of_ble_eq_true rfl) ?_
            refine o_goto (tgt := 3) hC dX2_fillPick_56 (by decide) ?_
            first
            | exact ih (t + 1) _ _ _ (by omega) q1 q2 (hf.tr (q3.wd (by omega) (by omega) (Nat.le_refl _) (Nat.le_refl _)))
            | exact ih (t + 1) _ _ _ (by omega) ho1 ht1 hf
          · refine o_iconst (v := nI 0) hC dX2_fillPick_51 (by decide +kernel) ?_
            refine o_zret hC hB dX2_fillPick_52 (by first | rfl | decide +kernel) (Nat.le_of_ble_eq_true rfl) (Nat.le_of_ble_eq_true rfl) ?_
            exact ⟨_, rfl, rfl, Or.inl rfl, ⟨_, q1⟩, q2, hf.tr (q3.wd (by omega) (by omega) (Nat.le_refl _) (Nat.le_refl _))⟩
  show rl_G X (rl_e D ids H0) 0 [some (.ref o), some (.ref nd), some (.ref a1), some (.ref a), none, none] [] h n 0 0
  refine o_iconst (v := nI 0) hC dX2_fillPick_0 (by decide +kernel) ?_
  refine o_istore hC dX2_fillPick_1 (Nat.le_of_ble_eq_true rfl) ?_
  exact loop sz1 0 _ h gp (by omega) ho ht rl_g2.rf
end
section
/-! Operators by shapes: fillScan, putWithout, fillMinus -/

set_option maxHeartbeats 4000000 in
set_option maxRecDepth 100000 in
theorem ct_X2_fillScan (l : Launch) (D : va_G) (ids : Nat → ClassId) (H0 : Heap) (h : rl_H) (n : Nat) (o so a wd nd sc rc : Nat) (gp : Nat → Option Nat) (wf sf : Nat → Int32) (cf : Nat → Nat → Int32) (f0 f1 f2 f3 f4 f5 f6 f7 f8 : Int32) (ho : op_sh ids h o so gp) (ht : tb_ok ids h a wd) (hs : so_at ids h so wf sf cf sc rc) (hnd : h nd = some (.inr (1, [.int f0, .int f1, .int f2, .int f3, .int f4, .int f5, .int f6, .int f7, .int f8]))) (hoa : o + 22 ≤ a ∨ a + 402 ≤ o) (hso : so + 40 ≤ o ∨ o + 22 ≤ so) (hsa : so + 40 ≤ a ∨ a + 402 ≤ so) (hno : nd < o ∨ o + 22 ≤ nd) (hna : nd < a ∨ a + 402 ≤ nd) : rl_Met l (rl_e D ids H0) rl_BW rl_Ns yX2_fillScan cX2_fillScan 5 (some .boolean) ({ frames := 4, cells := 0, slots := 0, locals := 149 }) [.ref o, .ref nd, .ref so, .ref a] h n (fun v h' n' => ∃ x : Int32, v = some (.int x) ∧ n' = n ∧ (x = nI 0 ∨ x = nI 1) ∧ (∃ gp' : Nat → Option Nat, op_sh ids h' o so gp') ∧ tb_ok ids h' a wd ∧ rl_g2 h h' o (o + 22) a (a + 402)) := by
  refine rl_Met.of (by decide +kernel) (Nat.le_of_ble_eq_true rfl) ?_
  intro X hC hB
  have loop : ∀ (m r : Nat) (h1 : rl_H) (gp1 : Nat → Option Nat), r + m = rc → op_sh ids h1 o so gp1 → tb_ok ids h1 a wd → rl_g2 h h1 o (o + 22) a (a + 402) → rl_G X (rl_e D ids H0) 3 [some (.ref o), some (.ref nd), some (.ref so), some (.ref a), some (.int (nI r))] [] h1 n 0 0 := by
    intro m
    induction m with
    | zero =>
      intro r h1 gp1 hm ho1 ht1 hf
      obtain ⟨s1, s2, s3, s4, s5, s6, s7⟩ := hs.eqv (h' := h1) (fun q q1 q2 => hf q (by omega) (by omega))
      have o0 := ho1.1
      refine o_iload hC dX2_fillScan_3 (by rfl) ?_
      refine o_aload_n hC dX2_fillScan_5 (by rfl) ?_
      refine o_getf hC (fX2_80 hC rfl) dX2_fillScan_6 (by repeat (first | with_reducible assumption | (rw [rl_u_s]; done) | (rw [rl_u_s]; rfl) | rw [rl_u_n (by first | with_reducible assumption | omega)])) (by first | rfl | with_reducible assumption) ?_
      refine o_icmp_ge (tgt := 65) hC dX2_fillScan_9 (by decide) (fun c_9 => ?_) (fun c_9 => ?_)
      · refine o_iconst (v := nI 1) hC dX2_fillScan_65 (by decide +kernel) ?_
        refine o_zret hC hB dX2_fillScan_66 (by first | rfl | decide +kernel) (Nat.le_of_ble_eq_true rfl) (Nat.le_of_ble_eq_true rfl) ?_
        exact ⟨_, rfl, rfl, Or.inr rfl, ⟨_, ho1⟩, ht1, hf⟩
      · exact absurd (nI_le (by omega) (by omega)) c_9
    | succ m ih =>
      intro r h1 gp1 hm ho1 ht1 hf
      obtain ⟨s1, s2, s3, s4, s5, s6, s7⟩ := hs.eqv (h' := h1) (fun q q1 q2 => hf q (by omega) (by omega))
      obtain ⟨sz0, P0, S0, ht0⟩ := id ht1
      obtain ⟨o0, ⟨ds, od⟩, ⟨mf, mg, mk, om⟩, ⟨tp, o7, o7b⟩, o8, ⟨kc, o9⟩, ot⟩ := id ho1
      have n1 := (hf nd (by omega) (by omega)).trans hnd
      refine o_iload hC dX2_fillScan_3 (by rfl) ?_
      refine o_aload_n hC dX2_fillScan_5 (by rfl) ?_
      refine o_getf hC (fX2_80 hC rfl) dX2_fillScan_6 (by repeat (first | with_reducible assumption | (rw [rl_u_s]; done) | (rw [rl_u_s]; rfl) | rw [rl_u_n (by first | with_reducible assumption | omega)] | rw [p2 _ (by omega)])) (by first | rfl | with_reducible assumption) ?_
      refine o_icmp_ge (tgt := 65) hC dX2_fillScan_9 (by decide) (fun c_9 => ?_) (fun c_9 => ?_)
      · exact absurd c_9 (nI_ge (by omega) (by omega))
      · refine o_aload_n hC dX2_fillScan_12 (by rfl) ?_
        refine o_getf hC (fX2_85 hC rfl) dX2_fillScan_13 (by repeat (first | with_reducible assumption | (rw [rl_u_s]; done) | (rw [rl_u_s]; rfl) | rw [rl_u_n (by first | with_reducible assumption | omega)] | rw [p2 _ (by omega)])) (by first | rfl | with_reducible assumption) ?_
        refine o_iload hC dX2_fillScan_16 (by rfl) ?_
        refine o_ialdN (t0 := 0) hC rfl dX2_fillScan_18 (by repeat (first | with_reducible assumption | (rw [rl_u_s]; done) | (rw [rl_u_s]; rfl) | rw [rl_u_n (by first | with_reducible assumption | omega)] | rw [p2 _ (by omega)])) (by omega) (by decide) ?_
        refine o_aload_n hC dX2_fillScan_19 (by rfl) ?_
        refine o_getf hC (fX2_88 hC rfl) dX2_fillScan_20 (by repeat (first | with_reducible assumption | (rw [rl_u_s]; done) | (rw [rl_u_s]; rfl) | rw [rl_u_n (by first | with_reducible assumption | omega)] | rw [p2 _ (by omega)])) (by first | rfl | with_reducible assumption) ?_
        refine o_icmp_ne (tgt := 59) hC dX2_fillScan_23 (by decide) (fun c_23 => ?_) (fun c_23 => ?_)
        · refine o_iinc hC dX2_fillScan_59 (by rfl) (rl_inc _) (Nat.le_of_ble_eq_true rfl) ?_
          refine o_goto (tgt := 3) hC dX2_fillScan_62 (by decide) ?_
          first
          | exact ih (r + 1) _ _ (by omega) q1 q2 (hf.tr ((p2.wd (a' := o) (b' := o + 22) (by omega) (by omega)).g1.tr (q3.wd (by omega) (by omega) (Nat.le_refl _) (Nat.le_refl _))))
          | exact ih (r + 1) _ _ (by omega) ho1 ht1 hf
        · refine o_aload_n hC dX2_fillScan_26 (by rfl) ?_
          refine o_getf hC (fX2_21 hC rfl) dX2_fillScan_27 (by repeat (first | with_reducible assumption | (rw [rl_u_s]; done) | (rw [rl_u_s]; rfl) | rw [rl_u_n (by first | with_reducible assumption | omega)] | rw [p2 _ (by omega)])) (by first | rfl | with_reducible assumption) ?_
          refine o_lconst (v := 1) hC dX2_fillScan_30 (by decide +kernel) ?_
          refine o_iload hC dX2_fillScan_31 (by rfl) ?_
          refine o_lshl hC dX2_fillScan_33 ?_
          refine o_lconst (v := 0) hC dX2_fillScan_34 (by decide +kernel) ?_
          refine o_callV2 hC rl_BW_good rl_Ns_nw (by exact hB.2.2.2.2.2) YX6_becomeTerm IX6_becomeTerm VX6_becomeTerm (mX2_91 hC) (by rw [hB.1]; exact ct_X6_becomeTerm l D ids H0 _ _ (o + 4) _ _ _ _ _ om) (by exact om.1) rfl rfl (Nat.le_of_ble_eq_true rfl) (by rw [hB.2.1]; first | exact Nat.le_of_ble_eq_true rfl | (dsimp only; omega)) (by rw [hB.2.1]; first | exact Nat.le_of_ble_eq_true rfl | (dsimp only; omega)) (by rw [hB.2.1]; first | exact Nat.le_of_ble_eq_true rfl | (dsimp only; omega)) (by rw [hB.2.1]; first | exact Nat.le_of_ble_eq_true rfl | (dsimp only; omega)) dX2_fillScan_35 (fun v h_35 n_35 p_35 => ?_)
          obtain ⟨rfl, rfl, p1, p2⟩ := p_35
          have ho2 : op_sh ids h_35 o so gp1 := ho1.mk (ho1.2.1.eqv (fun q q1 q2 => p2 q (by omega))) ⟨_, _, _, p1⟩ (fun q q1 q2 q3 => p2 q (by omega))
          have ht2 := ht0.kept p2 (by omega)
          have e2 : h_35 (so + 4 + r) = some (.inl (ids 0, 6, .inl (cf r))) := by rw [p2 _ (by omega)]; exact s5 r (by omega)
          try dsimp only [Option.toList, List.cons_append, List.nil_append]
          refine o_aload_n hC dX2_fillScan_38 (by rfl) ?_
          refine o_aload_n hC dX2_fillScan_39 (by rfl) ?_
          refine o_aload_n hC dX2_fillScan_40 (by rfl) ?_
          refine o_getf hC (fX2_95 hC rfl) dX2_fillScan_41 (by repeat (first | with_reducible assumption | (rw [rl_u_s]; done) | (rw [rl_u_s]; rfl) | rw [rl_u_n (by first | with_reducible assumption | omega)] | rw [p2 _ (by omega)])) (by first | rfl | with_reducible assumption) ?_
          refine o_iload hC dX2_fillScan_44 (by rfl) ?_
          refine o_aaldA (t0 := 7) hC rfl dX2_fillScan_46 (by repeat (first | with_reducible assumption | (rw [rl_u_s]; done) | (rw [rl_u_s]; rfl) | rw [rl_u_n (by first | with_reducible assumption | omega)] | rw [p2 _ (by omega)])) (by omega) (by decide) ?_
          rw [if_pos (by omega)]
          show rl_G X _ _ _ (.ref _ :: _) _ _ _ _
          refine o_aload_n hC dX2_fillScan_47 (by rfl) ?_
          refine o_getf hC (fX2_21 hC rfl) dX2_fillScan_48 (by repeat (first | with_reducible assumption | (rw [rl_u_s]; done) | (rw [rl_u_s]; rfl) | rw [rl_u_n (by first | with_reducible assumption | omega)] | rw [p2 _ (by omega)])) (by first | rfl | with_reducible assumption) ?_
          refine o_callV3 hC rl_BW_good rl_Ns_nw (by exact hB.2.2.2.2.2) YX2_put IX2_put VX2_put (mX2_99 hC) (by rw [hB.1]; exact ct_X2_put l D ids H0 _ _ o so a (o + 4) (so + 4 + r) sz0 wd _ _ P0 S0 _ _ _ ho2 ht2 e2 p1 (by omega) (by omega) (by omega) (by omega)) (by exact ho2.1) rfl rfl (Nat.le_of_ble_eq_true rfl) (by rw [hB.2.1]; first | exact Nat.le_of_ble_eq_true rfl | (dsimp only; omega)) (by rw [hB.2.1]; first | exact Nat.le_of_ble_eq_true rfl | (dsimp only; omega)) (by rw [hB.2.1]; first | exact Nat.le_of_ble_eq_true rfl | (dsimp only; omega)) (by rw [hB.2.1]; first | exact Nat.le_of_ble_eq_true rfl | (dsimp only; omega)) dX2_fillScan_51 (fun v h_51 n_51 p_51 => ?_)
          obtain ⟨x, rfl, rfl, q0, q1, q2, q3⟩ := p_51
          try dsimp only [Option.toList, List.cons_append, List.nil_append]
          refine o_if_ne (tgt := 59) hC dX2_fillScan_54 (by decide) (fun c_54 => ?_) (fun c_54 => ?_)
          · refine o_iinc hC dX2_fillScan_59 (by rfl) (rl_inc _) (Nat.le_of_ble_eq_true rfl) ?_
            refine o_goto (tgt := 3) hC dX2_fillScan_62 (by decide) ?_
            first
            | exact ih (r + 1) _ _ (by omega) q1 q2 (hf.tr ((p2.wd (a' := o) (b' := o + 22) (by omega) (by omega)).g1.tr (q3.wd (by omega) (by omega) (Nat.le_refl _) (Nat.le_refl _))))
            | exact ih (r + 1) _ _ (by omega) ho1 ht1 hf
          · refine o_iconst (v := nI 0) hC dX2_fillScan_57 (by decide +kernel) ?_
            refine o_zret hC hB dX2_fillScan_58 (by first | rfl | decide +kernel) (Nat.le_of_ble_eq_true rfl) (Nat.le_of_ble_eq_true rfl) ?_
            exact ⟨_, rfl, rfl, Or.inl rfl, ⟨_, q1⟩, q2, hf.tr ((p2.wd (a' := o) (b' := o + 22) (by omega) (by omega)).g1.tr (q3.wd (by omega) (by omega) (Nat.le_refl _) (Nat.le_refl _)))⟩
  show rl_G X (rl_e D ids H0) 0 [some (.ref o), some (.ref nd), some (.ref so), some (.ref a), none] [] h n 0 0
  refine o_iconst (v := nI 0) hC dX2_fillScan_0 (by decide +kernel) ?_
  refine o_istore hC dX2_fillScan_1 (Nat.le_of_ble_eq_true rfl) ?_
  exact loop rc 0 h gp (by omega) ho ht rl_g2.rf

set_option maxHeartbeats 4000000 in
set_option maxRecDepth 100000 in
theorem ct_X2_putWithout (l : Launch) (D : va_G) (ids : Nat → ClassId) (H0 : Heap) (h : rl_H) (n : Nat) (o so a wd tu tk uk kk : Nat) (gp : Nat → Option Nat) (uc kc2 : Nat → Int32) (uf ug kf kg : Nat → Int64) (ho : op_sh ids h o so gp) (ht : tb_ok ids h a wd) (hu : tp_at ids h tu uc uf ug uk) (hk : tp_at ids h tk kc2 kf kg kk) (hoa : o + 22 ≤ a ∨ a + 402 ≤ o) (huo : tu + 5 ≤ o ∨ o + 22 ≤ tu) (hua : tu + 5 ≤ a ∨ a + 402 ≤ tu) (hko : tk + 5 ≤ o ∨ o + 22 ≤ tk) (hka : tk + 5 ≤ a ∨ a + 402 ≤ tk) : rl_Met l (rl_e D ids H0) rl_BW rl_Ns yX2_putWithout cX2_putWithout 4 (some .boolean) ({ frames := 4, cells := 0, slots := 0, locals := 149 }) [.ref o, .ref tu, .ref tk, .ref a] h n (fun v h' n' => ∃ x : Int32, v = some (.int x) ∧ n' = n ∧ (x = nI 0 ∨ x = nI 1) ∧ (∃ gp' : Nat → Option Nat, op_sh ids h' o so gp') ∧ tb_ok ids h' a wd ∧ rl_g2 h h' o (o + 22) a (a + 402)) := by
  obtain ⟨o0, ⟨ds, od⟩, ⟨mf, mg, mk, om⟩, ⟨tp, o7, o7b⟩, o8, ⟨kc, o9⟩, ot⟩ := id ho
  obtain ⟨sz0, P0, S0, ht0⟩ := id ht
  obtain ⟨w1, w2, w3⟩ := id hu
  obtain ⟨w4, w5, w6⟩ := id hk
  refine rl_Met.of (by decide +kernel) (Nat.le_of_ble_eq_true rfl) ?_
  intro X hC hB
  show rl_G X (rl_e D ids H0) 0 [some (.ref o), some (.ref tu), some (.ref tk), some (.ref a)] [] h n 0 0
  refine o_aload_n hC dX2_putWithout_0 (by rfl) ?_
  refine o_getf hC (fX2_12 hC rfl) dX2_putWithout_1 (by repeat (first | with_reducible assumption | (rw [rl_u_s]; done) | (rw [rl_u_s]; rfl) | rw [rl_u_n (by first | with_reducible assumption | omega)])) (by first | rfl | with_reducible assumption) ?_
  refine o_aload_n hC dX2_putWithout_4 (by rfl) ?_
  refine o_getf hC (fX2_116 hC rfl) dX2_putWithout_5 (by repeat (first | with_reducible assumption | (rw [rl_u_s]; done) | (rw [rl_u_s]; rfl) | rw [rl_u_n (by first | with_reducible assumption | omega)])) (by first | rfl | with_reducible assumption) ?_
  refine o_aload_n hC dX2_putWithout_8 (by rfl) ?_
  refine o_getf hC (fX2_21 hC rfl) dX2_putWithout_9 (by repeat (first | with_reducible assumption | (rw [rl_u_s]; done) | (rw [rl_u_s]; rfl) | rw [rl_u_n (by first | with_reducible assumption | omega)])) (by first | rfl | with_reducible assumption) ?_
  refine o_callV2 hC rl_BW_good rl_Ns_nw (by exact hB.2.2.2.2.2) YX0_not IX0_not VX0_not (mX2_151 hC) (by rw [hB.1]; exact ct_X0_not l D ids H0 _ _ (o + 1) (tk + 2) (o + 4) _ _ ds _ _ mf mg od hk.2.2 om (by omega) (by omega) (by omega)) (by exact od.1) rfl rfl (Nat.le_of_ble_eq_true rfl) (by rw [hB.2.1]; first | exact Nat.le_of_ble_eq_true rfl | (dsimp only; omega)) (by rw [hB.2.1]; first | exact Nat.le_of_ble_eq_true rfl | (dsimp only; omega)) (by rw [hB.2.1]; first | exact Nat.le_of_ble_eq_true rfl | (dsimp only; omega)) (by rw [hB.2.1]; first | exact Nat.le_of_ble_eq_true rfl | (dsimp only; omega)) dX2_putWithout_12 (fun v h_12 n_12 p_12 => ?_)
  obtain ⟨x1, rfl, rfl, -, r1, r2, r3⟩ := p_12
  have ho2 : op_sh ids h_12 o so gp := ho.mk ⟨_, r1⟩ ⟨_, _, _, r2⟩ (fun q q1 q2 q3 => r3 q (by omega) (by omega))
  have u2 : tp_at ids h_12 tu uc uf ug uk := hu.eqv (fun q q1 q2 => r3 q (by omega) (by omega))
  obtain ⟨v1, v2, v3⟩ := id u2
  have o2 := ho2.1
  try dsimp only [Option.toList, List.cons_append, List.nil_append]
  refine o_if_eq (tgt := 60) hC dX2_putWithout_15 (by decide) (fun c_15 => ?_) (fun c_15 => ?_)
  · refine o_iconst (v := nI 0) hC dX2_putWithout_60 (by decide +kernel) ?_
    refine o_zret hC hB dX2_putWithout_61 (by first | rfl | decide +kernel) (Nat.le_of_ble_eq_true rfl) (Nat.le_of_ble_eq_true rfl) ?_
    first
    | exact ⟨_, rfl, rfl, (by first | exact Or.inl rfl | exact Or.inr rfl), ⟨_, q1⟩, q2, fun q z1 z2 => (q3 q (by omega) (by omega)).trans ((s2 q (by omega) (by omega)).trans (r3 q (by omega) (by omega)))⟩
    | exact ⟨_, rfl, rfl, Or.inl rfl, ⟨_, ho3⟩, ⟨_, _, _, ht3⟩, fun q z1 z2 => (s2 q (by omega) (by omega)).trans (r3 q (by omega) (by omega))⟩
    | exact ⟨_, rfl, rfl, Or.inl rfl, ⟨_, ho2⟩, ht.eqv (fun q z1 z2 => r3 q (by omega) (by omega)), fun q z1 z2 => r3 q (by omega) (by omega)⟩
  · refine o_aload_n hC dX2_putWithout_18 (by rfl) ?_
    refine o_getf hC (fX2_12 hC rfl) dX2_putWithout_19 (by repeat (first | with_reducible assumption | (rw [rl_u_s]; done) | (rw [rl_u_s]; rfl) | rw [rl_u_n (by first | with_reducible assumption | omega)])) (by first | rfl | with_reducible assumption) ?_
    refine o_aload_n hC dX2_putWithout_22 (by rfl) ?_
    refine o_getf hC (fX2_116 hC rfl) dX2_putWithout_23 (by repeat (first | with_reducible assumption | (rw [rl_u_s]; done) | (rw [rl_u_s]; rfl) | rw [rl_u_n (by first | with_reducible assumption | omega)])) (by first | rfl | with_reducible assumption) ?_
    refine o_aload_n hC dX2_putWithout_26 (by rfl) ?_
    refine o_getf hC (fX2_21 hC rfl) dX2_putWithout_27 (by repeat (first | with_reducible assumption | (rw [rl_u_s]; done) | (rw [rl_u_s]; rfl) | rw [rl_u_n (by first | with_reducible assumption | omega)])) (by first | rfl | with_reducible assumption) ?_
    refine o_aload_n hC dX2_putWithout_30 (by rfl) ?_
    refine o_getf hC (fX2_21 hC rfl) dX2_putWithout_31 (by repeat (first | with_reducible assumption | (rw [rl_u_s]; done) | (rw [rl_u_s]; rfl) | rw [rl_u_n (by first | with_reducible assumption | omega)])) (by first | rfl | with_reducible assumption) ?_
    refine o_callV3 hC rl_BW_good rl_Ns_nw (by exact hB.2.2.2.2.2) YX0_both IX0_both VX0_both (mX2_139 hC) (by rw [hB.1]; exact ct_X0_both l D ids H0 _ _ (o + 1) (tu + 2) (o + 4) (o + 4) _ _ _ _ _ _ _ _ _ _ r1 v3 r2 r2 (by omega) (by omega) (by omega)) (by exact r1.1) rfl rfl (Nat.le_of_ble_eq_true rfl) (by rw [hB.2.1]; first | exact Nat.le_of_ble_eq_true rfl | (dsimp only; omega)) (by rw [hB.2.1]; first | exact Nat.le_of_ble_eq_true rfl | (dsimp only; omega)) (by rw [hB.2.1]; first | exact Nat.le_of_ble_eq_true rfl | (dsimp only; omega)) (by rw [hB.2.1]; first | exact Nat.le_of_ble_eq_true rfl | (dsimp only; omega)) dX2_putWithout_34 (fun v h_34 n_34 p_34 => ?_)
    obtain ⟨x2, rfl, rfl, s1⟩ := p_34
    have s2 := s1.f2
    have s3 := s1.ws r2 (by omega)
    have ho3 : op_sh ids h_34 o so gp := ho2.mk ⟨_, s1.1⟩ s3 (fun q q1 q2 q3 => s2 q (by omega) (by omega))
    have u3 : tp_at ids h_34 tu uc uf ug uk := u2.eqv (fun q q1 q2 => s2 q (by omega) (by omega))
    obtain ⟨v4, v5, v6⟩ := id u3
    obtain ⟨mf3, mg3, mk3, s4⟩ := s3
    have ht3 : tb_at ids h_34 a sz0 wd P0 S0 := ht0.eqv (fun q q1 q2 => (s2 q (by omega) (by omega)).trans (r3 q (by omega) (by omega)))
    have o3 := ho3.1
    try dsimp only [Option.toList, List.cons_append, List.nil_append]
    refine o_if_eq (tgt := 60) hC dX2_putWithout_37 (by decide) (fun c_37 => ?_) (fun c_37 => ?_)
    · refine o_iconst (v := nI 0) hC dX2_putWithout_60 (by decide +kernel) ?_
      refine o_zret hC hB dX2_putWithout_61 (by first | rfl | decide +kernel) (Nat.le_of_ble_eq_true rfl) (Nat.le_of_ble_eq_true rfl) ?_
      first
      | exact ⟨_, rfl, rfl, (by first | exact Or.inl rfl | exact Or.inr rfl), ⟨_, q1⟩, q2, fun q z1 z2 => (q3 q (by omega) (by omega)).trans ((s2 q (by omega) (by omega)).trans (r3 q (by omega) (by omega)))⟩
      | exact ⟨_, rfl, rfl, Or.inl rfl, ⟨_, ho3⟩, ⟨_, _, _, ht3⟩, fun q z1 z2 => (s2 q (by omega) (by omega)).trans (r3 q (by omega) (by omega))⟩
      | exact ⟨_, rfl, rfl, Or.inl rfl, ⟨_, ho2⟩, ht.eqv (fun q z1 z2 => r3 q (by omega) (by omega)), fun q z1 z2 => r3 q (by omega) (by omega)⟩
    · refine o_aload_n hC dX2_putWithout_40 (by rfl) ?_
      refine o_aload_n hC dX2_putWithout_41 (by rfl) ?_
      refine o_aload_n hC dX2_putWithout_42 (by rfl) ?_
      refine o_getf hC (fX2_109 hC rfl) dX2_putWithout_43 (by repeat (first | with_reducible assumption | (rw [rl_u_s]; done) | (rw [rl_u_s]; rfl) | rw [rl_u_n (by first | with_reducible assumption | omega)])) (by first | rfl | with_reducible assumption) ?_
      refine o_aload_n hC dX2_putWithout_46 (by rfl) ?_
      refine o_getf hC (fX2_21 hC rfl) dX2_putWithout_47 (by repeat (first | with_reducible assumption | (rw [rl_u_s]; done) | (rw [rl_u_s]; rfl) | rw [rl_u_n (by first | with_reducible assumption | omega)])) (by first | rfl | with_reducible assumption) ?_
      refine o_callV3 hC rl_BW_good rl_Ns_nw (by exact hB.2.2.2.2.2) YX2_put IX2_put VX2_put (mX2_99 hC) (by rw [hB.1]; exact ct_X2_put l D ids H0 _ _ o so a (o + 4) (tu + 1) sz0 wd _ _ P0 S0 _ _ _ ho3 ht3 v5 s4 (by omega) (by omega) (by omega) (by omega)) (by exact ho3.1) rfl rfl (Nat.le_of_ble_eq_true rfl) (by rw [hB.2.1]; first | exact Nat.le_of_ble_eq_true rfl | (dsimp only; omega)) (by rw [hB.2.1]; first | exact Nat.le_of_ble_eq_true rfl | (dsimp only; omega)) (by rw [hB.2.1]; first | exact Nat.le_of_ble_eq_true rfl | (dsimp only; omega)) (by rw [hB.2.1]; first | exact Nat.le_of_ble_eq_true rfl | (dsimp only; omega)) dX2_putWithout_50 (fun v h_50 n_50 p_50 => ?_)
      obtain ⟨x, rfl, rfl, q0, q1, q2, q3⟩ := p_50
      try dsimp only [Option.toList, List.cons_append, List.nil_append]
      refine o_if_eq (tgt := 60) hC dX2_putWithout_53 (by decide) (fun c_53 => ?_) (fun c_53 => ?_)
      · refine o_iconst (v := nI 0) hC dX2_putWithout_60 (by decide +kernel) ?_
        refine o_zret hC hB dX2_putWithout_61 (by first | rfl | decide +kernel) (Nat.le_of_ble_eq_true rfl) (Nat.le_of_ble_eq_true rfl) ?_
        first
        | exact ⟨_, rfl, rfl, (by first | exact Or.inl rfl | exact Or.inr rfl), ⟨_, q1⟩, q2, fun q z1 z2 => (q3 q (by omega) (by omega)).trans ((s2 q (by omega) (by omega)).trans (r3 q (by omega) (by omega)))⟩
        | exact ⟨_, rfl, rfl, Or.inl rfl, ⟨_, ho3⟩, ⟨_, _, _, ht3⟩, fun q z1 z2 => (s2 q (by omega) (by omega)).trans (r3 q (by omega) (by omega))⟩
        | exact ⟨_, rfl, rfl, Or.inl rfl, ⟨_, ho2⟩, ht.eqv (fun q z1 z2 => r3 q (by omega) (by omega)), fun q z1 z2 => r3 q (by omega) (by omega)⟩
      · refine o_iconst (v := nI 1) hC dX2_putWithout_56 (by decide +kernel) ?_
        refine o_goto (tgt := 61) hC dX2_putWithout_57 (by decide) ?_
        refine o_zret hC hB dX2_putWithout_61 (by first | rfl | decide +kernel) (Nat.le_of_ble_eq_true rfl) (Nat.le_of_ble_eq_true rfl) ?_
        first
        | exact ⟨_, rfl, rfl, (by first | exact Or.inl rfl | exact Or.inr rfl), ⟨_, q1⟩, q2, fun q z1 z2 => (q3 q (by omega) (by omega)).trans ((s2 q (by omega) (by omega)).trans (r3 q (by omega) (by omega)))⟩
        | exact ⟨_, rfl, rfl, Or.inl rfl, ⟨_, ho3⟩, ⟨_, _, _, ht3⟩, fun q z1 z2 => (s2 q (by omega) (by omega)).trans (r3 q (by omega) (by omega))⟩
        | exact ⟨_, rfl, rfl, Or.inl rfl, ⟨_, ho2⟩, ht.eqv (fun q z1 z2 => r3 q (by omega) (by omega)), fun q z1 z2 => r3 q (by omega) (by omega)⟩

set_option maxHeartbeats 4000000 in
set_option maxRecDepth 100000 in
theorem ct_X2_fillMinus (l : Launch) (D : va_G) (ids : Nat → ClassId) (H0 : Heap) (h : rl_H) (n : Nat) (o so a a1 sz1 wd wd1 : Nat) (gp : Nat → Option Nat) (P1 : Nat → Nat) (S1 : tb_S) (a2 sz2 wd2 : Nat) (P2 : Nat → Nat) (S2 : tb_S) (ho : op_sh ids h o so gp) (ht : tb_ok ids h a wd) (hi : tb_at ids h a1 sz1 wd1 P1 S1) (hoa : o + 22 ≤ a ∨ a + 402 ≤ o) (hoi : o + 22 ≤ a1 ∨ a1 + 402 ≤ o) (hia : a1 + 402 ≤ a ∨ a + 402 ≤ a1) (hj : tb_at ids h a2 sz2 wd2 P2 S2) (hoj : o + 22 ≤ a2 ∨ a2 + 402 ≤ o) (hja : a2 + 402 ≤ a ∨ a + 402 ≤ a2) : rl_Met l (rl_e D ids H0) rl_BW rl_Ns yX2_fillMinus cX2_fillMinus 8 (some .boolean) ({ frames := 5, cells := 0, slots := 0, locals := 172 }) [.ref o, .ref a1, .ref a2, .ref a] h n (fun v h' n' => ∃ x : Int32, v = some (.int x) ∧ n' = n ∧ (x = nI 0 ∨ x = nI 1) ∧ (∃ gp' : Nat → Option Nat, op_sh ids h' o so gp') ∧ tb_ok ids h' a wd ∧ rl_g2 h h' o (o + 22) a (a + 402)) := by
  refine rl_Met.of (by decide +kernel) (Nat.le_of_ble_eq_true rfl) ?_
  intro X hC hB
  have loop : ∀ (m t : Nat) (o5 o6 o7 : Option Value) (h1 : rl_H) (gp1 : Nat → Option Nat), t + m = sz1 → op_sh ids h1 o so gp1 → tb_ok ids h1 a wd → rl_g2 h h1 o (o + 22) a (a + 402) → rl_G X (rl_e D ids H0) 3 [some (.ref o), some (.ref a1), some (.ref a2), some (.ref a), some (.int (nI t)), o5, o6, o7] [] h1 n 0 0 := by
    intro m
    induction m with
    | zero =>
      intro t o5 o6 o7 h1 gp1 hm ho1 ht1 hf
      obtain ⟨t1, ⟨tf, t2, t3⟩, t4, t5, t6, t7⟩ := hi.eqv (h' := h1) (fun q q1 q2 => hf q (by omega) (by omega))
      refine o_iload hC dX2_fillMinus_3 (by rfl) ?_
      refine o_aload_n hC dX2_fillMinus_5 (by rfl) ?_
      refine o_getf hC (fX2_103 hC rfl) dX2_fillMinus_6 (by repeat (first | with_reducible assumption | (rw [rl_u_s]; done) | (rw [rl_u_s]; rfl) | rw [rl_u_n (by first | with_reducible assumption | omega)])) (by first | rfl | with_reducible assumption) ?_
      refine o_icmp_ge (tgt := 79) hC dX2_fillMinus_9 (by decide) (fun c_9 => ?_) (fun c_9 => ?_)
      · refine o_iconst (v := nI 1) hC dX2_fillMinus_79 (by decide +kernel) ?_
        refine o_zret hC hB dX2_fillMinus_80 (by first | rfl | decide +kernel) (Nat.le_of_ble_eq_true rfl) (Nat.le_of_ble_eq_true rfl) ?_
        exact ⟨_, rfl, rfl, Or.inr rfl, ⟨_, ho1⟩, ht1, hf⟩
      · exact absurd (nI_le (by omega) (by omega)) c_9
    | succ m ih =>
      intro t o5 o6 o7 h1 gp1 hm ho1 ht1 hf
      obtain ⟨t1, ⟨tf, t2, t3⟩, t4, t5, t6, t7⟩ := hi.eqv (h' := h1) (fun q q1 q2 => hf q (by omega) (by omega))
      have hj1 := hj.eqv (h' := h1) (fun q q1 q2 => hf q (by omega) (by omega))
      obtain ⟨sz0, P0, S0, ht0⟩ := id ht1
      have hb := t4 t (by omega)
      have e0 := t5 (P1 t) hb
      obtain ⟨e1, e2, e3⟩ := id e0
      refine o_iload hC dX2_fillMinus_3 (by rfl) ?_
      refine o_aload_n hC dX2_fillMinus_5 (by rfl) ?_
      refine o_getf hC (fX2_103 hC rfl) dX2_fillMinus_6 (by repeat (first | with_reducible assumption | (rw [rl_u_s]; done) | (rw [rl_u_s]; rfl) | rw [rl_u_n (by first | with_reducible assumption | omega)])) (by first | rfl | with_reducible assumption) ?_
      refine o_icmp_ge (tgt := 79) hC dX2_fillMinus_9 (by decide) (fun c_9 => ?_) (fun c_9 => ?_)
      · exact absurd c_9 (nI_ge (by omega) (by omega))
      · refine o_aload_n hC dX2_fillMinus_12 (by rfl) ?_
        refine o_getf hC (fX2_106 hC rfl) dX2_fillMinus_13 (by repeat (first | with_reducible assumption | (rw [rl_u_s]; done) | (rw [rl_u_s]; rfl) | rw [rl_u_n (by first | with_reducible assumption | omega)])) (by first | rfl | with_reducible assumption) ?_
        refine o_iload hC dX2_fillMinus_16 (by rfl) ?_
        refine o_aaldN (t0 := 3) hC rfl dX2_fillMinus_18 (by repeat (first | with_reducible assumption | (rw [rl_u_s]; done) | (rw [rl_u_s]; rfl) | rw [rl_u_n (by first | with_reducible assumption | omega)])) (by omega) (by decide) ?_
        rw [t3 _ (by omega)]
        show rl_G X _ _ _ (.ref _ :: _) _ _ _ _
        refine o_astore hC dX2_fillMinus_19 (Nat.le_of_ble_eq_true rfl) ?_
        refine o_aload_n hC dX2_fillMinus_21 (by rfl) ?_
        refine o_aload hC dX2_fillMinus_22 (by rfl) ?_
        refine o_getf hC (fX2_109 hC rfl) dX2_fillMinus_24 (by repeat (first | with_reducible assumption | (rw [rl_u_s]; done) | (rw [rl_u_s]; rfl) | rw [rl_u_n (by first | with_reducible assumption | omega)])) (by first | rfl | with_reducible assumption) ?_
        refine o_callV1 hC rl_BW_good rl_Ns_nw (by exact hB.2.2.2.2.2) YX4_find IX4_find VX4_find (mX2_143 hC) (by rw [hB.1]; exact ct_X4_find l D ids H0 _ _ a2 sz2 wd2 (a1 + 2 + 5 * P1 t + 1) P2 S2 _ hj1 e2) (by exact hj1.1) rfl rfl (Nat.le_of_ble_eq_true rfl) (by rw [hB.2.1]; first | exact Nat.le_of_ble_eq_true rfl | (dsimp only; omega)) (by rw [hB.2.1]; first | exact Nat.le_of_ble_eq_true rfl | (dsimp only; omega)) (by rw [hB.2.1]; first | exact Nat.le_of_ble_eq_true rfl | (dsimp only; omega)) (by rw [hB.2.1]; first | exact Nat.le_of_ble_eq_true rfl | (dsimp only; omega)) dX2_fillMinus_27 (fun v h_27 n_27 p_27 => ?_)
        obtain ⟨e9, rfl, rfl⟩ := p_27
        try dsimp only [Option.toList, List.cons_append, List.nil_append]
        split at e9
        · obtain ⟨i2, hi2, rfl⟩ : ∃ i2 : Nat, i2 < 80 ∧ v = some (.ref (a2 + 2 + 5 * i2)) := ⟨_, hj1.2.2.1 _ (by have := tb_fb_le (tb_o S2 P2 (S1.1 (P1 t)) wd2) sz2; have := hj1.2.2.2.2.1; omega), e9⟩
          try dsimp only [Option.toList, List.cons_append, List.nil_append]
          refine o_astore hC dX2_fillMinus_30 (Nat.le_of_ble_eq_true rfl) ?_
          refine o_aload hC dX2_fillMinus_32 (by rfl) ?_
          refine o_ifnonnull (tgt := 55) hC dX2_fillMinus_34 (by decide) ?_
          refine o_aload_n hC dX2_fillMinus_55 (by rfl) ?_
          refine o_aload hC dX2_fillMinus_56 (by rfl) ?_
          refine o_aload hC dX2_fillMinus_58 (by rfl) ?_
          refine o_aload_n hC dX2_fillMinus_60 (by rfl) ?_
          refine o_callV3 hC rl_BW_good rl_Ns_nw (by exact hB.2.2.2.2.2) YX2_putWithout IX2_putWithout VX2_putWithout (mX2_147 hC) (by rw [hB.1]; exact ct_X2_putWithout l D ids H0 _ _ o so a wd (a1 + 2 + 5 * P1 t) (a2 + 2 + 5 * i2) _ _ _ _ _ _ _ _ _ ho1 ht1 e0 (hj1.2.2.2.1 i2 hi2) (by omega) (by omega) (by omega) (by omega) (by omega)) (by exact ho1.1) rfl rfl (Nat.le_of_ble_eq_true rfl) (by rw [hB.2.1]; first | exact Nat.le_of_ble_eq_true rfl | (dsimp only; omega)) (by rw [hB.2.1]; first | exact Nat.le_of_ble_eq_true rfl | (dsimp only; omega)) (by rw [hB.2.1]; first | exact Nat.le_of_ble_eq_true rfl | (dsimp only; omega)) (by rw [hB.2.1]; first | exact Nat.le_of_ble_eq_true rfl | (dsimp only; omega)) dX2_fillMinus_61 (fun v h_61 n_61 p_61 => ?_)
          obtain ⟨x, rfl, rfl, q0, ⟨gp2, q1⟩, q2, q3⟩ := p_61
          try dsimp only [Option.toList, List.cons_append, List.nil_append]
          refine o_istore hC dX2_fillMinus_64 (Nat.le_of_ble_eq_true rfl) ?_
          refine o_iload hC dX2_fillMinus_66 (by rfl) ?_
          refine o_if_ne (tgt := 73) hC dX2_fillMinus_68 (by decide) (fun c_68 => ?_) (fun c_68 => ?_)
          · refine o_iinc hC dX2_fillMinus_73 (by rfl) (rl_inc _) (Nat.le_of_ble_eq_true rfl) ?_
            refine o_goto (tgt := 3) hC dX2_fillMinus_76 (by decide) ?_
            exact ih (t + 1) _ _ _ _ _ (by omega) q1 q2 (hf.tr (q3.wd (by omega) (by omega) (Nat.le_refl _) (Nat.le_refl _)))
          · refine o_iconst (v := nI 0) hC dX2_fillMinus_71 (by decide +kernel) ?_
            refine o_zret hC hB dX2_fillMinus_72 (by first | rfl | decide +kernel) (Nat.le_of_ble_eq_true rfl) (Nat.le_of_ble_eq_true rfl) ?_
            exact ⟨_, rfl, rfl, Or.inl rfl, ⟨_, q1⟩, q2, hf.tr (q3.wd (by omega) (by omega) (Nat.le_refl _) (Nat.le_refl _))⟩
        · obtain rfl : v = some .null := e9
          try dsimp only [Option.toList, List.cons_append, List.nil_append]
          refine o_astoreN hC dX2_fillMinus_30 (Nat.le_of_ble_eq_true rfl) ?_
          refine o_aloadN hC dX2_fillMinus_32 (by rfl) ?_
          refine o_ifnonnullN hC dX2_fillMinus_34 ?_
          refine o_aload_n hC dX2_fillMinus_37 (by rfl) ?_
          refine o_aload_n hC dX2_fillMinus_38 (by rfl) ?_
          refine o_aload hC dX2_fillMinus_39 (by rfl) ?_
          refine o_getf hC (fX2_109 hC rfl) dX2_fillMinus_41 (by repeat (first | with_reducible assumption | (rw [rl_u_s]; done) | (rw [rl_u_s]; rfl) | rw [rl_u_n (by first | with_reducible assumption | omega)])) (by first | rfl | with_reducible assumption) ?_
          refine o_aload hC dX2_fillMinus_44 (by rfl) ?_
          refine o_getf hC (fX2_116 hC rfl) dX2_fillMinus_46 (by repeat (first | with_reducible assumption | (rw [rl_u_s]; done) | (rw [rl_u_s]; rfl) | rw [rl_u_n (by first | with_reducible assumption | omega)])) (by first | rfl | with_reducible assumption) ?_
          refine o_callV3 hC rl_BW_good rl_Ns_nw (by exact hB.2.2.2.2.2) YX2_put IX2_put VX2_put (mX2_99 hC) (by rw [hB.1]; exact ct_X2_put l D ids H0 _ _ o so a (a1 + 2 + 5 * P1 t + 2) (a1 + 2 + 5 * P1 t + 1) sz0 wd _ _ P0 S0 _ _ _ ho1 ht0 e2 e3 (by omega) (by omega) (by omega) (by omega)) (by exact ho1.1) rfl rfl (Nat.le_of_ble_eq_true rfl) (by rw [hB.2.1]; first | exact Nat.le_of_ble_eq_true rfl | (dsimp only; omega)) (by rw [hB.2.1]; first | exact Nat.le_of_ble_eq_true rfl | (dsimp only; omega)) (by rw [hB.2.1]; first | exact Nat.le_of_ble_eq_true rfl | (dsimp only; omega)) (by rw [hB.2.1]; first | exact Nat.le_of_ble_eq_true rfl | (dsimp only; omega)) dX2_fillMinus_49 (fun v h_49 n_49 p_49 => ?_)
          obtain ⟨x, rfl, rfl, q0, q1, q2, q3⟩ := p_49
          try dsimp only [Option.toList, List.cons_append, List.nil_append]
          refine o_goto (tgt := 64) hC dX2_fillMinus_52 (by decide) ?_
          refine o_istore hC dX2_fillMinus_64 (Nat.le_of_ble_eq_true rfl) ?_
          refine o_iload hC dX2_fillMinus_66 (by rfl) ?_
          refine o_if_ne (tgt := 73) hC dX2_fillMinus_68 (by decide) (fun c_68 => ?_) (fun c_68 => ?_)
          · refine o_iinc hC dX2_fillMinus_73 (by rfl) (rl_inc _) (Nat.le_of_ble_eq_true rfl) ?_
            refine o_goto (tgt := 3) hC dX2_fillMinus_76 (by decide) ?_
            exact ih (t + 1) _ _ _ _ _ (by omega) q1 q2 (hf.tr (q3.wd (by omega) (by omega) (Nat.le_refl _) (Nat.le_refl _)))
          · refine o_iconst (v := nI 0) hC dX2_fillMinus_71 (by decide +kernel) ?_
            refine o_zret hC hB dX2_fillMinus_72 (by first | rfl | decide +kernel) (Nat.le_of_ble_eq_true rfl) (Nat.le_of_ble_eq_true rfl) ?_
            exact ⟨_, rfl, rfl, Or.inl rfl, ⟨_, q1⟩, q2, hf.tr (q3.wd (by omega) (by omega) (Nat.le_refl _) (Nat.le_refl _))⟩
  show rl_G X (rl_e D ids H0) 0 [some (.ref o), some (.ref a1), some (.ref a2), some (.ref a), none, none, none, none] [] h n 0 0
  refine o_iconst (v := nI 0) hC dX2_fillMinus_0 (by decide +kernel) ?_
  refine o_istore hC dX2_fillMinus_1 (Nat.le_of_ble_eq_true rfl) ?_
  exact loop sz1 0 _ _ _ h gp (by omega) ho ht rl_g2.rf
end
section
/-! Operators by shapes: putPair, fillJoin, fillCols -/
/-- the key is another -/
theorem op_sh.ky {ids : Nat → ClassId} {h h' : rl_H} {o so : Nat} {gp : Nat → Option Nat} {kc : Nat → Int32} (H : op_sh ids h o so gp) (hk : h' (o + 9) = some (.inl (ids 0, 6, .inl kc))) (he : ∀ q, o ≤ q → q < o + 22 → q ≠ o + 9 → h' q = h q) : op_sh ids h' o so gp := by
  obtain ⟨h1, h2, h3, ⟨tp, h4, h5⟩, h6, h7, h8⟩ := H
  exact ⟨by rw [he o (by omega) (by omega) (by omega)]; exact h1, h2.eqv (fun q a b => he q (by omega) (by omega) (by omega)), h3.eqv (fun q a b => he q (by omega) (by omega) (by omega)), ⟨tp, by rw [he (o + 7) (by omega) (by omega) (by omega)]; exact h4, h5⟩, by rw [he (o + 8) (by omega) (by omega) (by omega)]; exact h6, ⟨_, hk⟩, fun m hm => (h8 m hm).eqv (fun q a b => he q (by omega) (by omega) (by omega))⟩

set_option maxHeartbeats 4000000 in
set_option maxRecDepth 100000 in
theorem ct_X2_putPair (l : Launch) (D : va_G) (ids : Nat → ClassId) (H0 : Heap) (h : rl_H) (n : Nat) (o so a a1 sz1 wd wd1 : Nat) (gp : Nat → Option Nat) (P1 : Nat → Nat) (S1 : tb_S) (a2 sz2 wd2 t u : Nat) (P2 : Nat → Nat) (S2 : tb_S) (ho : op_sh ids h o so gp) (ht : tb_ok ids h a wd) (hi : tb_at ids h a1 sz1 wd1 P1 S1) (hoa : o + 22 ≤ a ∨ a + 402 ≤ o) (hoi : o + 22 ≤ a1 ∨ a1 + 402 ≤ o) (hia : a1 + 402 ≤ a ∨ a + 402 ≤ a1) (hj : tb_at ids h a2 sz2 wd2 P2 S2) (hoj : o + 22 ≤ a2 ∨ a2 + 402 ≤ o) (hja : a2 + 402 ≤ a ∨ a + 402 ≤ a2) (ht1 : t < sz1) (hu1 : u < sz2) (hwd : wd1 + wd2 ≤ 6) : rl_Met l (rl_e D ids H0) rl_BW rl_Ns yX2_putPair cX2_putPair 6 (some .boolean) ({ frames := 4, cells := 0, slots := 0, locals := 149 }) [.ref o, .ref a1, .int (nI t), .ref a2, .int (nI u), .ref a] h n (fun v h' n' => ∃ x : Int32, v = some (.int x) ∧ n' = n ∧ (x = nI 0 ∨ x = nI 1) ∧ (∃ gp' : Nat → Option Nat, op_sh ids h' o so gp') ∧ tb_ok ids h' a wd ∧ rl_g2 h h' o (o + 22) a (a + 402)) := by
  obtain ⟨o0, ⟨ds, od⟩, ⟨mf, mg, mk, om⟩, ⟨tp, o7, o7b⟩, o8, ⟨kc, o9⟩, ot⟩ := id ho
  obtain ⟨sz0, P0, S0, ht0⟩ := id ht
  obtain ⟨t1, ⟨tf, t2, t3⟩, t4, t5, t6, t7⟩ := id hi
  obtain ⟨j1, ⟨jf, j2, j3⟩, j4, j5, j6, j7⟩ := id hj
  have hb := t4 t (by omega)
  have hb2 := j4 u (by omega)
  obtain ⟨e1, e2, e3⟩ := t5 (P1 t) hb
  obtain ⟨g1, g2, g3⟩ := j5 (P2 u) hb2
  refine rl_Met.of (by decide +kernel) (Nat.le_of_ble_eq_true rfl) ?_
  intro X hC hB
  show rl_G X (rl_e D ids H0) 0 [some (.ref o), some (.ref a1), some (.int (nI t)), some (.ref a2), some (.int (nI u)), some (.ref a)] [] h n 0 0
  refine o_aload_n hC dX2_putPair_0 (by rfl) ?_
  refine o_getf hC (fX2_106 hC rfl) dX2_putPair_1 (by repeat (first | with_reducible assumption | (rw [rl_u_s]; done) | (rw [rl_u_s]; rfl) | rw [rl_u_n (by first | with_reducible assumption | omega)])) (by first | rfl | with_reducible assumption) ?_
  refine o_iload_n hC dX2_putPair_4 (by rfl) ?_
  refine o_aaldN (t0 := 3) hC rfl dX2_putPair_5 (by repeat (first | with_reducible assumption | (rw [rl_u_s]; done) | (rw [rl_u_s]; rfl) | rw [rl_u_n (by first | with_reducible assumption | omega)])) (by omega) (by decide) ?_
  rw [t3 _ (by omega)]
  show rl_G X _ _ _ (.ref _ :: _) _ _ _ _
  refine o_getf hC (fX2_109 hC rfl) dX2_putPair_6 (by repeat (first | with_reducible assumption | (rw [rl_u_s]; done) | (rw [rl_u_s]; rfl) | rw [rl_u_n (by first | with_reducible assumption | omega)])) (by first | rfl | with_reducible assumption) ?_
  refine o_iconst (v := nI 0) hC dX2_putPair_9 (by decide +kernel) ?_
  refine o_aload_n hC dX2_putPair_10 (by rfl) ?_
  refine o_getf hC (fX2_35 hC rfl) dX2_putPair_11 (by repeat (first | with_reducible assumption | (rw [rl_u_s]; done) | (rw [rl_u_s]; rfl) | rw [rl_u_n (by first | with_reducible assumption | omega)])) (by first | rfl | with_reducible assumption) ?_
  refine o_iconst (v := nI 0) hC dX2_putPair_14 (by decide +kernel) ?_
  refine o_aload_n hC dX2_putPair_15 (by rfl) ?_
  refine o_getf hC (fX2_132 hC rfl) dX2_putPair_16 (by repeat (first | with_reducible assumption | (rw [rl_u_s]; done) | (rw [rl_u_s]; rfl) | rw [rl_u_n (by first | with_reducible assumption | omega)])) (by first | rfl | with_reducible assumption) ?_
  refine o_copyi (t0 := 0) (sp := 0) (dp := 0) (k := wd1) hC (by exact hB.2.2.2.2.2) acX2_133 w_acN w_acS w_acI rfl rfl dX2_putPair_19 e2 o9 (by omega) (by omega) (by decide) (by decide) (by rw [hB.2.1]; first | exact Nat.le_of_ble_eq_true rfl | (dsimp only; omega)) (by rw [hB.2.1]; first | exact Nat.le_of_ble_eq_true rfl | (dsimp only; omega)) ?_
  refine o_aload_n hC dX2_putPair_22 (by rfl) ?_
  refine o_getf hC (fX2_106 hC rfl) dX2_putPair_23 (by repeat (first | with_reducible assumption | (rw [rl_u_s]; done) | (rw [rl_u_s]; rfl) | rw [rl_u_n (by first | with_reducible assumption | omega)])) (by first | rfl | with_reducible assumption) ?_
  refine o_iload hC dX2_putPair_26 (by rfl) ?_
  refine o_aaldN (t0 := 3) hC rfl dX2_putPair_28 (by repeat (first | with_reducible assumption | (rw [rl_u_s]; done) | (rw [rl_u_s]; rfl) | rw [rl_u_n (by first | with_reducible assumption | omega)])) (by omega) (by decide) ?_
  rw [j3 _ (by omega)]
  show rl_G X _ _ _ (.ref _ :: _) _ _ _ _
  refine o_getf hC (fX2_109 hC rfl) dX2_putPair_29 (by repeat (first | with_reducible assumption | (rw [rl_u_s]; done) | (rw [rl_u_s]; rfl) | rw [rl_u_n (by first | with_reducible assumption | omega)])) (by first | rfl | with_reducible assumption) ?_
  refine o_iconst (v := nI 0) hC dX2_putPair_32 (by decide +kernel) ?_
  refine o_aload_n hC dX2_putPair_33 (by rfl) ?_
  refine o_getf hC (fX2_35 hC rfl) dX2_putPair_34 (by repeat (first | with_reducible assumption | (rw [rl_u_s]; done) | (rw [rl_u_s]; rfl) | rw [rl_u_n (by first | with_reducible assumption | omega)])) (by first | rfl | with_reducible assumption) ?_
  refine o_aload_n hC dX2_putPair_37 (by rfl) ?_
  refine o_getf hC (fX2_132 hC rfl) dX2_putPair_38 (by repeat (first | with_reducible assumption | (rw [rl_u_s]; done) | (rw [rl_u_s]; rfl) | rw [rl_u_n (by first | with_reducible assumption | omega)])) (by first | rfl | with_reducible assumption) ?_
  refine o_aload_n hC dX2_putPair_41 (by rfl) ?_
  refine o_getf hC (fX2_132 hC rfl) dX2_putPair_42 (by repeat (first | with_reducible assumption | (rw [rl_u_s]; done) | (rw [rl_u_s]; rfl) | rw [rl_u_n (by first | with_reducible assumption | omega)])) (by first | rfl | with_reducible assumption) ?_
  refine o_copyi (t0 := 0) (sp := 0) (dp := wd1) (k := wd2) hC (by exact hB.2.2.2.2.2) acX2_133 w_acN w_acS w_acI rfl rfl dX2_putPair_45 (by repeat (first | with_reducible assumption | (rw [rl_u_s]; done) | (rw [rl_u_s]; rfl) | rw [rl_u_n (by first | with_reducible assumption | omega)])) rl_u_s (by omega) (by omega) (by decide) (by decide) (by rw [hB.2.1]; first | exact Nat.le_of_ble_eq_true rfl | (dsimp only; omega)) (by rw [hB.2.1]; first | exact Nat.le_of_ble_eq_true rfl | (dsimp only; omega)) ?_
  have f9 : ∀ q, q ≠ o + 9 → (rl_u (rl_u h (o + 9) (.inl (ids 0, 6, .inl (va_cpy (S1.1 (P1 t)) kc 0 0 wd1)))) (o + 9) (.inl (ids 0, 6, .inl (va_cpy (S2.1 (P2 u)) (va_cpy (S1.1 (P1 t)) kc 0 0 wd1) 0 wd1 wd2)))) q = h q := fun q hq => by rw [rl_u_n hq, rl_u_n hq]
  have k9 : (rl_u (rl_u h (o + 9) (.inl (ids 0, 6, .inl (va_cpy (S1.1 (P1 t)) kc 0 0 wd1)))) (o + 9) (.inl (ids 0, 6, .inl (va_cpy (S2.1 (P2 u)) (va_cpy (S1.1 (P1 t)) kc 0 0 wd1) 0 wd1 wd2)))) (o + 9) = some (.inl (ids 0, 6, .inl (va_cpy (S2.1 (P2 u)) (va_cpy (S1.1 (P1 t)) kc 0 0 wd1) 0 wd1 wd2))) := rl_u_s
  generalize (rl_u (rl_u h (o + 9) (.inl (ids 0, 6, .inl (va_cpy (S1.1 (P1 t)) kc 0 0 wd1)))) (o + 9) (.inl (ids 0, 6, .inl (va_cpy (S2.1 (P2 u)) (va_cpy (S1.1 (P1 t)) kc 0 0 wd1) 0 wd1 wd2)))) = hh at f9 k9 ⊢
  have ho2 : op_sh ids hh o so gp := ho.ky k9 (fun q q1 q2 q3 => f9 q q3)
  obtain ⟨z0, ⟨zs, zd⟩, ⟨zf, zg, zk, zm⟩, -, -, -, -⟩ := id ho2
  have ht2 : tb_at ids hh a sz0 wd P0 S0 := ht0.eqv (fun q q1 q2 => f9 q (by omega))
  obtain ⟨b1, ⟨bf, b2, b3⟩, b4, b5, -⟩ := hi.eqv (h' := hh) (fun q q1 q2 => f9 q (by omega))
  obtain ⟨d1, ⟨df, d2, d3⟩, d4, d5, -⟩ := hj.eqv (h' := hh) (fun q q1 q2 => f9 q (by omega))
  obtain ⟨x1, x2, x3⟩ := b5 (P1 t) hb
  obtain ⟨y1, y2, y3⟩ := d5 (P2 u) hb2
  refine o_aload_n hC dX2_putPair_48 (by rfl) ?_
  refine o_getf hC (fX2_12 hC rfl) dX2_putPair_49 (by repeat (first | with_reducible assumption | (rw [rl_u_s]; done) | (rw [rl_u_s]; rfl) | rw [rl_u_n (by first | with_reducible assumption | omega)])) (by first | rfl | with_reducible assumption) ?_
  refine o_aload_n hC dX2_putPair_52 (by rfl) ?_
  refine o_getf hC (fX2_106 hC rfl) dX2_putPair_53 (by repeat (first | with_reducible assumption | (rw [rl_u_s]; done) | (rw [rl_u_s]; rfl) | rw [rl_u_n (by first | with_reducible assumption | omega)])) (by first | rfl | with_reducible assumption) ?_
  refine o_iload_n hC dX2_putPair_56 (by rfl) ?_
  refine o_aaldN (t0 := 3) hC rfl dX2_putPair_57 (by repeat (first | with_reducible assumption | (rw [rl_u_s]; done) | (rw [rl_u_s]; rfl) | rw [rl_u_n (by first | with_reducible assumption | omega)])) (by omega) (by decide) ?_
  rw [b3 _ (by omega)]
  show rl_G X _ _ _ (.ref _ :: _) _ _ _ _
  refine o_getf hC (fX2_116 hC rfl) dX2_putPair_58 (by repeat (first | with_reducible assumption | (rw [rl_u_s]; done) | (rw [rl_u_s]; rfl) | rw [rl_u_n (by first | with_reducible assumption | omega)])) (by first | rfl | with_reducible assumption) ?_
  refine o_aload_n hC dX2_putPair_61 (by rfl) ?_
  refine o_getf hC (fX2_106 hC rfl) dX2_putPair_62 (by repeat (first | with_reducible assumption | (rw [rl_u_s]; done) | (rw [rl_u_s]; rfl) | rw [rl_u_n (by first | with_reducible assumption | omega)])) (by first | rfl | with_reducible assumption) ?_
  refine o_iload hC dX2_putPair_65 (by rfl) ?_
  refine o_aaldN (t0 := 3) hC rfl dX2_putPair_67 (by repeat (first | with_reducible assumption | (rw [rl_u_s]; done) | (rw [rl_u_s]; rfl) | rw [rl_u_n (by first | with_reducible assumption | omega)])) (by omega) (by decide) ?_
  rw [d3 _ (by omega)]
  show rl_G X _ _ _ (.ref _ :: _) _ _ _ _
  refine o_getf hC (fX2_116 hC rfl) dX2_putPair_68 (by repeat (first | with_reducible assumption | (rw [rl_u_s]; done) | (rw [rl_u_s]; rfl) | rw [rl_u_n (by first | with_reducible assumption | omega)])) (by first | rfl | with_reducible assumption) ?_
  refine o_aload_n hC dX2_putPair_71 (by rfl) ?_
  refine o_getf hC (fX2_21 hC rfl) dX2_putPair_72 (by repeat (first | with_reducible assumption | (rw [rl_u_s]; done) | (rw [rl_u_s]; rfl) | rw [rl_u_n (by first | with_reducible assumption | omega)])) (by first | rfl | with_reducible assumption) ?_
  refine o_callV3 hC rl_BW_good rl_Ns_nw (by exact hB.2.2.2.2.2) YX0_both IX0_both VX0_both (mX2_139 hC) (by rw [hB.1]; exact ct_X0_both l D ids H0 _ _ (o + 1) (a1 + 2 + 5 * P1 t + 2) (a2 + 2 + 5 * P2 u + 2) (o + 4) _ _ _ _ _ _ _ _ _ _ zd x3 y3 zm (by omega) (by omega) (by omega)) (by exact zd.1) rfl rfl (Nat.le_of_ble_eq_true rfl) (by rw [hB.2.1]; first | exact Nat.le_of_ble_eq_true rfl | (dsimp only; omega)) (by rw [hB.2.1]; first | exact Nat.le_of_ble_eq_true rfl | (dsimp only; omega)) (by rw [hB.2.1]; first | exact Nat.le_of_ble_eq_true rfl | (dsimp only; omega)) (by rw [hB.2.1]; first | exact Nat.le_of_ble_eq_true rfl | (dsimp only; omega)) dX2_putPair_75 (fun v h_75 n_75 p_75 => ?_)
  obtain ⟨x0, rfl, rfl, s1⟩ := p_75
  have s2 := s1.f2
  have s3 := s1.ws zm (by omega)
  have ho3 : op_sh ids h_75 o so gp := ho2.mk ⟨_, s1.1⟩ s3 (fun q q1 q2 q3 => s2 q (by omega) (by omega))
  obtain ⟨mf3, mg3, mk3, s4⟩ := s3
  have ht3 : tb_at ids h_75 a sz0 wd P0 S0 := ht2.eqv (fun q q1 q2 => s2 q (by omega) (by omega))
  have o3 := ho3.1
  have k3 := (s2 (o + 9) (by omega) (by omega)).trans k9
  try dsimp only [Option.toList, List.cons_append, List.nil_append]
  refine o_if_eq (tgt := 102) hC dX2_putPair_78 (by decide) (fun c_78 => ?_) (fun c_78 => ?_)
  · refine o_iconst (v := nI 0) hC dX2_putPair_102 (by decide +kernel) ?_
    refine o_zret hC hB dX2_putPair_103 (by first | rfl | decide +kernel) (Nat.le_of_ble_eq_true rfl) (Nat.le_of_ble_eq_true rfl) ?_
    first
    | exact ⟨_, rfl, rfl, (by first | exact Or.inl rfl | exact Or.inr rfl), ⟨_, q1⟩, q2, fun q z1 z2 => (q3 q (by omega) (by omega)).trans ((s2 q (by omega) (by omega)).trans (f9 q (by omega)))⟩
    | exact ⟨_, rfl, rfl, Or.inl rfl, ⟨_, ho3⟩, ⟨_, _, _, ht3⟩, fun q z1 z2 => (s2 q (by omega) (by omega)).trans (f9 q (by omega))⟩
  · refine o_aload_n hC dX2_putPair_81 (by rfl) ?_
    refine o_aload hC dX2_putPair_82 (by rfl) ?_
    refine o_aload_n hC dX2_putPair_84 (by rfl) ?_
    refine o_getf hC (fX2_35 hC rfl) dX2_putPair_85 (by repeat (first | with_reducible assumption | (rw [rl_u_s]; done) | (rw [rl_u_s]; rfl) | rw [rl_u_n (by first | with_reducible assumption | omega)])) (by first | rfl | with_reducible assumption) ?_
    refine o_aload_n hC dX2_putPair_88 (by rfl) ?_
    refine o_getf hC (fX2_21 hC rfl) dX2_putPair_89 (by repeat (first | with_reducible assumption | (rw [rl_u_s]; done) | (rw [rl_u_s]; rfl) | rw [rl_u_n (by first | with_reducible assumption | omega)])) (by first | rfl | with_reducible assumption) ?_
    refine o_callV3 hC rl_BW_good rl_Ns_nw (by exact hB.2.2.2.2.2) YX2_put IX2_put VX2_put (mX2_99 hC) (by rw [hB.1]; exact ct_X2_put l D ids H0 _ _ o so a (o + 4) (o + 9) sz0 wd _ _ P0 S0 _ _ _ ho3 ht3 k3 s4 (by omega) (by omega) (by omega) (by omega)) (by exact ho3.1) rfl rfl (Nat.le_of_ble_eq_true rfl) (by rw [hB.2.1]; first | exact Nat.le_of_ble_eq_true rfl | (dsimp only; omega)) (by rw [hB.2.1]; first | exact Nat.le_of_ble_eq_true rfl | (dsimp only; omega)) (by rw [hB.2.1]; first | exact Nat.le_of_ble_eq_true rfl | (dsimp only; omega)) (by rw [hB.2.1]; first | exact Nat.le_of_ble_eq_true rfl | (dsimp only; omega)) dX2_putPair_92 (fun v h_92 n_92 p_92 => ?_)
    obtain ⟨x, rfl, rfl, q0, q1, q2, q3⟩ := p_92
    try dsimp only [Option.toList, List.cons_append, List.nil_append]
    refine o_if_eq (tgt := 102) hC dX2_putPair_95 (by decide) (fun c_95 => ?_) (fun c_95 => ?_)
    · refine o_iconst (v := nI 0) hC dX2_putPair_102 (by decide +kernel) ?_
      refine o_zret hC hB dX2_putPair_103 (by first | rfl | decide +kernel) (Nat.le_of_ble_eq_true rfl) (Nat.le_of_ble_eq_true rfl) ?_
      first
      | exact ⟨_, rfl, rfl, (by first | exact Or.inl rfl | exact Or.inr rfl), ⟨_, q1⟩, q2, fun q z1 z2 => (q3 q (by omega) (by omega)).trans ((s2 q (by omega) (by omega)).trans (f9 q (by omega)))⟩
      | exact ⟨_, rfl, rfl, Or.inl rfl, ⟨_, ho3⟩, ⟨_, _, _, ht3⟩, fun q z1 z2 => (s2 q (by omega) (by omega)).trans (f9 q (by omega))⟩
    · refine o_iconst (v := nI 1) hC dX2_putPair_98 (by decide +kernel) ?_
      refine o_goto (tgt := 103) hC dX2_putPair_99 (by decide) ?_
      refine o_zret hC hB dX2_putPair_103 (by first | rfl | decide +kernel) (Nat.le_of_ble_eq_true rfl) (Nat.le_of_ble_eq_true rfl) ?_
      first
      | exact ⟨_, rfl, rfl, (by first | exact Or.inl rfl | exact Or.inr rfl), ⟨_, q1⟩, q2, fun q z1 z2 => (q3 q (by omega) (by omega)).trans ((s2 q (by omega) (by omega)).trans (f9 q (by omega)))⟩
      | exact ⟨_, rfl, rfl, Or.inl rfl, ⟨_, ho3⟩, ⟨_, _, _, ht3⟩, fun q z1 z2 => (s2 q (by omega) (by omega)).trans (f9 q (by omega))⟩

set_option maxHeartbeats 4000000 in
set_option maxRecDepth 100000 in
theorem ct_X2_fillJoin (l : Launch) (D : va_G) (ids : Nat → ClassId) (H0 : Heap) (h : rl_H) (n : Nat) (o so a a1 sz1 wd wd1 : Nat) (gp : Nat → Option Nat) (P1 : Nat → Nat) (S1 : tb_S) (a2 sz2 wd2 nd c4 c5 : Nat) (P2 : Nat → Nat) (S2 : tb_S) (f0 f1 f2 f3 f6 f7 f8 : Int32) (ho : op_sh ids h o so gp) (ht : tb_ok ids h a wd) (hi : tb_at ids h a1 sz1 wd1 P1 S1) (hoa : o + 22 ≤ a ∨ a + 402 ≤ o) (hoi : o + 22 ≤ a1 ∨ a1 + 402 ≤ o) (hia : a1 + 402 ≤ a ∨ a + 402 ≤ a1) (hj : tb_at ids h a2 sz2 wd2 P2 S2) (hoj : o + 22 ≤ a2 ∨ a2 + 402 ≤ o) (hja : a2 + 402 ≤ a ∨ a + 402 ≤ a2) (hnd : h nd = some (.inr (1, [.int f0, .int f1, .int f2, .int f3, .int (nI c4), .int (nI c5), .int f6, .int f7, .int f8]))) (h4 : c4 < 6) (h5 : c5 < 6) (hno : nd < o ∨ o + 22 ≤ nd) (hna : nd < a ∨ a + 402 ≤ nd) (hwd : wd1 + wd2 ≤ 6) : rl_Met l (rl_e D ids H0) rl_BW rl_Ns yX2_fillJoin cX2_fillJoin 8 (some .boolean) ({ frames := 5, cells := 0, slots := 0, locals := 174 }) [.ref o, .ref nd, .ref a1, .ref a2, .ref a] h n (fun v h' n' => ∃ x : Int32, v = some (.int x) ∧ n' = n ∧ (x = nI 0 ∨ x = nI 1) ∧ (∃ gp' : Nat → Option Nat, op_sh ids h' o so gp') ∧ tb_ok ids h' a wd ∧ rl_g2 h h' o (o + 22) a (a + 402)) := by
  refine rl_Met.of (by decide +kernel) (Nat.le_of_ble_eq_true rfl) ?_
  intro X hC hB
  have loop : ∀ (m t : Nat) (o6 o7 : Option Value) (h1 : rl_H) (gp1 : Nat → Option Nat), t + m = sz1 → op_sh ids h1 o so gp1 → tb_ok ids h1 a wd → rl_g2 h h1 o (o + 22) a (a + 402) → rl_G X (rl_e D ids H0) 3 [some (.ref o), some (.ref nd), some (.ref a1), some (.ref a2), some (.ref a), some (.int (nI t)), o6, o7] [] h1 n 0 0 := by
    intro m
    induction m with
    | zero =>
      intro t o6 o7 h1 gp1 hm ho1 ht1 hf
      obtain ⟨t1, ⟨tf, t2, t3⟩, t4, t5, t6, t7⟩ := hi.eqv (h' := h1) (fun q q1 q2 => hf q (by omega) (by omega))
      refine o_iload hC dX2_fillJoin_3 (by rfl) ?_
      refine o_aload_n hC dX2_fillJoin_5 (by rfl) ?_
      refine o_getf hC (fX2_103 hC rfl) dX2_fillJoin_6 (by repeat (first | with_reducible assumption | (rw [rl_u_s]; done) | (rw [rl_u_s]; rfl) | rw [rl_u_n (by first | with_reducible assumption | omega)])) (by first | rfl | with_reducible assumption) ?_
      refine o_icmp_ge (tgt := 98) hC dX2_fillJoin_9 (by decide) (fun c_9 => ?_) (fun c_9 => ?_)
      · refine o_iconst (v := nI 1) hC dX2_fillJoin_98 (by decide +kernel) ?_
        refine o_zret hC hB dX2_fillJoin_99 (by first | rfl | decide +kernel) (Nat.le_of_ble_eq_true rfl) (Nat.le_of_ble_eq_true rfl) ?_
        exact ⟨_, rfl, rfl, Or.inr rfl, ⟨_, ho1⟩, ht1, hf⟩
      · exact absurd (nI_le (by omega) (by omega)) c_9
    | succ m ih =>
      intro t o6 o7 h9 gp9 hm ho9 ht9 hf9
      have loop2 : ∀ (m2 u : Nat) (o7 : Option Value) (h1 : rl_H) (gp1 : Nat → Option Nat), u + m2 = sz2 → op_sh ids h1 o so gp1 → tb_ok ids h1 a wd → rl_g2 h h1 o (o + 22) a (a + 402) → rl_G X (rl_e D ids H0) 15 [some (.ref o), some (.ref nd), some (.ref a1), some (.ref a2), some (.ref a), some (.int (nI t)), some (.int (nI u)), o7] [] h1 n 0 0 := by
        intro m2
        induction m2 with
        | zero =>
          intro u o7 h1 gp1 hm2 ho1 ht1 hf
          obtain ⟨j1, ⟨jf, j2, j3⟩, j4, j5, j6, j7⟩ := hj.eqv (h' := h1) (fun q q1 q2 => hf q (by omega) (by omega))
          refine o_iload hC dX2_fillJoin_15 (by rfl) ?_
          refine o_aload_n hC dX2_fillJoin_17 (by rfl) ?_
          refine o_getf hC (fX2_103 hC rfl) dX2_fillJoin_18 (by repeat (first | with_reducible assumption | (rw [rl_u_s]; done) | (rw [rl_u_s]; rfl) | rw [rl_u_n (by first | with_reducible assumption | omega)])) (by first | rfl | with_reducible assumption) ?_
          refine o_icmp_ge (tgt := 92) hC dX2_fillJoin_21 (by decide) (fun c_21 => ?_) (fun c_21 => ?_)
          · refine o_iinc hC dX2_fillJoin_92 (by rfl) (rl_inc _) (Nat.le_of_ble_eq_true rfl) ?_
            refine o_goto (tgt := 3) hC dX2_fillJoin_95 (by decide) ?_
            exact ih (t + 1) _ _ _ _ (by omega) ho1 ht1 hf
          · exact absurd (nI_le (by omega) (by omega)) c_21
        | succ m2 ih2 =>
          intro u o7 h1 gp1 hm2 ho1 ht1 hf
          obtain ⟨t1, ⟨tf, t2, t3⟩, t4, t5, t6, t7⟩ := hi.eqv (h' := h1) (fun q q1 q2 => hf q (by omega) (by omega))
          obtain ⟨j1, ⟨jf, j2, j3⟩, j4, j5, j6, j7⟩ := hj.eqv (h' := h1) (fun q q1 q2 => hf q (by omega) (by omega))
          have n1 := (hf nd (by omega) (by omega)).trans hnd
          have hb := t4 t (by omega)
          have hb2 := j4 u (by omega)
          obtain ⟨e1, e2, e3⟩ := t5 (P1 t) hb
          obtain ⟨g1, g2, g3⟩ := j5 (P2 u) hb2
          refine o_iload hC dX2_fillJoin_15 (by rfl) ?_
          refine o_aload_n hC dX2_fillJoin_17 (by rfl) ?_
          refine o_getf hC (fX2_103 hC rfl) dX2_fillJoin_18 (by repeat (first | with_reducible assumption | (rw [rl_u_s]; done) | (rw [rl_u_s]; rfl) | rw [rl_u_n (by first | with_reducible assumption | omega)])) (by first | rfl | with_reducible assumption) ?_
          refine o_icmp_ge (tgt := 92) hC dX2_fillJoin_21 (by decide) (fun c_21 => ?_) (fun c_21 => ?_)
          · exact absurd c_21 (nI_ge (by omega) (by omega))
          · refine o_aload_n hC dX2_fillJoin_24 (by rfl) ?_
            refine o_getf hC (fX2_106 hC rfl) dX2_fillJoin_25 (by repeat (first | with_reducible assumption | (rw [rl_u_s]; done) | (rw [rl_u_s]; rfl) | rw [rl_u_n (by first | with_reducible assumption | omega)])) (by first | rfl | with_reducible assumption) ?_
            refine o_iload hC dX2_fillJoin_28 (by rfl) ?_
            refine o_aaldN (t0 := 3) hC rfl dX2_fillJoin_30 (by repeat (first | with_reducible assumption | (rw [rl_u_s]; done) | (rw [rl_u_s]; rfl) | rw [rl_u_n (by first | with_reducible assumption | omega)])) (by omega) (by decide) ?_
            rw [t3 _ (by omega)]
            show rl_G X _ _ _ (.ref _ :: _) _ _ _ _
            refine o_getf hC (fX2_109 hC rfl) dX2_fillJoin_31 (by repeat (first | with_reducible assumption | (rw [rl_u_s]; done) | (rw [rl_u_s]; rfl) | rw [rl_u_n (by first | with_reducible assumption | omega)])) (by first | rfl | with_reducible assumption) ?_
            refine o_aload_n hC dX2_fillJoin_34 (by rfl) ?_
            refine o_getf hC (fX2_119 hC rfl) dX2_fillJoin_35 (by repeat (first | with_reducible assumption | (rw [rl_u_s]; done) | (rw [rl_u_s]; rfl) | rw [rl_u_n (by first | with_reducible assumption | omega)])) (by first | rfl | with_reducible assumption) ?_
            refine o_ialdN (t0 := 0) (k := c4) hC rfl dX2_fillJoin_38 e2 (by omega) (by decide) ?_
            refine o_aload_n hC dX2_fillJoin_39 (by rfl) ?_
            refine o_getf hC (fX2_106 hC rfl) dX2_fillJoin_40 (by repeat (first | with_reducible assumption | (rw [rl_u_s]; done) | (rw [rl_u_s]; rfl) | rw [rl_u_n (by first | with_reducible assumption | omega)])) (by first | rfl | with_reducible assumption) ?_
            refine o_iload hC dX2_fillJoin_43 (by rfl) ?_
            refine o_aaldN (t0 := 3) hC rfl dX2_fillJoin_45 (by repeat (first | with_reducible assumption | (rw [rl_u_s]; done) | (rw [rl_u_s]; rfl) | rw [rl_u_n (by first | with_reducible assumption | omega)])) (by omega) (by decide) ?_
            rw [j3 _ (by omega)]
            show rl_G X _ _ _ (.ref _ :: _) _ _ _ _
            refine o_getf hC (fX2_109 hC rfl) dX2_fillJoin_46 (by repeat (first | with_reducible assumption | (rw [rl_u_s]; done) | (rw [rl_u_s]; rfl) | rw [rl_u_n (by first | with_reducible assumption | omega)])) (by first | rfl | with_reducible assumption) ?_
            refine o_aload_n hC dX2_fillJoin_49 (by rfl) ?_
            refine o_getf hC (fX2_122 hC rfl) dX2_fillJoin_50 (by repeat (first | with_reducible assumption | (rw [rl_u_s]; done) | (rw [rl_u_s]; rfl) | rw [rl_u_n (by first | with_reducible assumption | omega)])) (by first | rfl | with_reducible assumption) ?_
            refine o_ialdN (t0 := 0) (k := c5) hC rfl dX2_fillJoin_53 g2 (by omega) (by decide) ?_
            refine o_icmp_ne (tgt := 61) hC dX2_fillJoin_54 (by decide) (fun c_54 => ?_) (fun c_54 => ?_)
            · refine o_iconst (v := nI 0) hC dX2_fillJoin_61 (by decide +kernel) ?_
              refine o_istore hC dX2_fillJoin_62 (Nat.le_of_ble_eq_true rfl) ?_
              refine o_iload hC dX2_fillJoin_64 (by rfl) ?_
              refine o_if_eq (tgt := 86) hC dX2_fillJoin_66 (by decide) (fun c_66 => ?_) (fun c_66 => ?_)
              · refine o_iinc hC dX2_fillJoin_86 (by rfl) (rl_inc _) (Nat.le_of_ble_eq_true rfl) ?_
                refine o_goto (tgt := 15) hC dX2_fillJoin_89 (by decide) ?_
                first
                | exact ih2 (u + 1) _ _ _ (by omega) q1 q2 (hf.tr (q3.wd (by omega) (by omega) (Nat.le_refl _) (Nat.le_refl _)))
                | exact ih2 (u + 1) _ _ _ (by omega) ho1 ht1 hf
              · refine o_aload_n hC dX2_fillJoin_69 (by rfl) ?_
                refine o_aload_n hC dX2_fillJoin_70 (by rfl) ?_
                refine o_iload hC dX2_fillJoin_71 (by rfl) ?_
                refine o_aload_n hC dX2_fillJoin_73 (by rfl) ?_
                refine o_iload hC dX2_fillJoin_74 (by rfl) ?_
                refine o_aload hC dX2_fillJoin_76 (by rfl) ?_
                refine o_callV5 hC rl_BW_good rl_Ns_nw (by exact hB.2.2.2.2.2) YX2_putPair IX2_putPair VX2_putPair (mX2_128 hC) (by rw [hB.1]; exact ct_X2_putPair l D ids H0 _ _ o so a a1 sz1 wd wd1 _ P1 S1 a2 sz2 wd2 t u P2 S2 ho1 ht1 (hi.eqv (h' := h1) (fun q q1 q2 => hf q (by omega) (by omega))) (by omega) (by omega) (by omega) (hj.eqv (h' := h1) (fun q q1 q2 => hf q (by omega) (by omega))) (by omega) (by omega) (by omega) (by omega) (by omega)) (by exact ho1.1) rfl rfl (Nat.le_of_ble_eq_true rfl) (by rw [hB.2.1]; first | exact Nat.le_of_ble_eq_true rfl | (dsimp only; omega)) (by rw [hB.2.1]; first | exact Nat.le_of_ble_eq_true rfl | (dsimp only; omega)) (by rw [hB.2.1]; first | exact Nat.le_of_ble_eq_true rfl | (dsimp only; omega)) (by rw [hB.2.1]; first | exact Nat.le_of_ble_eq_true rfl | (dsimp only; omega)) dX2_fillJoin_78 (fun v h_78 n_78 p_78 => ?_)
                obtain ⟨x, rfl, rfl, q0, ⟨gp2, q1⟩, q2, q3⟩ := p_78
                try dsimp only [Option.toList, List.cons_append, List.nil_append]
                refine o_if_ne (tgt := 86) hC dX2_fillJoin_81 (by decide) (fun c_81 => ?_) (fun c_81 => ?_)
                · refine o_iinc hC dX2_fillJoin_86 (by rfl) (rl_inc _) (Nat.le_of_ble_eq_true rfl) ?_
                  refine o_goto (tgt := 15) hC dX2_fillJoin_89 (by decide) ?_
                  first
                  | exact ih2 (u + 1) _ _ _ (by omega) q1 q2 (hf.tr (q3.wd (by omega) (by omega) (Nat.le_refl _) (Nat.le_refl _)))
                  | exact ih2 (u + 1) _ _ _ (by omega) ho1 ht1 hf
                · refine o_iconst (v := nI 0) hC dX2_fillJoin_84 (by decide +kernel) ?_
                  refine o_zret hC hB dX2_fillJoin_85 (by first | rfl | decide +kernel) (Nat.le_of_ble_eq_true rfl) (Nat.le_of_ble_eq_true rfl) ?_
                  exact ⟨_, rfl, rfl, Or.inl rfl, ⟨_, q1⟩, q2, hf.tr (q3.wd (by omega) (by omega) (Nat.le_refl _) (Nat.le_refl _))⟩
            · refine o_iconst (v := nI 1) hC dX2_fillJoin_57 (by decide +kernel) ?_
              refine o_goto (tgt := 62) hC dX2_fillJoin_58 (by decide) ?_
              refine o_istore hC dX2_fillJoin_62 (Nat.le_of_ble_eq_true rfl) ?_
              refine o_iload hC dX2_fillJoin_64 (by rfl) ?_
              refine o_if_eq (tgt := 86) hC dX2_fillJoin_66 (by decide) (fun c_66 => ?_) (fun c_66 => ?_)
              · refine o_iinc hC dX2_fillJoin_86 (by rfl) (rl_inc _) (Nat.le_of_ble_eq_true rfl) ?_
                refine o_goto (tgt := 15) hC dX2_fillJoin_89 (by decide) ?_
                first
                | exact ih2 (u + 1) _ _ _ (by omega) q1 q2 (hf.tr (q3.wd (by omega) (by omega) (Nat.le_refl _) (Nat.le_refl _)))
                | exact ih2 (u + 1) _ _ _ (by omega) ho1 ht1 hf
              · refine o_aload_n hC dX2_fillJoin_69 (by rfl) ?_
                refine o_aload_n hC dX2_fillJoin_70 (by rfl) ?_
                refine o_iload hC dX2_fillJoin_71 (by rfl) ?_
                refine o_aload_n hC dX2_fillJoin_73 (by rfl) ?_
                refine o_iload hC dX2_fillJoin_74 (by rfl) ?_
                refine o_aload hC dX2_fillJoin_76 (by rfl) ?_
                refine o_callV5 hC rl_BW_good rl_Ns_nw (by exact hB.2.2.2.2.2) YX2_putPair IX2_putPair VX2_putPair (mX2_128 hC) (by rw [hB.1]; exact ct_X2_putPair l D ids H0 _ _ o so a a1 sz1 wd wd1 _ P1 S1 a2 sz2 wd2 t u P2 S2 ho1 ht1 (hi.eqv (h' := h1) (fun q q1 q2 => hf q (by omega) (by omega))) (by omega) (by omega) (by omega) (hj.eqv (h' := h1) (fun q q1 q2 => hf q (by omega) (by omega))) (by omega) (by omega) (by omega) (by omega) (by omega)) (by exact ho1.1) rfl rfl (Nat.le_of_ble_eq_true rfl) (by rw [hB.2.1]; first | exact Nat.le_of_ble_eq_true rfl | (dsimp only; omega)) (by rw [hB.2.1]; first | exact Nat.le_of_ble_eq_true rfl | (dsimp only; omega)) (by rw [hB.2.1]; first | exact Nat.le_of_ble_eq_true rfl | (dsimp only; omega)) (by rw [hB.2.1]; first | exact Nat.le_of_ble_eq_true rfl | (dsimp only; omega)) dX2_fillJoin_78 (fun v h_78 n_78 p_78 => ?_)
                obtain ⟨x, rfl, rfl, q0, ⟨gp2, q1⟩, q2, q3⟩ := p_78
                try dsimp only [Option.toList, List.cons_append, List.nil_append]
                refine o_if_ne (tgt := 86) hC dX2_fillJoin_81 (by decide) (fun c_81 => ?_) (fun c_81 => ?_)
                · refine o_iinc hC dX2_fillJoin_86 (by rfl) (rl_inc _) (Nat.le_of_ble_eq_true rfl) ?_
                  refine o_goto (tgt := 15) hC dX2_fillJoin_89 (by decide) ?_
                  first
                  | exact ih2 (u + 1) _ _ _ (by omega) q1 q2 (hf.tr (q3.wd (by omega) (by omega) (Nat.le_refl _) (Nat.le_refl _)))
                  | exact ih2 (u + 1) _ _ _ (by omega) ho1 ht1 hf
                · refine o_iconst (v := nI 0) hC dX2_fillJoin_84 (by decide +kernel) ?_
                  refine o_zret hC hB dX2_fillJoin_85 (by first | rfl | decide +kernel) (Nat.le_of_ble_eq_true rfl) (Nat.le_of_ble_eq_true rfl) ?_
                  exact ⟨_, rfl, rfl, Or.inl rfl, ⟨_, q1⟩, q2, hf.tr (q3.wd (by omega) (by omega) (Nat.le_refl _) (Nat.le_refl _))⟩
      obtain ⟨t1, -, -, -, t6, -⟩ := hi.eqv (h' := h9) (fun q q1 q2 => hf9 q (by omega) (by omega))
      refine o_iload hC dX2_fillJoin_3 (by rfl) ?_
      refine o_aload_n hC dX2_fillJoin_5 (by rfl) ?_
      refine o_getf hC (fX2_103 hC rfl) dX2_fillJoin_6 (by repeat (first | with_reducible assumption | (rw [rl_u_s]; done) | (rw [rl_u_s]; rfl) | rw [rl_u_n (by first | with_reducible assumption | omega)])) (by first | rfl | with_reducible assumption) ?_
      refine o_icmp_ge (tgt := 98) hC dX2_fillJoin_9 (by decide) (fun c_9 => ?_) (fun c_9 => ?_)
      · exact absurd c_9 (nI_ge (by omega) (by omega))
      · refine o_iconst (v := nI 0) hC dX2_fillJoin_12 (by decide +kernel) ?_
        refine o_istore hC dX2_fillJoin_13 (Nat.le_of_ble_eq_true rfl) ?_
        exact loop2 sz2 0 _ h9 gp9 (by omega) ho9 ht9 hf9
  show rl_G X (rl_e D ids H0) 0 [some (.ref o), some (.ref nd), some (.ref a1), some (.ref a2), some (.ref a), none, none, none] [] h n 0 0
  refine o_iconst (v := nI 0) hC dX2_fillJoin_0 (by decide +kernel) ?_
  refine o_istore hC dX2_fillJoin_1 (Nat.le_of_ble_eq_true rfl) ?_
  exact loop sz1 0 _ _ h gp (by omega) ho ht rl_g2.rf
end
section
/-! Operators by shapes: fillCols, the groups -/
/-- the group is another -/
theorem op_sh.gr {ids : Nat → ClassId} {h h' : rl_H} {o so : Nat} {gp gp' : Nat → Option Nat} (H : op_sh ids h o so gp) (hk : h' (o + 8) = some (.inl (ids 3, 4, .inr (.inr (.inr (.inr gp')))))) (he : ∀ q, o ≤ q → q < o + 22 → q ≠ o + 8 → h' q = h q) : op_sh ids h' o so gp' := by
  obtain ⟨h1, h2, h3, ⟨tp, h4, h5⟩, h6, ⟨kc, h7⟩, h8⟩ := H
  exact ⟨by rw [he o (by omega) (by omega) (by omega)]; exact h1, h2.eqv (fun q a b => he q (by omega) (by omega) (by omega)), h3.eqv (fun q a b => he q (by omega) (by omega) (by omega)), ⟨tp, by rw [he (o + 7) (by omega) (by omega) (by omega)]; exact h4, h5⟩, hk, ⟨kc, by rw [he (o + 9) (by omega) (by omega) (by omega)]; exact h7⟩, fun m hm => (h8 m hm).eqv (fun q a b => he q (by omega) (by omega) (by omega))⟩
/-- the draft and one of the turned are others -/
theorem op_sh.tu {ids : Nat → ClassId} {h h' : rl_H} {o so m : Nat} {gp : Nat → Option Nat} (H : op_sh ids h o so gp) (hm : m < 4) (hd : dr_ok ids h' (o + 1)) (hw : ws_ok ids h' (o + 10 + 3 * m)) (he : ∀ q, (q < o + 1 ∨ o + 4 ≤ q) → (q < o + 10 + 3 * m ∨ o + 10 + 3 * m + 3 ≤ q) → h' q = h q) : op_sh ids h' o so gp := by
  obtain ⟨h1, h2, h3, ⟨tp, h4, h5⟩, h6, ⟨kc, h7⟩, h8⟩ := H
  refine ⟨by rw [he o (by omega) (by omega)]; exact h1, hd, h3.eqv (fun q a b => he q (by omega) (by omega)), ⟨tp, by rw [he (o + 7) (by omega) (by omega)]; exact h4, h5⟩, by rw [he (o + 8) (by omega) (by omega)]; exact h6, ⟨kc, by rw [he (o + 9) (by omega) (by omega)]; exact h7⟩, fun j hj => ?_⟩
  by_cases q : j = m
  · subst q
    exact hw
  · exact (h8 j hj).eqv (fun q a b => he q (by omega) (by omega))

set_option maxHeartbeats 4000000 in
set_option maxRecDepth 100000 in
theorem ct_X2_fillCols (l : Launch) (D : va_G) (ids : Nat → ClassId) (H0 : Heap) (h : rl_H) (n : Nat) (o so a a1 sz1 wd wd1 : Nat) (gp : Nat → Option Nat) (P1 : Nat → Nat) (S1 : tb_S) (nd w N : Nat) (f0 f2 f3 f4 f5 f6 f8 : Int32) (ho : op_sh ids h o so gp) (ht : tb_ok ids h a wd) (hi : tb_at ids h a1 sz1 wd1 P1 S1) (hoa : o + 22 ≤ a ∨ a + 402 ≤ o) (hoi : o + 22 ≤ a1 ∨ a1 + 402 ≤ o) (hia : a1 + 402 ≤ a ∨ a + 402 ≤ a1) (hnd : h nd = some (.inr (1, [.int f0, .int (nI w), .int f2, .int f3, .int f4, .int f5, .int f6, .int (nI N), .int f8]))) (hw6 : w ≤ 6) (hN : N < 2147483648) (hdg : ∀ c, c < w → 1 ≤ N / 10 ^ c % 10 ∧ N / 10 ^ c % 10 ≤ 6) (hno : nd < o ∨ o + 22 ≤ nd) (hna : nd < a ∨ a + 402 ≤ nd) : rl_Met l (rl_e D ids H0) rl_BW rl_Ns yX2_fillCols cX2_fillCols 7 (some .boolean) ({ frames := 4, cells := 0, slots := 0, locals := 149 }) [.ref o, .ref nd, .ref a1, .ref a] h n (fun v h' n' => ∃ x : Int32, v = some (.int x) ∧ n' = n ∧ (x = nI 0 ∨ x = nI 1) ∧ (∃ gp' : Nat → Option Nat, op_sh ids h' o so gp') ∧ tb_ok ids h' a wd ∧ rl_g2 h h' o (o + 22) a (a + 402)) := by
  refine rl_Met.of (by decide +kernel) (Nat.le_of_ble_eq_true rfl) ?_
  intro X hC hB
  have loop : ∀ (m t : Nat) (o5 o6 : Option Value) (h1 : rl_H) (gp1 : Nat → Option Nat), t + m = sz1 → op_sh ids h1 o so gp1 → tb_ok ids h1 a wd → rl_g2 h h1 o (o + 22) a (a + 402) → rl_G X (rl_e D ids H0) 3 [some (.ref o), some (.ref nd), some (.ref a1), some (.ref a), some (.int (nI t)), o5, o6] [] h1 n 0 0 := by
    intro m
    induction m with
    | zero =>
      intro t o5 o6 h1 gp1 hm ho1 ht1 hf
      obtain ⟨t1, ⟨tf, t2, t3⟩, t4, t5, t6, t7⟩ := hi.eqv (h' := h1) (fun q q1 q2 => hf q (by omega) (by omega))
      refine o_iload hC dX2_fillCols_3 (by rfl) ?_
      refine o_aload_n hC dX2_fillCols_5 (by rfl) ?_
      refine o_getf hC (fX2_103 hC rfl) dX2_fillCols_6 (by repeat (first | with_reducible assumption | (rw [rl_u_s]; done) | (rw [rl_u_s]; rfl) | rw [rl_u_n (by first | with_reducible assumption | omega)])) (by first | rfl | with_reducible assumption) ?_
      refine o_icmp_ge (tgt := 98) hC dX2_fillCols_9 (by decide) (fun c_9 => ?_) (fun c_9 => ?_)
      · refine o_iconst (v := nI 1) hC dX2_fillCols_98 (by decide +kernel) ?_
        refine o_zret hC hB dX2_fillCols_99 (by first | rfl | decide +kernel) (Nat.le_of_ble_eq_true rfl) (Nat.le_of_ble_eq_true rfl) ?_
        exact ⟨_, rfl, rfl, Or.inr rfl, ⟨_, ho1⟩, ht1, hf⟩
      · exact absurd (nI_le (by omega) (by omega)) c_9
    | succ m ih =>
      intro t o5 o6 h9 gp9 hm ho9 ht9 hf9
      have loop2 : ∀ (m2 c R : Nat) (h1 : rl_H) (gp1 : Nat → Option Nat), c + m2 = w → R = N / 10 ^ c → op_sh ids h1 o so gp1 → tb_ok ids h1 a wd → rl_g2 h h1 o (o + 22) a (a + 402) → rl_G X (rl_e D ids H0) 21 [some (.ref o), some (.ref nd), some (.ref a1), some (.ref a), some (.int (nI t)), some (.int (nI R)), some (.int (nI c))] [] h1 n 0 0 := by
        intro m2
        induction m2 with
        | zero =>
          intro c R h1 gp1 hm2 hR ho1 ht1 hf
          obtain ⟨t1, ⟨tf, t2, t3⟩, t4, t5, t6, t7⟩ := hi.eqv (h' := h1) (fun q q1 q2 => hf q (by omega) (by omega))
          obtain ⟨o0, ⟨ds, od⟩, ⟨mf, mg, mk, om⟩, ⟨tp, o7, o7b⟩, o8, ⟨kc, o9⟩, ot⟩ := id ho1
          have n1 := (hf nd (by omega) (by omega)).trans hnd
          have hb := t4 t (by omega)
          obtain ⟨e1, e2, e3⟩ := t5 (P1 t) hb
          obtain ⟨sz0, P0, S0, ht0⟩ := id ht1
          refine o_iload hC dX2_fillCols_21 (by rfl) ?_
          refine o_aload_n hC dX2_fillCols_23 (by rfl) ?_
          refine o_getf hC (fX2_39 hC rfl) dX2_fillCols_24 (by repeat (first | with_reducible assumption | (rw [rl_u_s]; done) | (rw [rl_u_s]; rfl) | rw [rl_u_n (by first | with_reducible assumption | omega)])) (by first | rfl | with_reducible assumption) ?_
          refine o_icmp_ge (tgt := 68) hC dX2_fillCols_27 (by decide) (fun c_27 => ?_) (fun c_27 => ?_)
          · refine o_aload_n hC dX2_fillCols_68 (by rfl) ?_
            refine o_aload_n hC dX2_fillCols_69 (by rfl) ?_
            refine o_aload_n hC dX2_fillCols_70 (by rfl) ?_
            refine o_getf hC (fX2_35 hC rfl) dX2_fillCols_71 (by repeat (first | with_reducible assumption | (rw [rl_u_s]; done) | (rw [rl_u_s]; rfl) | rw [rl_u_n (by first | with_reducible assumption | omega)])) (by first | rfl | with_reducible assumption) ?_
            refine o_aload_n hC dX2_fillCols_74 (by rfl) ?_
            refine o_getf hC (fX2_106 hC rfl) dX2_fillCols_75 (by repeat (first | with_reducible assumption | (rw [rl_u_s]; done) | (rw [rl_u_s]; rfl) | rw [rl_u_n (by first | with_reducible assumption | omega)])) (by first | rfl | with_reducible assumption) ?_
            refine o_iload hC dX2_fillCols_78 (by rfl) ?_
            refine o_aaldN (t0 := 3) hC rfl dX2_fillCols_80 (by repeat (first | with_reducible assumption | (rw [rl_u_s]; done) | (rw [rl_u_s]; rfl) | rw [rl_u_n (by first | with_reducible assumption | omega)])) (by omega) (by decide) ?_
            rw [t3 _ (by omega)]
            show rl_G X _ _ _ (.ref _ :: _) _ _ _ _
            refine o_getf hC (fX2_116 hC rfl) dX2_fillCols_81 (by repeat (first | with_reducible assumption | (rw [rl_u_s]; done) | (rw [rl_u_s]; rfl) | rw [rl_u_n (by first | with_reducible assumption | omega)])) (by first | rfl | with_reducible assumption) ?_
            refine o_callV3 hC rl_BW_good rl_Ns_nw (by exact hB.2.2.2.2.2) YX2_put IX2_put VX2_put (mX2_99 hC) (by rw [hB.1]; exact ct_X2_put l D ids H0 _ _ o so a (a1 + 2 + 5 * P1 t + 2) (o + 9) sz0 wd _ _ P0 S0 _ _ _ ho1 ht0 o9 e3 (by omega) (by omega) (by omega) (by omega)) (by exact ho1.1) rfl rfl (Nat.le_of_ble_eq_true rfl) (by rw [hB.2.1]; first | exact Nat.le_of_ble_eq_true rfl | (dsimp only; omega)) (by rw [hB.2.1]; first | exact Nat.le_of_ble_eq_true rfl | (dsimp only; omega)) (by rw [hB.2.1]; first | exact Nat.le_of_ble_eq_true rfl | (dsimp only; omega)) (by rw [hB.2.1]; first | exact Nat.le_of_ble_eq_true rfl | (dsimp only; omega)) dX2_fillCols_84 (fun v h_84 n_84 p_84 => ?_)
            obtain ⟨x, rfl, rfl, q0, q1, q2, q3⟩ := p_84
            try dsimp only [Option.toList, List.cons_append, List.nil_append]
            refine o_if_ne (tgt := 92) hC dX2_fillCols_87 (by decide) (fun c_87 => ?_) (fun c_87 => ?_)
            · refine o_iinc hC dX2_fillCols_92 (by rfl) (rl_inc _) (Nat.le_of_ble_eq_true rfl) ?_
              refine o_goto (tgt := 3) hC dX2_fillCols_95 (by decide) ?_
              exact ih (t + 1) _ _ _ _ (by omega) q1 q2 (hf.tr (q3.wd (by omega) (by omega) (Nat.le_refl _) (Nat.le_refl _)))
            · refine o_iconst (v := nI 0) hC dX2_fillCols_90 (by decide +kernel) ?_
              refine o_zret hC hB dX2_fillCols_91 (by first | rfl | decide +kernel) (Nat.le_of_ble_eq_true rfl) (Nat.le_of_ble_eq_true rfl) ?_
              exact ⟨_, rfl, rfl, Or.inl rfl, ⟨_, q1⟩, q2, hf.tr (q3.wd (by omega) (by omega) (Nat.le_refl _) (Nat.le_refl _))⟩
          · exact absurd (nI_le (by omega) (by omega)) c_27
        | succ m2 ih2 =>
          intro c R h1 gp1 hm2 hR ho1 ht1 hf
          obtain ⟨t1, ⟨tf, t2, t3⟩, t4, t5, t6, t7⟩ := hi.eqv (h' := h1) (fun q q1 q2 => hf q (by omega) (by omega))
          obtain ⟨o0, ⟨ds, od⟩, ⟨mf, mg, mk, om⟩, ⟨tp, o7, o7b⟩, o8, ⟨kc, o9⟩, ot⟩ := id ho1
          have n1 := (hf nd (by omega) (by omega)).trans hnd
          have hb := t4 t (by omega)
          obtain ⟨e1, e2, e3⟩ := t5 (P1 t) hb
          have hR0 : R < 2147483648 := by
            rw [hR]
            exact Nat.lt_of_le_of_lt (Nat.div_le_self _ _) hN
          obtain ⟨g1, g2⟩ := hdg c (by omega)
          rw [← hR] at g1 g2
          obtain ⟨e, he⟩ : ∃ e, R % 10 = e + 1 := ⟨R % 10 - 1, by omega⟩
          have hR1 : R / 10 = N / 10 ^ (c + 1) := by rw [hR, Nat.div_div_eq_div_mul, Nat.pow_succ]
          refine o_iload hC dX2_fillCols_21 (by rfl) ?_
          refine o_aload_n hC dX2_fillCols_23 (by rfl) ?_
          refine o_getf hC (fX2_39 hC rfl) dX2_fillCols_24 (by repeat (first | with_reducible assumption | (rw [rl_u_s]; done) | (rw [rl_u_s]; rfl) | rw [rl_u_n (by first | with_reducible assumption | omega)])) (by first | rfl | with_reducible assumption) ?_
          refine o_icmp_ge (tgt := 68) hC dX2_fillCols_27 (by decide) (fun c_27 => ?_) (fun c_27 => ?_)
          · exact absurd c_27 (nI_ge (by omega) (by omega))
          · refine o_aload_n hC dX2_fillCols_30 (by rfl) ?_
            refine o_getf hC (fX2_35 hC rfl) dX2_fillCols_31 (by repeat (first | with_reducible assumption | (rw [rl_u_s]; done) | (rw [rl_u_s]; rfl) | rw [rl_u_n (by first | with_reducible assumption | omega)])) (by first | rfl | with_reducible assumption) ?_
            refine o_iload hC dX2_fillCols_34 (by rfl) ?_
            refine o_aload_n hC dX2_fillCols_36 (by rfl) ?_
            refine o_getf hC (fX2_106 hC rfl) dX2_fillCols_37 (by repeat (first | with_reducible assumption | (rw [rl_u_s]; done) | (rw [rl_u_s]; rfl) | rw [rl_u_n (by first | with_reducible assumption | omega)])) (by first | rfl | with_reducible assumption) ?_
            refine o_iload hC dX2_fillCols_40 (by rfl) ?_
            refine o_aaldN (t0 := 3) hC rfl dX2_fillCols_42 (by repeat (first | with_reducible assumption | (rw [rl_u_s]; done) | (rw [rl_u_s]; rfl) | rw [rl_u_n (by first | with_reducible assumption | omega)])) (by omega) (by decide) ?_
            rw [t3 _ (by omega)]
            show rl_G X _ _ _ (.ref _ :: _) _ _ _ _
            refine o_getf hC (fX2_109 hC rfl) dX2_fillCols_43 (by repeat (first | with_reducible assumption | (rw [rl_u_s]; done) | (rw [rl_u_s]; rfl) | rw [rl_u_n (by first | with_reducible assumption | omega)])) (by first | rfl | with_reducible assumption) ?_
            refine o_iload hC dX2_fillCols_46 (by rfl) ?_
            refine o_bipush (v := nI 10) hC dX2_fillCols_48 (by decide +kernel) ?_
            refine o_irem hC dX2_fillCols_50 (by decide +kernel) ?_
            rw [pk_rem hR0 (by decide) (by decide), he]
            refine o_iconst (v := nI 1) hC dX2_fillCols_51 (by decide +kernel) ?_
            refine o_isub hC dX2_fillCols_52 ?_
            rw [rl_pred e]
            refine o_ialdN (t0 := 0) (k := e) hC rfl dX2_fillCols_53 e2 (by omega) (by decide) ?_
            refine o_iastN (t0 := 0) (k := c) hC rfl dX2_fillCols_54 o9 (by omega) (by decide) ?_
            refine o_iload hC dX2_fillCols_55 (by rfl) ?_
            refine o_bipush (v := nI 10) hC dX2_fillCols_57 (by decide +kernel) ?_
            refine o_idiv hC dX2_fillCols_59 (by decide +kernel) ?_
            rw [pk_div hR0 (by decide) (by decide)]
            refine o_istore hC dX2_fillCols_60 (Nat.le_of_ble_eq_true rfl) ?_
            refine o_iinc hC dX2_fillCols_62 (by rfl) (rl_inc _) (Nat.le_of_ble_eq_true rfl) ?_
            refine o_goto (tgt := 21) hC dX2_fillCols_65 (by decide) ?_
            exact ih2 (c + 1) _ _ _ (by omega) hR1 (ho1.ky rl_u_s (fun q q1 q2 q3 => rl_u_n q3)) (ht1.eqv (fun q q1 q2 => rl_u_n (by omega))) (hf.tr (fun q q1 q2 => rl_u_n (by omega)))
      obtain ⟨t1, -, -, -, t6, -⟩ := hi.eqv (h' := h9) (fun q q1 q2 => hf9 q (by omega) (by omega))
      have n1 := (hf9 nd (by omega) (by omega)).trans hnd
      refine o_iload hC dX2_fillCols_3 (by rfl) ?_
      refine o_aload_n hC dX2_fillCols_5 (by rfl) ?_
      refine o_getf hC (fX2_103 hC rfl) dX2_fillCols_6 (by repeat (first | with_reducible assumption | (rw [rl_u_s]; done) | (rw [rl_u_s]; rfl) | rw [rl_u_n (by first | with_reducible assumption | omega)])) (by first | rfl | with_reducible assumption) ?_
      refine o_icmp_ge (tgt := 98) hC dX2_fillCols_9 (by decide) (fun c_9 => ?_) (fun c_9 => ?_)
      · exact absurd c_9 (nI_ge (by omega) (by omega))
      · refine o_aload_n hC dX2_fillCols_12 (by rfl) ?_
        refine o_getf hC (fX2_88 hC rfl) dX2_fillCols_13 (by repeat (first | with_reducible assumption | (rw [rl_u_s]; done) | (rw [rl_u_s]; rfl) | rw [rl_u_n (by first | with_reducible assumption | omega)])) (by first | rfl | with_reducible assumption) ?_
        refine o_istore hC dX2_fillCols_16 (Nat.le_of_ble_eq_true rfl) ?_
        refine o_iconst (v := nI 0) hC dX2_fillCols_18 (by decide +kernel) ?_
        refine o_istore hC dX2_fillCols_19 (Nat.le_of_ble_eq_true rfl) ?_
        exact loop2 w 0 N h9 gp9 (by omega) (by rw [Nat.pow_zero, Nat.div_one]) ho9 ht9 hf9
  show rl_G X (rl_e D ids H0) 0 [some (.ref o), some (.ref nd), some (.ref a1), some (.ref a), none, none, none] [] h n 0 0
  refine o_iconst (v := nI 0) hC dX2_fillCols_0 (by decide +kernel) ?_
  refine o_istore hC dX2_fillCols_1 (Nat.le_of_ble_eq_true rfl) ?_
  exact loop sz1 0 _ _ h gp (by omega) ho ht rl_g2.rf

set_option maxHeartbeats 4000000 in
set_option maxRecDepth 100000 in
theorem ct_X2_isFirstOfGroup (l : Launch) (D : va_G) (ids : Nat → ClassId) (H0 : Heap) (h : rl_H) (n : Nat) (a1 sz1 wd1 t c4 : Nat) (P1 : Nat → Nat) (S1 : tb_S) (hi : tb_at ids h a1 sz1 wd1 P1 S1) (ht : t < sz1) (h4 : c4 < 6) : rl_Met l (rl_e D ids H0) rl_BW rl_Ns yX2_isFirstOfGroup cX2_isFirstOfGroup 4 (some .boolean) ({ frames := 0, cells := 0, slots := 0, locals := 0 }) [.ref a1, .int (nI t), .int (nI c4)] h n (fun v h' n' => ∃ x : Int32, v = some (.int x) ∧ h' = h ∧ n' = n ∧ (x = nI 0 ∨ x = nI 1)) := by
  obtain ⟨t1, ⟨tf, t2, t3⟩, t4, t5, t6, t7⟩ := id hi
  refine rl_Met.of (by decide +kernel) (Nat.le_of_ble_eq_true rfl) ?_
  intro X hC hB
  have hb := t4 t (by omega)
  obtain ⟨e1, e2, e3⟩ := t5 (P1 t) hb
  have loop : ∀ (m u : Nat), u + m = t → rl_G X (rl_e D ids H0) 2 [some (.ref a1), some (.int (nI t)), some (.int (nI c4)), some (.int (nI u))] [] h n 0 0 := by
    intro m
    induction m with
    | zero =>
      intro u hm
      refine o_iload_n hC dX2_isFirstOfGroup_2 (by rfl) ?_
      refine o_iload_n hC dX2_isFirstOfGroup_3 (by rfl) ?_
      refine o_icmp_ge (tgt := 40) hC dX2_isFirstOfGroup_4 (by decide) (fun c_4 => ?_) (fun c_4 => ?_)
      · refine o_iconst (v := nI 1) hC dX2_isFirstOfGroup_40 (by decide +kernel) ?_
        refine o_zret hC hB dX2_isFirstOfGroup_41 (by first | rfl | decide +kernel) (Nat.le_of_ble_eq_true rfl) (Nat.le_of_ble_eq_true rfl) ?_
        exact ⟨_, rfl, rfl, rfl, by first | exact Or.inl rfl | exact Or.inr rfl⟩
      · exact absurd (nI_le (by omega) (by omega)) c_4
    | succ m ih =>
      intro u hm
      have hb2 := t4 u (by omega)
      obtain ⟨g1, g2, g3⟩ := t5 (P1 u) hb2
      refine o_iload_n hC dX2_isFirstOfGroup_2 (by rfl) ?_
      refine o_iload_n hC dX2_isFirstOfGroup_3 (by rfl) ?_
      refine o_icmp_ge (tgt := 40) hC dX2_isFirstOfGroup_4 (by decide) (fun c_4 => ?_) (fun c_4 => ?_)
      · exact absurd c_4 (nI_ge (by omega) (by omega))
      · refine o_aload_n hC dX2_isFirstOfGroup_7 (by rfl) ?_
        refine o_getf hC (fX2_106 hC rfl) dX2_isFirstOfGroup_8 (by repeat (first | with_reducible assumption | (rw [rl_u_s]; done) | (rw [rl_u_s]; rfl) | rw [rl_u_n (by first | with_reducible assumption | omega)])) (by first | rfl | with_reducible assumption) ?_
        refine o_iload_n hC dX2_isFirstOfGroup_11 (by rfl) ?_
        refine o_aaldN (t0 := 3) hC rfl dX2_isFirstOfGroup_12 (by repeat (first | with_reducible assumption | (rw [rl_u_s]; done) | (rw [rl_u_s]; rfl) | rw [rl_u_n (by first | with_reducible assumption | omega)])) (by omega) (by decide) ?_
        rw [t3 _ (by omega)]
        show rl_G X _ _ _ (.ref _ :: _) _ _ _ _
        refine o_getf hC (fX2_109 hC rfl) dX2_isFirstOfGroup_13 (by repeat (first | with_reducible assumption | (rw [rl_u_s]; done) | (rw [rl_u_s]; rfl) | rw [rl_u_n (by first | with_reducible assumption | omega)])) (by first | rfl | with_reducible assumption) ?_
        refine o_iload_n hC dX2_isFirstOfGroup_16 (by rfl) ?_
        refine o_ialdN (t0 := 0) (k := c4) hC rfl dX2_isFirstOfGroup_17 g2 (by omega) (by decide) ?_
        refine o_aload_n hC dX2_isFirstOfGroup_18 (by rfl) ?_
        refine o_getf hC (fX2_106 hC rfl) dX2_isFirstOfGroup_19 (by repeat (first | with_reducible assumption | (rw [rl_u_s]; done) | (rw [rl_u_s]; rfl) | rw [rl_u_n (by first | with_reducible assumption | omega)])) (by first | rfl | with_reducible assumption) ?_
        refine o_iload_n hC dX2_isFirstOfGroup_22 (by rfl) ?_
        refine o_aaldN (t0 := 3) hC rfl dX2_isFirstOfGroup_23 (by repeat (first | with_reducible assumption | (rw [rl_u_s]; done) | (rw [rl_u_s]; rfl) | rw [rl_u_n (by first | with_reducible assumption | omega)])) (by omega) (by decide) ?_
        rw [t3 _ (by omega)]
        show rl_G X _ _ _ (.ref _ :: _) _ _ _ _
        refine o_getf hC (fX2_109 hC rfl) dX2_isFirstOfGroup_24 (by repeat (first | with_reducible assumption | (rw [rl_u_s]; done) | (rw [rl_u_s]; rfl) | rw [rl_u_n (by first | with_reducible assumption | omega)])) (by first | rfl | with_reducible assumption) ?_
        refine o_iload_n hC dX2_isFirstOfGroup_27 (by rfl) ?_
        refine o_ialdN (t0 := 0) (k := c4) hC rfl dX2_isFirstOfGroup_28 e2 (by omega) (by decide) ?_
        refine o_icmp_ne (tgt := 34) hC dX2_isFirstOfGroup_29 (by decide) (fun c_29 => ?_) (fun c_29 => ?_)
        · refine o_iinc hC dX2_isFirstOfGroup_34 (by rfl) (rl_inc _) (Nat.le_of_ble_eq_true rfl) ?_
          refine o_goto (tgt := 2) hC dX2_isFirstOfGroup_37 (by decide) ?_
          exact ih (u + 1) (by omega)
        · refine o_iconst (v := nI 0) hC dX2_isFirstOfGroup_32 (by decide +kernel) ?_
          refine o_zret hC hB dX2_isFirstOfGroup_33 (by first | rfl | decide +kernel) (Nat.le_of_ble_eq_true rfl) (Nat.le_of_ble_eq_true rfl) ?_
          exact ⟨_, rfl, rfl, rfl, by first | exact Or.inl rfl | exact Or.inr rfl⟩
  show rl_G X (rl_e D ids H0) 0 [some (.ref a1), some (.int (nI t)), some (.int (nI c4)), none] [] h n 0 0
  refine o_iconst (v := nI 0) hC dX2_isFirstOfGroup_0 (by decide +kernel) ?_
  refine o_istore_n hC dX2_isFirstOfGroup_1 (Nat.le_of_ble_eq_true rfl) ?_
  exact loop t 0 (by omega)

set_option maxHeartbeats 4000000 in
set_option maxRecDepth 100000 in
theorem ct_X2_gatherGroup (l : Launch) (D : va_G) (ids : Nat → ClassId) (H0 : Heap) (h : rl_H) (n : Nat) (o so a1 sz1 wd1 t c4 : Nat) (gp : Nat → Option Nat) (P1 : Nat → Nat) (S1 : tb_S) (ho : op_sh ids h o so gp) (hi : tb_at ids h a1 sz1 wd1 P1 S1) (hoi : o + 22 ≤ a1 ∨ a1 + 402 ≤ o) (ht : t < sz1) (h4 : c4 < 6) : rl_Met l (rl_e D ids H0) rl_BW rl_Ns yX2_gatherGroup cX2_gatherGroup 6 (some .int) ({ frames := 0, cells := 0, slots := 0, locals := 0 }) [.ref o, .ref a1, .int (nI t), .int (nI c4)] h n (fun v h' n' => ∃ k : Nat, k ≤ 80 ∧ v = some (.int (nI k)) ∧ n' = n ∧ ∃ gp' : Nat → Option Nat, op_sh ids h' o so gp' ∧ (∀ j, j < k → j < 4 → ∃ i : Nat, i < 80 ∧ gp' j = some (a1 + 2 + 5 * i)) ∧ rl_fr h h' (o + 8) (o + 9)) := by
  obtain ⟨-, -, -, -, tz, -⟩ := id hi
  refine rl_Met.of (by decide +kernel) (Nat.le_of_ble_eq_true rfl) ?_
  intro X hC hB
  have loop : ∀ (m u k : Nat) (h1 : rl_H) (gp1 : Nat → Option Nat), u + m = sz1 → t ≤ u → k ≤ u → op_sh ids h1 o so gp1 → (∀ j, j < k → j < 4 → ∃ i : Nat, i < 80 ∧ gp1 j = some (a1 + 2 + 5 * i)) → rl_fr h h1 (o + 8) (o + 9) → rl_G X (rl_e D ids H0) 6 [some (.ref o), some (.ref a1), some (.int (nI t)), some (.int (nI c4)), some (.int (nI k)), some (.int (nI u))] [] h1 n 0 0 := by
    intro m
    induction m with
    | zero =>
      intro u k h1 gp1 hm htu hk ho1 hg hf
      obtain ⟨t1, ⟨tf, t2, t3⟩, t4, t5, t6, t7⟩ := hi.eqv (h' := h1) (fun q q1 q2 => hf q (by omega))
      refine o_iload hC dX2_gatherGroup_6 (by rfl) ?_
      refine o_aload_n hC dX2_gatherGroup_8 (by rfl) ?_
      refine o_getf hC (fX2_103 hC rfl) dX2_gatherGroup_9 (by repeat (first | with_reducible assumption | (rw [rl_u_s]; done) | (rw [rl_u_s]; rfl) | rw [rl_u_n (by first | with_reducible assumption | omega)])) (by first | rfl | with_reducible assumption) ?_
      refine o_icmp_ge (tgt := 70) hC dX2_gatherGroup_12 (by decide) (fun c_12 => ?_) (fun c_12 => ?_)
      · refine o_iload hC dX2_gatherGroup_70 (by rfl) ?_
        refine o_iret hC hB dX2_gatherGroup_72 (Nat.le_of_ble_eq_true rfl) (Nat.le_of_ble_eq_true rfl) ?_
        exact ⟨k, by omega, rfl, rfl, gp1, ho1, hg, hf⟩
      · exact absurd (nI_le (by omega) (by omega)) c_12
    | succ m ih =>
      intro u k h1 gp1 hm htu hk ho1 hg hf
      obtain ⟨t1, ⟨tf, t2, t3⟩, t4, t5, t6, t7⟩ := hi.eqv (h' := h1) (fun q q1 q2 => hf q (by omega))
      obtain ⟨o0, -, -, -, o8, -, -⟩ := id ho1
      have hb := t4 t (by omega)
      obtain ⟨e1, e2, e3⟩ := t5 (P1 t) hb
      have hb2 := t4 u (by omega)
      obtain ⟨g1, g2, g3⟩ := t5 (P1 u) hb2
      refine o_iload hC dX2_gatherGroup_6 (by rfl) ?_
      refine o_aload_n hC dX2_gatherGroup_8 (by rfl) ?_
      refine o_getf hC (fX2_103 hC rfl) dX2_gatherGroup_9 (by repeat (first | with_reducible assumption | (rw [rl_u_s]; done) | (rw [rl_u_s]; rfl) | rw [rl_u_n (by first | with_reducible assumption | omega)])) (by first | rfl | with_reducible assumption) ?_
      refine o_icmp_ge (tgt := 70) hC dX2_gatherGroup_12 (by decide) (fun c_12 => ?_) (fun c_12 => ?_)
      · exact absurd c_12 (nI_ge (by omega) (by omega))
      · refine o_aload_n hC dX2_gatherGroup_15 (by rfl) ?_
        refine o_getf hC (fX2_106 hC rfl) dX2_gatherGroup_16 (by repeat (first | with_reducible assumption | (rw [rl_u_s]; done) | (rw [rl_u_s]; rfl) | rw [rl_u_n (by first | with_reducible assumption | omega)])) (by first | rfl | with_reducible assumption) ?_
        refine o_iload hC dX2_gatherGroup_19 (by rfl) ?_
        refine o_aaldN (t0 := 3) hC rfl dX2_gatherGroup_21 (by repeat (first | with_reducible assumption | (rw [rl_u_s]; done) | (rw [rl_u_s]; rfl) | rw [rl_u_n (by first | with_reducible assumption | omega)])) (by omega) (by decide) ?_
        rw [t3 _ (by omega)]
        show rl_G X _ _ _ (.ref _ :: _) _ _ _ _
        refine o_getf hC (fX2_109 hC rfl) dX2_gatherGroup_22 (by repeat (first | with_reducible assumption | (rw [rl_u_s]; done) | (rw [rl_u_s]; rfl) | rw [rl_u_n (by first | with_reducible assumption | omega)])) (by first | rfl | with_reducible assumption) ?_
        refine o_iload_n hC dX2_gatherGroup_25 (by rfl) ?_
        refine o_ialdN (t0 := 0) (k := c4) hC rfl dX2_gatherGroup_26 g2 (by omega) (by decide) ?_
        refine o_aload_n hC dX2_gatherGroup_27 (by rfl) ?_
        refine o_getf hC (fX2_106 hC rfl) dX2_gatherGroup_28 (by repeat (first | with_reducible assumption | (rw [rl_u_s]; done) | (rw [rl_u_s]; rfl) | rw [rl_u_n (by first | with_reducible assumption | omega)])) (by first | rfl | with_reducible assumption) ?_
        refine o_iload_n hC dX2_gatherGroup_31 (by rfl) ?_
        refine o_aaldN (t0 := 3) hC rfl dX2_gatherGroup_32 (by repeat (first | with_reducible assumption | (rw [rl_u_s]; done) | (rw [rl_u_s]; rfl) | rw [rl_u_n (by first | with_reducible assumption | omega)])) (by omega) (by decide) ?_
        rw [t3 _ (by omega)]
        show rl_G X _ _ _ (.ref _ :: _) _ _ _ _
        refine o_getf hC (fX2_109 hC rfl) dX2_gatherGroup_33 (by repeat (first | with_reducible assumption | (rw [rl_u_s]; done) | (rw [rl_u_s]; rfl) | rw [rl_u_n (by first | with_reducible assumption | omega)])) (by first | rfl | with_reducible assumption) ?_
        refine o_iload_n hC dX2_gatherGroup_36 (by rfl) ?_
        refine o_ialdN (t0 := 0) (k := c4) hC rfl dX2_gatherGroup_37 e2 (by omega) (by decide) ?_
        refine o_icmp_ne (tgt := 64) hC dX2_gatherGroup_38 (by decide) (fun c_38 => ?_) (fun c_38 => ?_)
        · refine o_iinc hC dX2_gatherGroup_64 (by rfl) (rl_inc _) (Nat.le_of_ble_eq_true rfl) ?_
          refine o_goto (tgt := 6) hC dX2_gatherGroup_67 (by decide) ?_
          first
          | exact ih (u + 1) (k + 1) _ _ (by omega) (by omega) (by omega) (ho1.gr rl_u_s (fun q q1 q2 q3 => rl_u_n q3)) (fun j j1 j2 => by
              unfold va_up
              by_cases q : j = k
              · rw [if_pos q]
                exact ⟨P1 u, hb2, rfl⟩
              · rw [if_neg q]
                exact hg j (by omega) j2) (fun q hq => by rw [rl_u_n (by omega)]; exact hf q hq)
          | exact ih (u + 1) (k + 1) _ _ (by omega) (by omega) (by omega) ho1 (fun j j1 j2 => hg j (by have : ¬ k < 4 := fun q => nI_ge q (by decide) c_44; omega) j2) hf
          | exact ih (u + 1) k _ _ (by omega) (by omega) (by omega) ho1 hg hf
        · refine o_iload hC dX2_gatherGroup_41 (by rfl) ?_
          refine o_iconst (v := nI 4) hC dX2_gatherGroup_43 (by decide +kernel) ?_
          refine o_icmp_ge (tgt := 61) hC dX2_gatherGroup_44 (by decide) (fun c_44 => ?_) (fun c_44 => ?_)
          · refine o_iinc hC dX2_gatherGroup_61 (by rfl) (rl_inc _) (Nat.le_of_ble_eq_true rfl) ?_
            refine o_iinc hC dX2_gatherGroup_64 (by rfl) (rl_inc _) (Nat.le_of_ble_eq_true rfl) ?_
            refine o_goto (tgt := 6) hC dX2_gatherGroup_67 (by decide) ?_
            first
            | exact ih (u + 1) (k + 1) _ _ (by omega) (by omega) (by omega) (ho1.gr rl_u_s (fun q q1 q2 q3 => rl_u_n q3)) (fun j j1 j2 => by
                unfold va_up
                by_cases q : j = k
                · rw [if_pos q]
                  exact ⟨P1 u, hb2, rfl⟩
                · rw [if_neg q]
                  exact hg j (by omega) j2) (fun q hq => by rw [rl_u_n (by omega)]; exact hf q hq)
            | exact ih (u + 1) (k + 1) _ _ (by omega) (by omega) (by omega) ho1 (fun j j1 j2 => hg j (by have : ¬ k < 4 := fun q => nI_ge q (by decide) c_44; omega) j2) hf
            | exact ih (u + 1) k _ _ (by omega) (by omega) (by omega) ho1 hg hf
          · refine o_aload_n hC dX2_gatherGroup_47 (by rfl) ?_
            refine o_getf hC (fX2_31 hC rfl) dX2_gatherGroup_48 (by repeat (first | with_reducible assumption | (rw [rl_u_s]; done) | (rw [rl_u_s]; rfl) | rw [rl_u_n (by first | with_reducible assumption | omega)])) (by first | rfl | with_reducible assumption) ?_
            refine o_iload hC dX2_gatherGroup_51 (by rfl) ?_
            refine o_aload_n hC dX2_gatherGroup_53 (by rfl) ?_
            refine o_getf hC (fX2_106 hC rfl) dX2_gatherGroup_54 (by repeat (first | with_reducible assumption | (rw [rl_u_s]; done) | (rw [rl_u_s]; rfl) | rw [rl_u_n (by first | with_reducible assumption | omega)])) (by first | rfl | with_reducible assumption) ?_
            refine o_iload hC dX2_gatherGroup_57 (by rfl) ?_
            refine o_aaldN (t0 := 3) hC rfl dX2_gatherGroup_59 (by repeat (first | with_reducible assumption | (rw [rl_u_s]; done) | (rw [rl_u_s]; rfl) | rw [rl_u_n (by first | with_reducible assumption | omega)])) (by omega) (by decide) ?_
            rw [t3 _ (by omega)]
            show rl_G X _ _ _ (.ref _ :: _) _ _ _ _
            refine o_aastN (t0 := 3) hC rfl rfl dX2_gatherGroup_60 o8 g1 (by rcases Nat.lt_or_ge k 4 with q | q; exact q; exact absurd (nI_le q (by omega)) c_44) (by decide) ?_
            refine o_iinc hC dX2_gatherGroup_61 (by rfl) (rl_inc _) (Nat.le_of_ble_eq_true rfl) ?_
            refine o_iinc hC dX2_gatherGroup_64 (by rfl) (rl_inc _) (Nat.le_of_ble_eq_true rfl) ?_
            refine o_goto (tgt := 6) hC dX2_gatherGroup_67 (by decide) ?_
            first
            | exact ih (u + 1) (k + 1) _ _ (by omega) (by omega) (by omega) (ho1.gr rl_u_s (fun q q1 q2 q3 => rl_u_n q3)) (fun j j1 j2 => by
                unfold va_up
                by_cases q : j = k
                · rw [if_pos q]
                  exact ⟨P1 u, hb2, rfl⟩
                · rw [if_neg q]
                  exact hg j (by omega) j2) (fun q hq => by rw [rl_u_n (by omega)]; exact hf q hq)
            | exact ih (u + 1) (k + 1) _ _ (by omega) (by omega) (by omega) ho1 (fun j j1 j2 => hg j (by have : ¬ k < 4 := fun q => nI_ge q (by decide) c_44; omega) j2) hf
            | exact ih (u + 1) k _ _ (by omega) (by omega) (by omega) ho1 hg hf
  show rl_G X (rl_e D ids H0) 0 [some (.ref o), some (.ref a1), some (.int (nI t)), some (.int (nI c4)), none, none] [] h n 0 0
  refine o_iconst (v := nI 0) hC dX2_gatherGroup_0 (by decide +kernel) ?_
  refine o_istore hC dX2_gatherGroup_1 (Nat.le_of_ble_eq_true rfl) ?_
  refine o_iload_n hC dX2_gatherGroup_3 (by rfl) ?_
  refine o_istore hC dX2_gatherGroup_4 (Nat.le_of_ble_eq_true rfl) ?_
  exact loop (sz1 - t) t 0 h gp (by omega) (Nat.le_refl _) (Nat.zero_le _) ho (fun j j1 _ => absurd j1 (by omega)) rl_fr.rf
end
section
/-! Operators by shapes: turnGroup, makeWaysOfSet, foldedNumber -/
section RLM
variable {X : rl_X} {E : rl_E} {cc : ByteArray} {own : String} {Ts Ns : List Cond} {pc : Nat} {lo : List (Option Value)} {st : List Value} {h : rl_H} {n ce sl : Nat}
theorem o_mmin (hC : rl_C X E cc own Ts Ns) (hml : X.2.1.2.2.2.2.maxLocals = lo.length) {idx : Nat} (w1 : Cond.methodLink own idx Lib.Math.min.name ∈ Ts) (w2 : Cond.static Lib.Math.min.name ∈ Ts) (w3 : Cond.initialized "java/lang/Math" ∈ Ts) (w4 : Cond.code Lib.Math.min.name Lib.Math.min.code 2 (some .int) ∈ Ts) (hr1 : 1 ≤ X.1.2.2.2.1.frames) (hr2 : (st.map fun v => v.category).sum + 13 ≤ X.1.2.2.2.1.locals) (hr3 : ce ≤ X.1.2.2.2.1.cells) (hr4 : sl ≤ X.1.2.2.2.1.slots) {x y : Int32} (hd : decode cc pc = .ok (.invokestatic idx, 3)) (kk : rl_G X E (pc + 3) lo (.int (if y < x then y else x) :: st) h n ce sl) : rl_G X E pc lo (.int y :: .int x :: st) h n ce sl :=
  fun H locs ls a b c => va_mmin hC.1 hC.2.1 (hml.trans c.1.symm) hC.2.2.1 (hC.2.2.2.1 _ w1) (hC.2.2.2.1 _ w2) (hC.2.2.2.1 _ w3) (hC.2.2.2.1 _ w4) hr1 hr2 hr3 hr4 hd (kk H locs ls a b c)
theorem o_mmax (hC : rl_C X E cc own Ts Ns) (hml : X.2.1.2.2.2.2.maxLocals = lo.length) {idx : Nat} (w1 : Cond.methodLink own idx Lib.Math.max.name ∈ Ts) (w2 : Cond.static Lib.Math.max.name ∈ Ts) (w3 : Cond.initialized "java/lang/Math" ∈ Ts) (w4 : Cond.code Lib.Math.max.name Lib.Math.max.code 2 (some .int) ∈ Ts) (hr1 : 1 ≤ X.1.2.2.2.1.frames) (hr2 : (st.map fun v => v.category).sum + 13 ≤ X.1.2.2.2.1.locals) (hr3 : ce ≤ X.1.2.2.2.1.cells) (hr4 : sl ≤ X.1.2.2.2.1.slots) {x y : Int32} (hd : decode cc pc = .ok (.invokestatic idx, 3)) (kk : rl_G X E (pc + 3) lo (.int (if x < y then y else x) :: st) h n ce sl) : rl_G X E pc lo (.int y :: .int x :: st) h n ce sl :=
  fun H locs ls a b c => va_mmax hC.1 hC.2.1 (hml.trans c.1.symm) hC.2.2.1 (hC.2.2.2.1 _ w1) (hC.2.2.2.1 _ w2) (hC.2.2.2.1 _ w3) (hC.2.2.2.1 _ w4) hr1 hr2 hr3 hr4 hd (kk H locs ls a b c)
end RLM

set_option maxHeartbeats 4000000 in
set_option maxRecDepth 100000 in
theorem ct_X2_turnGroup (l : Launch) (D : va_G) (ids : Nat → ClassId) (H0 : Heap) (h : rl_H) (n : Nat) (o so a1 sz1 wd1 k : Nat) (gp : Nat → Option Nat) (P1 : Nat → Nat) (S1 : tb_S) (ho : op_sh ids h o so gp) (hi : tb_at ids h a1 sz1 wd1 P1 S1) (hoi : o + 22 ≤ a1 ∨ a1 + 402 ≤ o) (hk4 : k ≤ 4) (hg : ∀ j, j < k → ∃ i : Nat, i < 80 ∧ gp j = some (a1 + 2 + 5 * i)) : rl_Met l (rl_e D ids H0) rl_BW rl_Ns yX2_turnGroup cX2_turnGroup 3 (some .boolean) ({ frames := 3, cells := 0, slots := 0, locals := 81 }) [.ref o, .int (nI k)] h n (fun v h' n' => ∃ x : Int32, v = some (.int x) ∧ n' = n ∧ (x = nI 0 ∨ x = nI 1) ∧ op_sh ids h' o so gp ∧ rl_fr h h' o (o + 22)) := by
  refine rl_Met.of (by decide +kernel) (Nat.le_of_ble_eq_true rfl) ?_
  intro X hC hB
  have loop : ∀ (m j : Nat) (h1 : rl_H), j + m = k → op_sh ids h1 o so gp → rl_fr h h1 o (o + 22) → rl_G X (rl_e D ids H0) 2 [some (.ref o), some (.int (nI k)), some (.int (nI j))] [] h1 n 0 0 := by
    intro m
    induction m with
    | zero =>
      intro j h1 hm ho1 hf
      refine o_iload_n hC dX2_turnGroup_2 (by rfl) ?_
      refine o_iload_n hC dX2_turnGroup_3 (by rfl) ?_
      refine o_icmp_ge (tgt := 45) hC dX2_turnGroup_4 (by decide) (fun c_4 => ?_) (fun c_4 => ?_)
      · refine o_iconst (v := nI 1) hC dX2_turnGroup_45 (by decide +kernel) ?_
        refine o_zret hC hB dX2_turnGroup_46 (by first | rfl | decide +kernel) (Nat.le_of_ble_eq_true rfl) (Nat.le_of_ble_eq_true rfl) ?_
        exact ⟨_, rfl, rfl, Or.inr rfl, ho1, hf⟩
      · exact absurd (nI_le (by omega) (by omega)) c_4
    | succ m ih =>
      intro j h1 hm ho1 hf
      obtain ⟨o0, ⟨ds, od⟩, ⟨mf, mg, mk, om⟩, ⟨tp, o7, o7b⟩, o8, ⟨kc, o9⟩, ot⟩ := id ho1
      obtain ⟨i, hi80, hgj⟩ := hg j (by omega)
      obtain ⟨e1, e2, e3⟩ := (hi.eqv (h' := h1) (fun q q1 q2 => hf q (by omega))).2.2.2.1 i hi80
      obtain ⟨wf, wg, wk, tw⟩ := ot j (by omega)
      refine o_iload_n hC dX2_turnGroup_2 (by rfl) ?_
      refine o_iload_n hC dX2_turnGroup_3 (by rfl) ?_
      refine o_icmp_ge (tgt := 45) hC dX2_turnGroup_4 (by decide) (fun c_4 => ?_) (fun c_4 => ?_)
      · refine o_iconst (v := nI 1) hC dX2_turnGroup_45 (by decide +kernel) ?_
        refine o_zret hC hB dX2_turnGroup_46 (by first | rfl | decide +kernel) (Nat.le_of_ble_eq_true rfl) (Nat.le_of_ble_eq_true rfl) ?_
        exact ⟨_, rfl, rfl, Or.inr rfl, ho1, hf⟩
      · refine o_iload_n hC dX2_turnGroup_7 (by rfl) ?_
        refine o_iconst (v := nI 1) hC dX2_turnGroup_8 (by decide +kernel) ?_
        refine o_icmp_le (tgt := 45) hC dX2_turnGroup_9 (by decide) (fun c_9 => ?_) (fun c_9 => ?_)
        · refine o_iconst (v := nI 1) hC dX2_turnGroup_45 (by decide +kernel) ?_
          refine o_zret hC hB dX2_turnGroup_46 (by first | rfl | decide +kernel) (Nat.le_of_ble_eq_true rfl) (Nat.le_of_ble_eq_true rfl) ?_
          exact ⟨_, rfl, rfl, Or.inr rfl, ho1, hf⟩
        · refine o_aload_n hC dX2_turnGroup_12 (by rfl) ?_
          refine o_getf hC (fX2_12 hC rfl) dX2_turnGroup_13 (by repeat (first | with_reducible assumption | (rw [rl_u_s]; done) | (rw [rl_u_s]; rfl) | rw [rl_u_n (by first | with_reducible assumption | omega)])) (by first | rfl | with_reducible assumption) ?_
          refine o_aload_n hC dX2_turnGroup_16 (by rfl) ?_
          refine o_getf hC (fX2_31 hC rfl) dX2_turnGroup_17 (by repeat (first | with_reducible assumption | (rw [rl_u_s]; done) | (rw [rl_u_s]; rfl) | rw [rl_u_n (by first | with_reducible assumption | omega)])) (by first | rfl | with_reducible assumption) ?_
          refine o_iload_n hC dX2_turnGroup_20 (by rfl) ?_
          refine o_aaldN (t0 := 3) hC rfl dX2_turnGroup_21 o8 (by omega) (by decide) ?_
          rw [hgj]
          show rl_G X _ _ _ (.ref _ :: _) _ _ _ _
          refine o_getf hC (fX2_116 hC rfl) dX2_turnGroup_22 (by repeat (first | with_reducible assumption | (rw [rl_u_s]; done) | (rw [rl_u_s]; rfl) | rw [rl_u_n (by first | with_reducible assumption | omega)])) (by first | rfl | with_reducible assumption) ?_
          refine o_aload_n hC dX2_turnGroup_25 (by rfl) ?_
          refine o_getf hC (fX2_25 hC rfl) dX2_turnGroup_26 (by repeat (first | with_reducible assumption | (rw [rl_u_s]; done) | (rw [rl_u_s]; rfl) | rw [rl_u_n (by first | with_reducible assumption | omega)])) (by first | rfl | with_reducible assumption) ?_
          refine o_iload_n hC dX2_turnGroup_29 (by rfl) ?_
          refine o_aaldN (t0 := 4) hC rfl dX2_turnGroup_30 o7 (by omega) (by decide) ?_
          rw [o7b _ (by omega)]
          show rl_G X _ _ _ (.ref _ :: _) _ _ _ _
          refine o_callV2 hC rl_BW_good rl_Ns_nw (by exact hB.2.2.2.2.2) YX0_not IX0_not VX0_not (mX2_151 hC) (by rw [hB.1]; exact ct_X0_not l D ids H0 _ _ (o + 1) (a1 + 2 + 5 * i + 2) (o + 10 + 3 * j) _ _ ds _ _ _ _ od e3 tw (by omega) (by omega) (by omega)) (by exact od.1) rfl rfl (Nat.le_of_ble_eq_true rfl) (by rw [hB.2.1]; first | exact Nat.le_of_ble_eq_true rfl | (dsimp only; omega)) (by rw [hB.2.1]; first | exact Nat.le_of_ble_eq_true rfl | (dsimp only; omega)) (by rw [hB.2.1]; first | exact Nat.le_of_ble_eq_true rfl | (dsimp only; omega)) (by rw [hB.2.1]; first | exact Nat.le_of_ble_eq_true rfl | (dsimp only; omega)) dX2_turnGroup_31 (fun v h_31 n_31 p_31 => ?_)
          obtain ⟨x, rfl, rfl, -, r1, r2, r3⟩ := p_31
          have ho2 : op_sh ids h_31 o so gp := ho1.tu (by omega) ⟨_, r1⟩ ⟨_, _, _, r2⟩ (fun q q1 q2 => r3 q (by omega) (by omega))
          have hf2 : rl_fr h h_31 o (o + 22) := fun q hq => (r3 q (by omega) (by omega)).trans (hf q hq)
          try dsimp only [Option.toList, List.cons_append, List.nil_append]
          refine o_if_ne (tgt := 39) hC dX2_turnGroup_34 (by decide) (fun c_34 => ?_) (fun c_34 => ?_)
          · refine o_iinc hC dX2_turnGroup_39 (by rfl) (rl_inc _) (Nat.le_of_ble_eq_true rfl) ?_
            refine o_goto (tgt := 2) hC dX2_turnGroup_42 (by decide) ?_
            exact ih (j + 1) _ (by omega) ho2 hf2
          · refine o_iconst (v := nI 0) hC dX2_turnGroup_37 (by decide +kernel) ?_
            refine o_zret hC hB dX2_turnGroup_38 (by first | rfl | decide +kernel) (Nat.le_of_ble_eq_true rfl) (Nat.le_of_ble_eq_true rfl) ?_
            exact ⟨_, rfl, rfl, Or.inl rfl, ho2, hf2⟩
  show rl_G X (rl_e D ids H0) 0 [some (.ref o), some (.int (nI k)), none] [] h n 0 0
  refine o_iconst (v := nI 0) hC dX2_turnGroup_0 (by decide +kernel) ?_
  refine o_istore_n hC dX2_turnGroup_1 (Nat.le_of_ble_eq_true rfl) ?_
  exact loop k 0 h (by omega) ho rl_fr.rf

set_option maxHeartbeats 4000000 in
set_option maxRecDepth 100000 in
theorem ct_X2_makeWaysOfSet (l : Launch) (D : va_G) (ids : Nat → ClassId) (H0 : Heap) (h : rl_H) (n : Nat) (o so a1 sz1 wd1 k : Nat) (gp : Nat → Option Nat) (P1 : Nat → Nat) (S1 : tb_S) (st : Int32) (ho : op_sh ids h o so gp) (hi : tb_at ids h a1 sz1 wd1 P1 S1) (hoi : o + 22 ≤ a1 ∨ a1 + 402 ≤ o) (hk4 : k ≤ 4) (hg : ∀ j, j < k → ∃ i : Nat, i < 80 ∧ gp j = some (a1 + 2 + 5 * i)) : rl_Met l (rl_e D ids H0) rl_BW rl_Ns yX2_makeWaysOfSet cX2_makeWaysOfSet 5 (some .boolean) ({ frames := 3, cells := 0, slots := 0, locals := 72 }) [.ref o, .int st, .int (nI k)] h n (fun v h' n' => ∃ x : Int32, v = some (.int x) ∧ n' = n ∧ (x = nI 0 ∨ x = nI 1) ∧ op_sh ids h' o so gp ∧ rl_fr h h' o (o + 22)) := by
  obtain ⟨o0, -, ⟨mf, mg, mk, om⟩, -, -, -, -⟩ := id ho
  refine rl_Met.of (by decide +kernel) (Nat.le_of_ble_eq_true rfl) ?_
  intro X hC hB
  have loop : ∀ (m j : Nat) (o4 : Option Value) (h1 : rl_H), j + m = k → op_sh ids h1 o so gp → rl_fr h h1 o (o + 22) → rl_G X (rl_e D ids H0) 9 [some (.ref o), some (.int st), some (.int (nI k)), some (.int (nI j)), o4] [] h1 n 0 0 := by
    intro m
    induction m with
    | zero =>
      intro j o4 h1 hm ho1 hf
      refine o_iload_n hC dX2_makeWaysOfSet_9 (by rfl) ?_
      refine o_iload_n hC dX2_makeWaysOfSet_10 (by rfl) ?_
      refine o_icmp_ge (tgt := 70) hC dX2_makeWaysOfSet_11 (by decide) (fun c_11 => ?_) (fun c_11 => ?_)
      · refine o_iconst (v := nI 1) hC dX2_makeWaysOfSet_70 (by decide +kernel) ?_
        refine o_zret hC hB dX2_makeWaysOfSet_71 (by first | rfl | decide +kernel) (Nat.le_of_ble_eq_true rfl) (Nat.le_of_ble_eq_true rfl) ?_
        exact ⟨_, rfl, rfl, Or.inr rfl, ho1, hf⟩
      · exact absurd (nI_le (by omega) (by omega)) c_11
    | succ m ih =>
      intro j o4 h1 hm ho1 hf
      obtain ⟨o0, ⟨ds, od⟩, ⟨mf, mg, mk, om⟩, ⟨tp, o7, o7b⟩, o8, ⟨kc, o9⟩, ot⟩ := id ho1
      obtain ⟨i, hi80, hgj⟩ := hg j (by omega)
      obtain ⟨e1, e2, e3⟩ := (hi.eqv (h' := h1) (fun q q1 q2 => hf q (by omega))).2.2.2.1 i hi80
      obtain ⟨wf, wg, wk, tw⟩ := ot j (by omega)
      refine o_iload_n hC dX2_makeWaysOfSet_9 (by rfl) ?_
      refine o_iload_n hC dX2_makeWaysOfSet_10 (by rfl) ?_
      refine o_icmp_ge (tgt := 70) hC dX2_makeWaysOfSet_11 (by decide) (fun c_11 => ?_) (fun c_11 => ?_)
      · exact absurd c_11 (nI_ge (by omega) (by omega))
      · refine o_iload_n hC dX2_makeWaysOfSet_14 (by rfl) ?_
        refine o_iload_n hC dX2_makeWaysOfSet_15 (by rfl) ?_
        refine o_ishr hC dX2_makeWaysOfSet_16 ?_
        refine o_iconst (v := nI 1) hC dX2_makeWaysOfSet_17 (by decide +kernel) ?_
        refine o_iand hC dX2_makeWaysOfSet_18 ?_
        refine o_if_eq (tgt := 34) hC dX2_makeWaysOfSet_19 (by decide) (fun c_19 => ?_) (fun c_19 => ?_)
        · refine o_aload_n hC dX2_makeWaysOfSet_34 (by rfl) ?_
          refine o_getf hC (fX2_25 hC rfl) dX2_makeWaysOfSet_35 (by repeat (first | with_reducible assumption | (rw [rl_u_s]; done) | (rw [rl_u_s]; rfl) | rw [rl_u_n (by first | with_reducible assumption | omega)])) (by first | rfl | with_reducible assumption) ?_
          refine o_iload_n hC dX2_makeWaysOfSet_38 (by rfl) ?_
          refine o_aaldN (t0 := 4) hC rfl dX2_makeWaysOfSet_39 o7 (by omega) (by decide) ?_
          rw [o7b _ (by omega)]
          show rl_G X _ _ _ (.ref _ :: _) _ _ _ _
          refine o_astore hC dX2_makeWaysOfSet_40 (Nat.le_of_ble_eq_true rfl) ?_
          refine o_aload_n hC dX2_makeWaysOfSet_42 (by rfl) ?_
          refine o_getf hC (fX2_12 hC rfl) dX2_makeWaysOfSet_43 (by repeat (first | with_reducible assumption | (rw [rl_u_s]; done) | (rw [rl_u_s]; rfl) | rw [rl_u_n (by first | with_reducible assumption | omega)])) (by first | rfl | with_reducible assumption) ?_
          refine o_aload_n hC dX2_makeWaysOfSet_46 (by rfl) ?_
          refine o_getf hC (fX2_21 hC rfl) dX2_makeWaysOfSet_47 (by repeat (first | with_reducible assumption | (rw [rl_u_s]; done) | (rw [rl_u_s]; rfl) | rw [rl_u_n (by first | with_reducible assumption | omega)])) (by first | rfl | with_reducible assumption) ?_
          refine o_aload hC dX2_makeWaysOfSet_50 (by rfl) ?_
          refine o_aload_n hC dX2_makeWaysOfSet_52 (by rfl) ?_
          refine o_getf hC (fX2_21 hC rfl) dX2_makeWaysOfSet_53 (by repeat (first | with_reducible assumption | (rw [rl_u_s]; done) | (rw [rl_u_s]; rfl) | rw [rl_u_n (by first | with_reducible assumption | omega)])) (by first | rfl | with_reducible assumption) ?_
          refine o_callV3 hC rl_BW_good rl_Ns_nw (by exact hB.2.2.2.2.2) YX0_both IX0_both VX0_both (mX2_139 hC) (by rw [hB.1]; exact ct_X0_both l D ids H0 _ _ (o + 1) (o + 4) _ (o + 4) _ _ _ _ _ _ _ _ _ _ od om (by first | exact e3 | exact tw) om (by omega) (by omega) (by omega)) (by exact od.1) rfl rfl (Nat.le_of_ble_eq_true rfl) (by rw [hB.2.1]; first | exact Nat.le_of_ble_eq_true rfl | (dsimp only; omega)) (by rw [hB.2.1]; first | exact Nat.le_of_ble_eq_true rfl | (dsimp only; omega)) (by rw [hB.2.1]; first | exact Nat.le_of_ble_eq_true rfl | (dsimp only; omega)) (by rw [hB.2.1]; first | exact Nat.le_of_ble_eq_true rfl | (dsimp only; omega)) dX2_makeWaysOfSet_56 (fun v h_56 n_56 p_56 => ?_)
          obtain ⟨x, rfl, rfl, s1⟩ := p_56
          have s2 := s1.f2
          have ho2 : op_sh ids h_56 o so gp := ho1.mk ⟨_, s1.1⟩ (s1.ws om (by omega)) (fun q q1 q2 q3 => s2 q (by omega) (by omega))
          have hf2 : rl_fr h h_56 o (o + 22) := fun q hq => (s2 q (by omega) (by omega)).trans (hf q hq)
          try dsimp only [Option.toList, List.cons_append, List.nil_append]
          refine o_if_ne (tgt := 64) hC dX2_makeWaysOfSet_59 (by decide) (fun c_59 => ?_) (fun c_59 => ?_)
          · refine o_iinc hC dX2_makeWaysOfSet_64 (by rfl) (rl_inc _) (Nat.le_of_ble_eq_true rfl) ?_
            refine o_goto (tgt := 9) hC dX2_makeWaysOfSet_67 (by decide) ?_
            exact ih (j + 1) _ _ (by omega) ho2 hf2
          · refine o_iconst (v := nI 0) hC dX2_makeWaysOfSet_62 (by decide +kernel) ?_
            refine o_zret hC hB dX2_makeWaysOfSet_63 (by first | rfl | decide +kernel) (Nat.le_of_ble_eq_true rfl) (Nat.le_of_ble_eq_true rfl) ?_
            exact ⟨_, rfl, rfl, Or.inl rfl, ho2, hf2⟩
        · refine o_aload_n hC dX2_makeWaysOfSet_22 (by rfl) ?_
          refine o_getf hC (fX2_31 hC rfl) dX2_makeWaysOfSet_23 (by repeat (first | with_reducible assumption | (rw [rl_u_s]; done) | (rw [rl_u_s]; rfl) | rw [rl_u_n (by first | with_reducible assumption | omega)])) (by first | rfl | with_reducible assumption) ?_
          refine o_iload_n hC dX2_makeWaysOfSet_26 (by rfl) ?_
          refine o_aaldN (t0 := 3) hC rfl dX2_makeWaysOfSet_27 o8 (by omega) (by decide) ?_
          rw [hgj]
          show rl_G X _ _ _ (.ref _ :: _) _ _ _ _
          refine o_getf hC (fX2_116 hC rfl) dX2_makeWaysOfSet_28 (by repeat (first | with_reducible assumption | (rw [rl_u_s]; done) | (rw [rl_u_s]; rfl) | rw [rl_u_n (by first | with_reducible assumption | omega)])) (by first | rfl | with_reducible assumption) ?_
          refine o_goto (tgt := 40) hC dX2_makeWaysOfSet_31 (by decide) ?_
          refine o_astore hC dX2_makeWaysOfSet_40 (Nat.le_of_ble_eq_true rfl) ?_
          refine o_aload_n hC dX2_makeWaysOfSet_42 (by rfl) ?_
          refine o_getf hC (fX2_12 hC rfl) dX2_makeWaysOfSet_43 (by repeat (first | with_reducible assumption | (rw [rl_u_s]; done) | (rw [rl_u_s]; rfl) | rw [rl_u_n (by first | with_reducible assumption | omega)])) (by first | rfl | with_reducible assumption) ?_
          refine o_aload_n hC dX2_makeWaysOfSet_46 (by rfl) ?_
          refine o_getf hC (fX2_21 hC rfl) dX2_makeWaysOfSet_47 (by repeat (first | with_reducible assumption | (rw [rl_u_s]; done) | (rw [rl_u_s]; rfl) | rw [rl_u_n (by first | with_reducible assumption | omega)])) (by first | rfl | with_reducible assumption) ?_
          refine o_aload hC dX2_makeWaysOfSet_50 (by rfl) ?_
          refine o_aload_n hC dX2_makeWaysOfSet_52 (by rfl) ?_
          refine o_getf hC (fX2_21 hC rfl) dX2_makeWaysOfSet_53 (by repeat (first | with_reducible assumption | (rw [rl_u_s]; done) | (rw [rl_u_s]; rfl) | rw [rl_u_n (by first | with_reducible assumption | omega)])) (by first | rfl | with_reducible assumption) ?_
          refine o_callV3 hC rl_BW_good rl_Ns_nw (by exact hB.2.2.2.2.2) YX0_both IX0_both VX0_both (mX2_139 hC) (by rw [hB.1]; exact ct_X0_both l D ids H0 _ _ (o + 1) (o + 4) _ (o + 4) _ _ _ _ _ _ _ _ _ _ od om (by first | exact e3 | exact tw) om (by omega) (by omega) (by omega)) (by exact od.1) rfl rfl (Nat.le_of_ble_eq_true rfl) (by rw [hB.2.1]; first | exact Nat.le_of_ble_eq_true rfl | (dsimp only; omega)) (by rw [hB.2.1]; first | exact Nat.le_of_ble_eq_true rfl | (dsimp only; omega)) (by rw [hB.2.1]; first | exact Nat.le_of_ble_eq_true rfl | (dsimp only; omega)) (by rw [hB.2.1]; first | exact Nat.le_of_ble_eq_true rfl | (dsimp only; omega)) dX2_makeWaysOfSet_56 (fun v h_56 n_56 p_56 => ?_)
          obtain ⟨x, rfl, rfl, s1⟩ := p_56
          have s2 := s1.f2
          have ho2 : op_sh ids h_56 o so gp := ho1.mk ⟨_, s1.1⟩ (s1.ws om (by omega)) (fun q q1 q2 q3 => s2 q (by omega) (by omega))
          have hf2 : rl_fr h h_56 o (o + 22) := fun q hq => (s2 q (by omega) (by omega)).trans (hf q hq)
          try dsimp only [Option.toList, List.cons_append, List.nil_append]
          refine o_if_ne (tgt := 64) hC dX2_makeWaysOfSet_59 (by decide) (fun c_59 => ?_) (fun c_59 => ?_)
          · refine o_iinc hC dX2_makeWaysOfSet_64 (by rfl) (rl_inc _) (Nat.le_of_ble_eq_true rfl) ?_
            refine o_goto (tgt := 9) hC dX2_makeWaysOfSet_67 (by decide) ?_
            exact ih (j + 1) _ _ (by omega) ho2 hf2
          · refine o_iconst (v := nI 0) hC dX2_makeWaysOfSet_62 (by decide +kernel) ?_
            refine o_zret hC hB dX2_makeWaysOfSet_63 (by first | rfl | decide +kernel) (Nat.le_of_ble_eq_true rfl) (Nat.le_of_ble_eq_true rfl) ?_
            exact ⟨_, rfl, rfl, Or.inl rfl, ho2, hf2⟩
  show rl_G X (rl_e D ids H0) 0 [some (.ref o), some (.int st), some (.int (nI k)), none, none] [] h n 0 0
  refine o_aload_n hC dX2_makeWaysOfSet_0 (by rfl) ?_
  refine o_getf hC (fX2_21 hC rfl) dX2_makeWaysOfSet_1 (by repeat (first | with_reducible assumption | (rw [rl_u_s]; done) | (rw [rl_u_s]; rfl) | rw [rl_u_n (by first | with_reducible assumption | omega)])) (by first | rfl | with_reducible assumption) ?_
  refine o_callV0 hC rl_BW_good rl_Ns_nw (by exact hB.2.2.2.2.2) YX6_becomeTrue IX6_becomeTrue VX6_becomeTrue (mX2_179 hC) (by rw [hB.1]; exact ct_X6_becomeTrue l D ids H0 _ _ (o + 4) _ _ _ om) (by exact om.1) rfl rfl (Nat.le_of_ble_eq_true rfl) (by rw [hB.2.1]; first | exact Nat.le_of_ble_eq_true rfl | (dsimp only; omega)) (by rw [hB.2.1]; first | exact Nat.le_of_ble_eq_true rfl | (dsimp only; omega)) (by rw [hB.2.1]; first | exact Nat.le_of_ble_eq_true rfl | (dsimp only; omega)) (by rw [hB.2.1]; first | exact Nat.le_of_ble_eq_true rfl | (dsimp only; omega)) dX2_makeWaysOfSet_4 (fun v h_4 n_4 p_4 => ?_)
  obtain ⟨rfl, rfl, p1, p2⟩ := p_4
  try dsimp only [Option.toList, List.cons_append, List.nil_append]
  refine o_iconst (v := nI 0) hC dX2_makeWaysOfSet_7 (by decide +kernel) ?_
  refine o_istore_n hC dX2_makeWaysOfSet_8 (Nat.le_of_ble_eq_true rfl) ?_
  exact loop k 0 _ _ (by omega) (ho.mk (ho.2.1.eqv (fun q q1 q2 => p2 q (by omega))) ⟨_, _, _, p1⟩ (fun q q1 q2 q3 => p2 q (by omega))) (p2.wd (by omega) (by omega))

set_option maxHeartbeats 4000000 in
set_option maxRecDepth 100000 in
theorem ct_X2_foldedNumber (l : Launch) (D : va_G) (ids : Nat → ClassId) (H0 : Heap) (h : rl_H) (n : Nat) (o so a1 sz1 wd1 k : Nat) (gp : Nat → Option Nat) (P1 : Nat → Nat) (S1 : tb_S) (st : Int32) (nd c5 kd : Nat) (f0 f1 f2 f3 f4 f7 f8 : Int32) (ho : op_sh ids h o so gp) (hi : tb_at ids h a1 sz1 wd1 P1 S1) (hoi : o + 22 ≤ a1 ∨ a1 + 402 ≤ o) (hk4 : k ≤ 4) (hg : ∀ j, j < k → ∃ i : Nat, i < 80 ∧ gp j = some (a1 + 2 + 5 * i)) (hnd : h nd = some (.inr (1, [.int f0, .int f1, .int f2, .int f3, .int f4, .int (nI c5), .int (nI kd), .int f7, .int f8]))) (h5 : c5 < 6) (h6 : kd ≤ 3) : rl_Met l (rl_e D ids H0) rl_BW rl_Ns yX2_foldedNumber cX2_foldedNumber 10 (some .int) ({ frames := 1, cells := 0, slots := 0, locals := 40 }) [.ref o, .ref nd, .int st, .int (nI k)] h n (fun v h' n' => ∃ x : Int32, v = some (.int x) ∧ h' = h ∧ n' = n) := by
  obtain ⟨o0, -, -, -, o8, -, -⟩ := id ho
  refine rl_Met.of (by decide +kernel) (Nat.le_of_ble_eq_true rfl) ?_
  intro X hC hB
  have loop : ∀ (m j a4 : Nat) (a5 a6 a7 : Int32) (o9v : Option Value), j + m = k → rl_G X (rl_e D ids H0) 15 [some (.ref o), some (.ref nd), some (.int st), some (.int (nI k)), some (.int (nI a4)), some (.int a5), some (.int a6), some (.int a7), some (.int (nI j)), o9v] [] h n 0 0 := by
    intro m
    induction m with
    | zero =>
      intro j a4 a5 a6 a7 o9v hm
      refine o_iload hC dX2_foldedNumber_15 (by rfl) ?_
      refine o_iload_n hC dX2_foldedNumber_17 (by rfl) ?_
      refine o_icmp_ge (tgt := 101) hC dX2_foldedNumber_18 (by decide) (fun c_18 => ?_) (fun c_18 => ?_)
      · refine o_aload_n hC dX2_foldedNumber_101 (by rfl) ?_
        refine o_getf hC (fX2_125 hC rfl) dX2_foldedNumber_102 (by repeat (first | with_reducible assumption | (rw [rl_u_s]; done) | (rw [rl_u_s]; rfl) | rw [rl_u_n (by first | with_reducible assumption | omega)])) (by first | rfl | with_reducible assumption) ?_
        rcases (show kd = 0 ∨ kd = 1 ∨ kd = 2 ∨ kd = 3 by omega) with rfl | rfl | rfl | rfl
        · refine o_tableIn (off := 27) (tgt := 132) hC dX2_foldedNumber_105 (by decide +kernel) (by decide +kernel) (by decide +kernel) (by decide) ?_
          refine o_iload hC dX2_foldedNumber_132 (by rfl) ?_
          refine o_iret hC hB dX2_foldedNumber_134 (Nat.le_of_ble_eq_true rfl) (Nat.le_of_ble_eq_true rfl) ?_
          exact ⟨_, rfl, rfl, rfl⟩
        · refine o_tableIn (off := 30) (tgt := 135) hC dX2_foldedNumber_105 (by decide +kernel) (by decide +kernel) (by decide +kernel) (by decide) ?_
          refine o_iload hC dX2_foldedNumber_135 (by rfl) ?_
          refine o_iret hC hB dX2_foldedNumber_137 (Nat.le_of_ble_eq_true rfl) (Nat.le_of_ble_eq_true rfl) ?_
          exact ⟨_, rfl, rfl, rfl⟩
        · refine o_tableIn (off := 33) (tgt := 138) hC dX2_foldedNumber_105 (by decide +kernel) (by decide +kernel) (by decide +kernel) (by decide) ?_
          refine o_iload hC dX2_foldedNumber_138 (by rfl) ?_
          refine o_iret hC hB dX2_foldedNumber_140 (Nat.le_of_ble_eq_true rfl) (Nat.le_of_ble_eq_true rfl) ?_
          exact ⟨_, rfl, rfl, rfl⟩
        · refine o_tableOut (tgt := 141) hC dX2_foldedNumber_105 (by decide +kernel) (by decide) ?_
          refine o_iload hC dX2_foldedNumber_141 (by rfl) ?_
          refine o_iret hC hB dX2_foldedNumber_143 (Nat.le_of_ble_eq_true rfl) (Nat.le_of_ble_eq_true rfl) ?_
          exact ⟨_, rfl, rfl, rfl⟩
      · exact absurd (nI_le (by omega) (by omega)) c_18
    | succ m ih =>
      intro j a4 a5 a6 a7 o9v hm
      obtain ⟨i, hi80, hgj⟩ := hg j (by omega)
      obtain ⟨e1, e2, e3⟩ := hi.2.2.2.1 i hi80
      refine o_iload hC dX2_foldedNumber_15 (by rfl) ?_
      refine o_iload_n hC dX2_foldedNumber_17 (by rfl) ?_
      refine o_icmp_ge (tgt := 101) hC dX2_foldedNumber_18 (by decide) (fun c_18 => ?_) (fun c_18 => ?_)
      · exact absurd c_18 (nI_ge (by omega) (by omega))
      · refine o_iload_n hC dX2_foldedNumber_21 (by rfl) ?_
        refine o_iload hC dX2_foldedNumber_22 (by rfl) ?_
        refine o_ishr hC dX2_foldedNumber_24 ?_
        refine o_iconst (v := nI 1) hC dX2_foldedNumber_25 (by decide +kernel) ?_
        refine o_iand hC dX2_foldedNumber_26 ?_
        refine o_if_eq (tgt := 95) hC dX2_foldedNumber_27 (by decide) (fun c_27 => ?_) (fun c_27 => ?_)
        · refine o_iinc hC dX2_foldedNumber_95 (by rfl) (rl_inc _) (Nat.le_of_ble_eq_true rfl) ?_
          refine o_goto (tgt := 15) hC dX2_foldedNumber_98 (by decide) ?_
          exact ih (j + 1) _ _ _ _ _ (by omega)
        · refine o_aload_n hC dX2_foldedNumber_30 (by rfl) ?_
          refine o_getf hC (fX2_31 hC rfl) dX2_foldedNumber_31 (by repeat (first | with_reducible assumption | (rw [rl_u_s]; done) | (rw [rl_u_s]; rfl) | rw [rl_u_n (by first | with_reducible assumption | omega)])) (by first | rfl | with_reducible assumption) ?_
          refine o_iload hC dX2_foldedNumber_34 (by rfl) ?_
          refine o_aaldN (t0 := 3) hC rfl dX2_foldedNumber_36 o8 (by omega) (by decide) ?_
          rw [hgj]
          show rl_G X _ _ _ (.ref _ :: _) _ _ _ _
          refine o_getf hC (fX2_109 hC rfl) dX2_foldedNumber_37 (by repeat (first | with_reducible assumption | (rw [rl_u_s]; done) | (rw [rl_u_s]; rfl) | rw [rl_u_n (by first | with_reducible assumption | omega)])) (by first | rfl | with_reducible assumption) ?_
          refine o_aload_n hC dX2_foldedNumber_40 (by rfl) ?_
          refine o_getf hC (fX2_122 hC rfl) dX2_foldedNumber_41 (by repeat (first | with_reducible assumption | (rw [rl_u_s]; done) | (rw [rl_u_s]; rfl) | rw [rl_u_n (by first | with_reducible assumption | omega)])) (by first | rfl | with_reducible assumption) ?_
          refine o_ialdN (t0 := 0) (k := c5) hC rfl dX2_foldedNumber_44 e2 (by omega) (by decide) ?_
          refine o_istore hC dX2_foldedNumber_45 (Nat.le_of_ble_eq_true rfl) ?_
          refine o_iload hC dX2_foldedNumber_47 (by rfl) ?_
          refine o_iload hC dX2_foldedNumber_49 (by rfl) ?_
          refine o_iadd hC dX2_foldedNumber_51 ?_
          refine o_istore hC dX2_foldedNumber_52 (Nat.le_of_ble_eq_true rfl) ?_
          refine o_iload hC dX2_foldedNumber_54 (by rfl) ?_
          refine o_if_ne (tgt := 64) hC dX2_foldedNumber_56 (by decide) (fun c_56 => ?_) (fun c_56 => ?_)
          · refine o_iload hC dX2_foldedNumber_64 (by rfl) ?_
            refine o_iload hC dX2_foldedNumber_66 (by rfl) ?_
            refine o_mmin hC (by exact hB.2.2.2.2.2) (rl_bw 491 (by decide +kernel) (by decide +kernel)) SJ9_min_7cf53 YJ9_min_7cf53.2.1 YJ9_min_7cf53.1 (by rw [hB.2.1]; first | exact Nat.le_of_ble_eq_true rfl | (dsimp only; omega)) (by rw [hB.2.1]; first | exact Nat.le_of_ble_eq_true rfl | (dsimp only; omega)) (by rw [hB.2.1]; first | exact Nat.le_of_ble_eq_true rfl | (dsimp only; omega)) (by rw [hB.2.1]; first | exact Nat.le_of_ble_eq_true rfl | (dsimp only; omega)) dX2_foldedNumber_68 ?_
            refine o_istore hC dX2_foldedNumber_71 (Nat.le_of_ble_eq_true rfl) ?_
            refine o_iload hC dX2_foldedNumber_73 (by rfl) ?_
            refine o_if_ne (tgt := 83) hC dX2_foldedNumber_75 (by decide) (fun c_75 => ?_) (fun c_75 => ?_)
            · refine o_iload hC dX2_foldedNumber_83 (by rfl) ?_
              refine o_iload hC dX2_foldedNumber_85 (by rfl) ?_
              refine o_mmax hC (by exact hB.2.2.2.2.2) (rl_bw 492 (by decide +kernel) (by decide +kernel)) SJ9_max_7cf53 YJ9_max_7cf53.2.1 YJ9_max_7cf53.1 (by rw [hB.2.1]; first | exact Nat.le_of_ble_eq_true rfl | (dsimp only; omega)) (by rw [hB.2.1]; first | exact Nat.le_of_ble_eq_true rfl | (dsimp only; omega)) (by rw [hB.2.1]; first | exact Nat.le_of_ble_eq_true rfl | (dsimp only; omega)) (by rw [hB.2.1]; first | exact Nat.le_of_ble_eq_true rfl | (dsimp only; omega)) dX2_foldedNumber_87 ?_
              refine o_istore hC dX2_foldedNumber_90 (Nat.le_of_ble_eq_true rfl) ?_
              refine o_iinc hC dX2_foldedNumber_92 (by rfl) (rl_inc _) (Nat.le_of_ble_eq_true rfl) ?_
              refine o_iinc hC dX2_foldedNumber_95 (by rfl) (rl_inc _) (Nat.le_of_ble_eq_true rfl) ?_
              refine o_goto (tgt := 15) hC dX2_foldedNumber_98 (by decide) ?_
              exact ih (j + 1) _ _ _ _ _ (by omega)
            · refine o_iload hC dX2_foldedNumber_78 (by rfl) ?_
              refine o_goto (tgt := 90) hC dX2_foldedNumber_80 (by decide) ?_
              refine o_istore hC dX2_foldedNumber_90 (Nat.le_of_ble_eq_true rfl) ?_
              refine o_iinc hC dX2_foldedNumber_92 (by rfl) (rl_inc _) (Nat.le_of_ble_eq_true rfl) ?_
              refine o_iinc hC dX2_foldedNumber_95 (by rfl) (rl_inc _) (Nat.le_of_ble_eq_true rfl) ?_
              refine o_goto (tgt := 15) hC dX2_foldedNumber_98 (by decide) ?_
              exact ih (j + 1) _ _ _ _ _ (by omega)
          · refine o_iload hC dX2_foldedNumber_59 (by rfl) ?_
            refine o_goto (tgt := 71) hC dX2_foldedNumber_61 (by decide) ?_
            refine o_istore hC dX2_foldedNumber_71 (Nat.le_of_ble_eq_true rfl) ?_
            refine o_iload hC dX2_foldedNumber_73 (by rfl) ?_
            refine o_if_ne (tgt := 83) hC dX2_foldedNumber_75 (by decide) (fun c_75 => ?_) (fun c_75 => ?_)
            · refine o_iload hC dX2_foldedNumber_83 (by rfl) ?_
              refine o_iload hC dX2_foldedNumber_85 (by rfl) ?_
              refine o_mmax hC (by exact hB.2.2.2.2.2) (rl_bw 492 (by decide +kernel) (by decide +kernel)) SJ9_max_7cf53 YJ9_max_7cf53.2.1 YJ9_max_7cf53.1 (by rw [hB.2.1]; first | exact Nat.le_of_ble_eq_true rfl | (dsimp only; omega)) (by rw [hB.2.1]; first | exact Nat.le_of_ble_eq_true rfl | (dsimp only; omega)) (by rw [hB.2.1]; first | exact Nat.le_of_ble_eq_true rfl | (dsimp only; omega)) (by rw [hB.2.1]; first | exact Nat.le_of_ble_eq_true rfl | (dsimp only; omega)) dX2_foldedNumber_87 ?_
              refine o_istore hC dX2_foldedNumber_90 (Nat.le_of_ble_eq_true rfl) ?_
              refine o_iinc hC dX2_foldedNumber_92 (by rfl) (rl_inc _) (Nat.le_of_ble_eq_true rfl) ?_
              refine o_iinc hC dX2_foldedNumber_95 (by rfl) (rl_inc _) (Nat.le_of_ble_eq_true rfl) ?_
              refine o_goto (tgt := 15) hC dX2_foldedNumber_98 (by decide) ?_
              exact ih (j + 1) _ _ _ _ _ (by omega)
            · refine o_iload hC dX2_foldedNumber_78 (by rfl) ?_
              refine o_goto (tgt := 90) hC dX2_foldedNumber_80 (by decide) ?_
              refine o_istore hC dX2_foldedNumber_90 (Nat.le_of_ble_eq_true rfl) ?_
              refine o_iinc hC dX2_foldedNumber_92 (by rfl) (rl_inc _) (Nat.le_of_ble_eq_true rfl) ?_
              refine o_iinc hC dX2_foldedNumber_95 (by rfl) (rl_inc _) (Nat.le_of_ble_eq_true rfl) ?_
              refine o_goto (tgt := 15) hC dX2_foldedNumber_98 (by decide) ?_
              exact ih (j + 1) _ _ _ _ _ (by omega)
  show rl_G X (rl_e D ids H0) 0 [some (.ref o), some (.ref nd), some (.int st), some (.int (nI k)), none, none, none, none, none, none] [] h n 0 0
  refine o_iconst (v := nI 0) hC dX2_foldedNumber_0 (by decide +kernel) ?_
  refine o_istore hC dX2_foldedNumber_1 (Nat.le_of_ble_eq_true rfl) ?_
  refine o_iconst (v := nI 0) hC dX2_foldedNumber_3 (by decide +kernel) ?_
  refine o_istore hC dX2_foldedNumber_4 (Nat.le_of_ble_eq_true rfl) ?_
  refine o_iconst (v := nI 0) hC dX2_foldedNumber_6 (by decide +kernel) ?_
  refine o_istore hC dX2_foldedNumber_7 (Nat.le_of_ble_eq_true rfl) ?_
  refine o_iconst (v := nI 0) hC dX2_foldedNumber_9 (by decide +kernel) ?_
  refine o_istore hC dX2_foldedNumber_10 (Nat.le_of_ble_eq_true rfl) ?_
  refine o_iconst (v := nI 0) hC dX2_foldedNumber_12 (by decide +kernel) ?_
  refine o_istore hC dX2_foldedNumber_13 (Nat.le_of_ble_eq_true rfl) ?_
  exact loop k 0 0 _ _ _ _ (by omega)
end
section
/-! Operators by shapes: putGroup, fillFold -/
theorem rl_sh1 {k : Nat} (hk : k ≤ 4) : ∃ M : Nat, M ≤ 16 ∧ 1 ≤ M ∧ (1 < M → 1 ≤ k) ∧ nI 1 <<< (nI k &&& 31) = nI M := by
  rcases (show k = 0 ∨ k = 1 ∨ k = 2 ∨ k = 3 ∨ k = 4 by omega) with rfl | rfl | rfl | rfl | rfl
  · exact ⟨1, by omega, by omega, by omega, by decide +kernel⟩
  · exact ⟨2, by omega, by omega, by omega, by decide +kernel⟩
  · exact ⟨4, by omega, by omega, by omega, by decide +kernel⟩
  · exact ⟨8, by omega, by omega, by omega, by decide +kernel⟩
  · exact ⟨16, by omega, by omega, by omega, by decide +kernel⟩

set_option maxHeartbeats 4000000 in
set_option maxRecDepth 100000 in
theorem ct_X2_putGroup (l : Launch) (D : va_G) (ids : Nat → ClassId) (H0 : Heap) (h : rl_H) (n : Nat) (o so a wd a1 sz1 wd1 k nd c4 c5 kd : Nat) (gp : Nat → Option Nat) (P1 : Nat → Nat) (S1 : tb_S) (f0 f1 f2 f3 f7 f8 : Int32) (ho : op_sh ids h o so gp) (ht : tb_ok ids h a wd) (hoa : o + 22 ≤ a ∨ a + 402 ≤ o) (hia : a1 + 402 ≤ a ∨ a + 402 ≤ a1) (hi : tb_at ids h a1 sz1 wd1 P1 S1) (hoi : o + 22 ≤ a1 ∨ a1 + 402 ≤ o) (hk4 : k ≤ 4) (hg : ∀ j, j < k → ∃ i : Nat, i < 80 ∧ gp j = some (a1 + 2 + 5 * i)) (hnd : h nd = some (.inr (1, [.int f0, .int f1, .int f2, .int f3, .int (nI c4), .int (nI c5), .int (nI kd), .int f7, .int f8]))) (h4 : c4 < 6) (h5 : c5 < 6) (h6 : kd ≤ 3) (hno : nd < o ∨ o + 22 ≤ nd) (hna : nd < a ∨ a + 402 ≤ nd) : rl_Met l (rl_e D ids H0) rl_BW rl_Ns yX2_putGroup cX2_putGroup 5 (some .boolean) ({ frames := 4, cells := 0, slots := 0, locals := 149 }) [.ref o, .ref nd, .int (nI k), .ref a] h n (fun v h' n' => ∃ x : Int32, v = some (.int x) ∧ n' = n ∧ (x = nI 0 ∨ x = nI 1) ∧ (∃ gp' : Nat → Option Nat, op_sh ids h' o so gp') ∧ tb_ok ids h' a wd ∧ rl_g2 h h' o (o + 22) a (a + 402)) := by
  refine rl_Met.of (by decide +kernel) (Nat.le_of_ble_eq_true rfl) ?_
  intro X hC hB
  obtain ⟨M, hM, hM1, hM2, hsh⟩ := rl_sh1 hk4
  have loop : ∀ (m s : Nat) (h1 : rl_H), s + m = M → 1 ≤ s → op_sh ids h1 o so gp → tb_ok ids h1 a wd → rl_g2 h h1 o (o + 22) a (a + 402) → rl_G X (rl_e D ids H0) 13 [some (.ref o), some (.ref nd), some (.int (nI k)), some (.ref a), some (.int (nI s))] [] h1 n 0 0 := by
    intro m
    induction m with
    | zero =>
      intro s h1 hm hs1 ho1 ht1 hf
      refine o_iload hC dX2_putGroup_13 (by rfl) ?_
      refine o_iconst (v := nI 1) hC dX2_putGroup_15 (by decide +kernel) ?_
      refine o_iload_n hC dX2_putGroup_16 (by rfl) ?_
      refine o_ishl hC dX2_putGroup_17 ?_
      rw [hsh]
      refine o_icmp_ge (tgt := 89) hC dX2_putGroup_18 (by decide) (fun c_18 => ?_) (fun c_18 => ?_)
      · refine o_iconst (v := nI 1) hC dX2_putGroup_89 (by decide +kernel) ?_
        refine o_zret hC hB dX2_putGroup_90 (by first | rfl | decide +kernel) (Nat.le_of_ble_eq_true rfl) (Nat.le_of_ble_eq_true rfl) ?_
        exact ⟨_, rfl, rfl, Or.inr rfl, ⟨_, ho1⟩, ht1, hf⟩
      · exact absurd (nI_le (by omega) (by omega)) c_18
    | succ m ih =>
      intro s h1 hm hs1 ho1 ht1 hf
      obtain ⟨o0, ⟨ds, od⟩, ⟨mf, mg, mk, om⟩, ⟨tp, o7, o7b⟩, o8, ⟨kc, o9⟩, ot⟩ := id ho1
      obtain ⟨sz0, P0, S0, ht0⟩ := id ht1
      have n1 := (hf nd (by omega) (by omega)).trans hnd
      obtain ⟨i, hi80, hg0⟩ := hg 0 (by omega)
      have hi1 := hi.eqv (h' := h1) (fun q q1 q2 => hf q (by omega) (by omega))
      obtain ⟨e1, e2, e3⟩ := hi1.2.2.2.1 i hi80
      refine o_iload hC dX2_putGroup_13 (by rfl) ?_
      refine o_iconst (v := nI 1) hC dX2_putGroup_15 (by decide +kernel) ?_
      refine o_iload_n hC dX2_putGroup_16 (by rfl) ?_
      refine o_ishl hC dX2_putGroup_17 ?_
      rw [hsh]
      refine o_icmp_ge (tgt := 89) hC dX2_putGroup_18 (by decide) (fun c_18 => ?_) (fun c_18 => ?_)
      · exact absurd c_18 (nI_ge (by omega) (by omega))
      · refine o_aload_n hC dX2_putGroup_21 (by rfl) ?_
        refine o_getf hC (fX2_35 hC rfl) dX2_putGroup_22 (by repeat (first | with_reducible assumption | (rw [rl_u_s]; done) | (rw [rl_u_s]; rfl) | rw [rl_u_n (by first | with_reducible assumption | omega)])) (by first | rfl | with_reducible assumption) ?_
        refine o_iconst (v := nI 0) hC dX2_putGroup_25 (by decide +kernel) ?_
        refine o_aload_n hC dX2_putGroup_26 (by rfl) ?_
        refine o_getf hC (fX2_31 hC rfl) dX2_putGroup_27 (by repeat (first | with_reducible assumption | (rw [rl_u_s]; done) | (rw [rl_u_s]; rfl) | rw [rl_u_n (by first | with_reducible assumption | omega)])) (by first | rfl | with_reducible assumption) ?_
        refine o_iconst (v := nI 0) hC dX2_putGroup_30 (by decide +kernel) ?_
        refine o_aaldN (t0 := 3) (k := 0) hC rfl dX2_putGroup_31 o8 (by omega) (by decide) ?_
        rw [hg0]
        show rl_G X _ _ _ (.ref _ :: _) _ _ _ _
        refine o_getf hC (fX2_109 hC rfl) dX2_putGroup_32 (by repeat (first | with_reducible assumption | (rw [rl_u_s]; done) | (rw [rl_u_s]; rfl) | rw [rl_u_n (by first | with_reducible assumption | omega)])) (by first | rfl | with_reducible assumption) ?_
        refine o_aload_n hC dX2_putGroup_35 (by rfl) ?_
        refine o_getf hC (fX2_119 hC rfl) dX2_putGroup_36 (by repeat (first | with_reducible assumption | (rw [rl_u_s]; done) | (rw [rl_u_s]; rfl) | rw [rl_u_n (by first | with_reducible assumption | omega)])) (by first | rfl | with_reducible assumption) ?_
        refine o_ialdN (t0 := 0) (k := c4) hC rfl dX2_putGroup_39 e2 (by omega) (by decide) ?_
        refine o_iastN (t0 := 0) (k := 0) hC rfl dX2_putGroup_40 o9 (by decide) (by decide) ?_
        have f9 : ∀ q, q ≠ o + 9 → (rl_u h1 (o + 9) (.inl (ids 0, 6, .inl (upd kc 0 (S1.1 i c4))))) q = h1 q := fun q hq => rl_u_n hq
        have k9 : (rl_u h1 (o + 9) (.inl (ids 0, 6, .inl (upd kc 0 (S1.1 i c4))))) (o + 9) = some (.inl (ids 0, 6, .inl (upd kc 0 (S1.1 i c4)))) := rl_u_s
        generalize (rl_u h1 (o + 9) (.inl (ids 0, 6, .inl (upd kc 0 (S1.1 i c4))))) = hh at f9 k9 ⊢
        have ho2 : op_sh ids hh o so gp := ho1.ky k9 (fun q q1 q2 q3 => f9 q q3)
        have z0 := ho2.1
        have hi2 := hi1.eqv (h' := hh) (fun q q1 q2 => f9 q (by omega))
        have n2 := (f9 nd (by omega)).trans n1
        refine o_aload_n hC dX2_putGroup_41 (by rfl) ?_
        refine o_getf hC (fX2_35 hC rfl) dX2_putGroup_42 (by repeat (first | with_reducible assumption | (rw [rl_u_s]; done) | (rw [rl_u_s]; rfl) | rw [rl_u_n (by first | with_reducible assumption | omega)])) (by first | rfl | with_reducible assumption) ?_
        refine o_iconst (v := nI 1) hC dX2_putGroup_45 (by decide +kernel) ?_
        refine o_aload_n hC dX2_putGroup_46 (by rfl) ?_
        refine o_aload_n hC dX2_putGroup_47 (by rfl) ?_
        refine o_iload hC dX2_putGroup_48 (by rfl) ?_
        refine o_iload_n hC dX2_putGroup_50 (by rfl) ?_
        refine o_callV3 hC rl_BW_good rl_Ns_nw (by exact hB.2.2.2.2.2) YX2_foldedNumber IX2_foldedNumber VX2_foldedNumber (mX2_171 hC) (by rw [hB.1]; exact ct_X2_foldedNumber l D ids H0 _ _ o so a1 sz1 wd1 k gp P1 S1 _ nd c5 kd _ _ _ _ _ _ _ ho2 hi2 hoi hk4 hg n2 h5 h6) (by exact z0) rfl rfl (Nat.le_of_ble_eq_true rfl) (by rw [hB.2.1]; first | exact Nat.le_of_ble_eq_true rfl | (dsimp only; omega)) (by rw [hB.2.1]; first | exact Nat.le_of_ble_eq_true rfl | (dsimp only; omega)) (by rw [hB.2.1]; first | exact Nat.le_of_ble_eq_true rfl | (dsimp only; omega)) (by rw [hB.2.1]; first | exact Nat.le_of_ble_eq_true rfl | (dsimp only; omega)) dX2_putGroup_51 (fun v h_51 n_51 p_51 => ?_)
        obtain ⟨x5, rfl, rfl, rfl⟩ := p_51
        try dsimp only [Option.toList, List.cons_append, List.nil_append]
        refine o_iastN (t0 := 0) (k := 1) hC rfl dX2_putGroup_54 k9 (by decide) (by decide) ?_
        refine o_aload_n hC dX2_putGroup_55 (by rfl) ?_
        refine o_iload hC dX2_putGroup_56 (by rfl) ?_
        refine o_iload_n hC dX2_putGroup_58 (by rfl) ?_
        refine o_callV2 hC rl_BW_good rl_Ns_nw (by exact hB.2.2.2.2.2) YX2_makeWaysOfSet IX2_makeWaysOfSet VX2_makeWaysOfSet (mX2_175 hC) (by rw [hB.1]; exact ct_X2_makeWaysOfSet l D ids H0 _ _ o so a1 sz1 wd1 k gp P1 S1 _ (ho2.ky rl_u_s (fun q q1 q2 q3 => rl_u_n q3)) (hi2.eqv (fun q q1 q2 => rl_u_n (by omega))) hoi hk4 hg) (by rw [rl_u_n (by omega)]; exact z0) rfl rfl (Nat.le_of_ble_eq_true rfl) (by rw [hB.2.1]; first | exact Nat.le_of_ble_eq_true rfl | (dsimp only; omega)) (by rw [hB.2.1]; first | exact Nat.le_of_ble_eq_true rfl | (dsimp only; omega)) (by rw [hB.2.1]; first | exact Nat.le_of_ble_eq_true rfl | (dsimp only; omega)) (by rw [hB.2.1]; first | exact Nat.le_of_ble_eq_true rfl | (dsimp only; omega)) dX2_putGroup_59 (fun v h_59 n_59 p_59 => ?_)
        obtain ⟨x6, rfl, rfl, -, u1, u2⟩ := p_59
        have w9 : ∀ q, (q < o ∨ o + 22 ≤ q) → h_59 q = h1 q := fun q hq => by rw [u2 q (by omega), rl_u_n (by omega)]; exact f9 q (by omega)
        have ht3 : tb_at ids h_59 a sz0 wd P0 S0 := ht0.eqv (fun q q1 q2 => w9 q (by omega))
        obtain ⟨y0, -, ⟨yf, yg, yk, zm⟩, -, -, ⟨kc3, zk⟩, -⟩ := id u1
        try dsimp only [Option.toList, List.cons_append, List.nil_append]
        refine o_if_eq (tgt := 81) hC dX2_putGroup_62 (by decide) (fun c_62 => ?_) (fun c_62 => ?_)
        · refine o_iconst (v := nI 0) hC dX2_putGroup_81 (by decide +kernel) ?_
          refine o_zret hC hB dX2_putGroup_82 (by first | rfl | decide +kernel) (Nat.le_of_ble_eq_true rfl) (Nat.le_of_ble_eq_true rfl) ?_
          first
          | exact ⟨_, rfl, rfl, Or.inl rfl, ⟨_, q1⟩, q2, hf.tr (fun q z1 z2 => (q3 q (by omega) (by omega)).trans (w9 q (by omega)))⟩
          | exact ⟨_, rfl, rfl, Or.inl rfl, ⟨_, u1⟩, ⟨_, _, _, ht3⟩, hf.tr (fun q z1 z2 => w9 q (by omega))⟩
        · refine o_aload_n hC dX2_putGroup_65 (by rfl) ?_
          refine o_aload_n hC dX2_putGroup_66 (by rfl) ?_
          refine o_aload_n hC dX2_putGroup_67 (by rfl) ?_
          refine o_getf hC (fX2_35 hC rfl) dX2_putGroup_68 (by repeat (first | with_reducible assumption | (rw [rl_u_s]; done) | (rw [rl_u_s]; rfl) | rw [rl_u_n (by first | with_reducible assumption | omega)])) (by first | rfl | with_reducible assumption) ?_
          refine o_aload_n hC dX2_putGroup_71 (by rfl) ?_
          refine o_getf hC (fX2_21 hC rfl) dX2_putGroup_72 (by repeat (first | with_reducible assumption | (rw [rl_u_s]; done) | (rw [rl_u_s]; rfl) | rw [rl_u_n (by first | with_reducible assumption | omega)])) (by first | rfl | with_reducible assumption) ?_
          refine o_callV3 hC rl_BW_good rl_Ns_nw (by exact hB.2.2.2.2.2) YX2_put IX2_put VX2_put (mX2_99 hC) (by rw [hB.1]; exact ct_X2_put l D ids H0 _ _ o so a (o + 4) (o + 9) sz0 wd _ _ P0 S0 _ _ _ u1 ht3 zk zm (by omega) (by omega) (by omega) (by omega)) (by exact u1.1) rfl rfl (Nat.le_of_ble_eq_true rfl) (by rw [hB.2.1]; first | exact Nat.le_of_ble_eq_true rfl | (dsimp only; omega)) (by rw [hB.2.1]; first | exact Nat.le_of_ble_eq_true rfl | (dsimp only; omega)) (by rw [hB.2.1]; first | exact Nat.le_of_ble_eq_true rfl | (dsimp only; omega)) (by rw [hB.2.1]; first | exact Nat.le_of_ble_eq_true rfl | (dsimp only; omega)) dX2_putGroup_75 (fun v h_75 n_75 p_75 => ?_)
          obtain ⟨x, rfl, rfl, q0, q1, q2, q3⟩ := p_75
          try dsimp only [Option.toList, List.cons_append, List.nil_append]
          refine o_if_ne (tgt := 83) hC dX2_putGroup_78 (by decide) (fun c_78 => ?_) (fun c_78 => ?_)
          · refine o_iinc hC dX2_putGroup_83 (by rfl) (rl_inc _) (Nat.le_of_ble_eq_true rfl) ?_
            refine o_goto (tgt := 13) hC dX2_putGroup_86 (by decide) ?_
            exact ih (s + 1) _ (by omega) (by omega) q1 q2 (hf.tr (fun q z1 z2 => (q3 q (by omega) (by omega)).trans (w9 q (by omega))))
          · refine o_iconst (v := nI 0) hC dX2_putGroup_81 (by decide +kernel) ?_
            refine o_zret hC hB dX2_putGroup_82 (by first | rfl | decide +kernel) (Nat.le_of_ble_eq_true rfl) (Nat.le_of_ble_eq_true rfl) ?_
            first
            | exact ⟨_, rfl, rfl, Or.inl rfl, ⟨_, q1⟩, q2, hf.tr (fun q z1 z2 => (q3 q (by omega) (by omega)).trans (w9 q (by omega)))⟩
            | exact ⟨_, rfl, rfl, Or.inl rfl, ⟨_, u1⟩, ⟨_, _, _, ht3⟩, hf.tr (fun q z1 z2 => w9 q (by omega))⟩
  show rl_G X (rl_e D ids H0) 0 [some (.ref o), some (.ref nd), some (.int (nI k)), some (.ref a), none] [] h n 0 0
  refine o_aload_n hC dX2_putGroup_0 (by rfl) ?_
  refine o_iload_n hC dX2_putGroup_1 (by rfl) ?_
  refine o_callV1 hC rl_BW_good rl_Ns_nw (by exact hB.2.2.2.2.2) YX2_turnGroup IX2_turnGroup VX2_turnGroup (mX2_167 hC) (by rw [hB.1]; exact ct_X2_turnGroup l D ids H0 _ _ o so a1 sz1 wd1 k gp P1 S1 ho hi hoi hk4 hg) (by exact ho.1) rfl rfl (Nat.le_of_ble_eq_true rfl) (by rw [hB.2.1]; first | exact Nat.le_of_ble_eq_true rfl | (dsimp only; omega)) (by rw [hB.2.1]; first | exact Nat.le_of_ble_eq_true rfl | (dsimp only; omega)) (by rw [hB.2.1]; first | exact Nat.le_of_ble_eq_true rfl | (dsimp only; omega)) (by rw [hB.2.1]; first | exact Nat.le_of_ble_eq_true rfl | (dsimp only; omega)) dX2_putGroup_2 (fun v h_2 n_2 p_2 => ?_)
  obtain ⟨x0, rfl, rfl, -, v1, v2⟩ := p_2
  have v3 : tb_ok ids h_2 a wd := ht.eqv (fun q q1 q2 => v2 q (by omega))
  try dsimp only [Option.toList, List.cons_append, List.nil_append]
  refine o_if_ne (tgt := 10) hC dX2_putGroup_5 (by decide) (fun c_5 => ?_) (fun c_5 => ?_)
  · refine o_iconst (v := nI 1) hC dX2_putGroup_10 (by decide +kernel) ?_
    refine o_istore hC dX2_putGroup_11 (Nat.le_of_ble_eq_true rfl) ?_
    exact loop (M - 1) 1 _ (by omega) (Nat.le_refl _) v1 v3 v2.g1
  · refine o_iconst (v := nI 0) hC dX2_putGroup_8 (by decide +kernel) ?_
    refine o_zret hC hB dX2_putGroup_9 (by first | rfl | decide +kernel) (Nat.le_of_ble_eq_true rfl) (Nat.le_of_ble_eq_true rfl) ?_
    exact ⟨_, rfl, rfl, Or.inl rfl, ⟨_, v1⟩, v3, v2.g1⟩

set_option maxHeartbeats 4000000 in
set_option maxRecDepth 100000 in
theorem ct_X2_fillFold (l : Launch) (D : va_G) (ids : Nat → ClassId) (H0 : Heap) (h : rl_H) (n : Nat) (o so a a1 sz1 wd wd1 : Nat) (gp : Nat → Option Nat) (P1 : Nat → Nat) (S1 : tb_S) (nd c4 c5 kd : Nat) (f0 f1 f2 f3 f7 f8 : Int32) (ho : op_sh ids h o so gp) (ht : tb_ok ids h a wd) (hi : tb_at ids h a1 sz1 wd1 P1 S1) (hoa : o + 22 ≤ a ∨ a + 402 ≤ o) (hoi : o + 22 ≤ a1 ∨ a1 + 402 ≤ o) (hia : a1 + 402 ≤ a ∨ a + 402 ≤ a1) (hnd : h nd = some (.inr (1, [.int f0, .int f1, .int f2, .int f3, .int (nI c4), .int (nI c5), .int (nI kd), .int f7, .int f8]))) (h4 : c4 < 6) (h5 : c5 < 6) (h6 : kd ≤ 3) (hno : nd < o ∨ o + 22 ≤ nd) (hna : nd < a ∨ a + 402 ≤ nd) : rl_Met l (rl_e D ids H0) rl_BW rl_Ns yX2_fillFold cX2_fillFold 6 (some .boolean) ({ frames := 5, cells := 0, slots := 0, locals := 173 }) [.ref o, .ref nd, .ref a1, .ref a] h n (fun v h' n' => ∃ x : Int32, v = some (.int x) ∧ n' = n ∧ (x = nI 0 ∨ x = nI 1) ∧ (∃ gp' : Nat → Option Nat, op_sh ids h' o so gp') ∧ tb_ok ids h' a wd ∧ rl_g2 h h' o (o + 22) a (a + 402)) := by
  refine rl_Met.of (by decide +kernel) (Nat.le_of_ble_eq_true rfl) ?_
  intro X hC hB
  have loop : ∀ (m t : Nat) (o5 : Option Value) (h1 : rl_H) (gp1 : Nat → Option Nat), t + m = sz1 → op_sh ids h1 o so gp1 → tb_ok ids h1 a wd → rl_g2 h h1 o (o + 22) a (a + 402) → rl_G X (rl_e D ids H0) 3 [some (.ref o), some (.ref nd), some (.ref a1), some (.ref a), some (.int (nI t)), o5] [] h1 n 0 0 := by
    intro m
    induction m with
    | zero =>
      intro t o5 h1 gp1 hm ho1 ht1 hf
      obtain ⟨t1, ⟨tf, t2, t3⟩, t4, t5, t6, t7⟩ := hi.eqv (h' := h1) (fun q q1 q2 => hf q (by omega) (by omega))
      refine o_iload hC dX2_fillFold_3 (by rfl) ?_
      refine o_aload_n hC dX2_fillFold_5 (by rfl) ?_
      refine o_getf hC (fX2_103 hC rfl) dX2_fillFold_6 (by repeat (first | with_reducible assumption | (rw [rl_u_s]; done) | (rw [rl_u_s]; rfl) | rw [rl_u_n (by first | with_reducible assumption | omega)])) (by first | rfl | with_reducible assumption) ?_
      refine o_icmp_ge (tgt := 63) hC dX2_fillFold_9 (by decide) (fun c_9 => ?_) (fun c_9 => ?_)
      · refine o_iconst (v := nI 1) hC dX2_fillFold_63 (by decide +kernel) ?_
        refine o_zret hC hB dX2_fillFold_64 (by first | rfl | decide +kernel) (Nat.le_of_ble_eq_true rfl) (Nat.le_of_ble_eq_true rfl) ?_
        exact ⟨_, rfl, rfl, Or.inr rfl, ⟨_, ho1⟩, ht1, hf⟩
      · exact absurd (nI_le (by omega) (by omega)) c_9
    | succ m ih =>
      intro t o5 h1 gp1 hm ho1 ht1 hf
      have hi1 := hi.eqv (h' := h1) (fun q q1 q2 => hf q (by omega) (by omega))
      obtain ⟨t1, -, -, -, t6, -⟩ := id hi1
      have n1 := (hf nd (by omega) (by omega)).trans hnd
      refine o_iload hC dX2_fillFold_3 (by rfl) ?_
      refine o_aload_n hC dX2_fillFold_5 (by rfl) ?_
      refine o_getf hC (fX2_103 hC rfl) dX2_fillFold_6 (by repeat (first | with_reducible assumption | (rw [rl_u_s]; done) | (rw [rl_u_s]; rfl) | rw [rl_u_n (by first | with_reducible assumption | omega)])) (by first | rfl | with_reducible assumption) ?_
      refine o_icmp_ge (tgt := 63) hC dX2_fillFold_9 (by decide) (fun c_9 => ?_) (fun c_9 => ?_)
      · exact absurd c_9 (nI_ge (by omega) (by omega))
      · refine o_aload_n hC dX2_fillFold_12 (by rfl) ?_
        refine o_iload hC dX2_fillFold_13 (by rfl) ?_
        refine o_aload_n hC dX2_fillFold_15 (by rfl) ?_
        refine o_getf hC (fX2_119 hC rfl) dX2_fillFold_16 (by repeat (first | with_reducible assumption | (rw [rl_u_s]; done) | (rw [rl_u_s]; rfl) | rw [rl_u_n (by first | with_reducible assumption | omega)])) (by first | rfl | with_reducible assumption) ?_
        refine o_callS3 hC rl_BW_good rl_Ns_nw (by exact hB.2.2.2.2.2) YX2_isFirstOfGroup SX2_isFirstOfGroup (mX2_155 hC) (by rw [hB.1]; exact ct_X2_isFirstOfGroup l D ids H0 _ _ a1 sz1 wd1 t c4 P1 S1 hi1 (by omega) h4) (Nat.le_of_ble_eq_true rfl) (by rw [hB.2.1]; first | exact Nat.le_of_ble_eq_true rfl | (dsimp only; omega)) (by rw [hB.2.1]; first | exact Nat.le_of_ble_eq_true rfl | (dsimp only; omega)) (by rw [hB.2.1]; first | exact Nat.le_of_ble_eq_true rfl | (dsimp only; omega)) (by rw [hB.2.1]; first | exact Nat.le_of_ble_eq_true rfl | (dsimp only; omega)) dX2_fillFold_19 (fun v h_19 n_19 p_19 => ?_)
        obtain ⟨x0, rfl, rfl, rfl, -⟩ := p_19
        try dsimp only [Option.toList, List.cons_append, List.nil_append]
        refine o_if_eq (tgt := 57) hC dX2_fillFold_22 (by decide) (fun c_22 => ?_) (fun c_22 => ?_)
        · refine o_iinc hC dX2_fillFold_57 (by rfl) (rl_inc _) (Nat.le_of_ble_eq_true rfl) ?_
          refine o_goto (tgt := 3) hC dX2_fillFold_60 (by decide) ?_
          first
          | exact ih (t + 1) _ _ _ (by omega) q1 q2 (hf.tr (fun q z1 z2 => (q3 q (by omega) (by omega)).trans (v3 q (by omega))))
          | exact ih (t + 1) _ _ _ (by omega) ho1 ht1 hf
        · refine o_aload_n hC dX2_fillFold_25 (by rfl) ?_
          refine o_aload_n hC dX2_fillFold_26 (by rfl) ?_
          refine o_iload hC dX2_fillFold_27 (by rfl) ?_
          refine o_aload_n hC dX2_fillFold_29 (by rfl) ?_
          refine o_getf hC (fX2_119 hC rfl) dX2_fillFold_30 (by repeat (first | with_reducible assumption | (rw [rl_u_s]; done) | (rw [rl_u_s]; rfl) | rw [rl_u_n (by first | with_reducible assumption | omega)])) (by first | rfl | with_reducible assumption) ?_
          refine o_callV3 hC rl_BW_good rl_Ns_nw (by exact hB.2.2.2.2.2) YX2_gatherGroup IX2_gatherGroup VX2_gatherGroup (mX2_159 hC) (by rw [hB.1]; exact ct_X2_gatherGroup l D ids H0 _ _ o so a1 sz1 wd1 t c4 _ P1 S1 ho1 hi1 hoi (by omega) h4) (by exact ho1.1) rfl rfl (Nat.le_of_ble_eq_true rfl) (by rw [hB.2.1]; first | exact Nat.le_of_ble_eq_true rfl | (dsimp only; omega)) (by rw [hB.2.1]; first | exact Nat.le_of_ble_eq_true rfl | (dsimp only; omega)) (by rw [hB.2.1]; first | exact Nat.le_of_ble_eq_true rfl | (dsimp only; omega)) (by rw [hB.2.1]; first | exact Nat.le_of_ble_eq_true rfl | (dsimp only; omega)) dX2_fillFold_33 (fun v h_33 n_33 p_33 => ?_)
          obtain ⟨k, hk80, rfl, rfl, gp2, v1, v2, v3⟩ := p_33
          have hi3 := hi1.eqv (h' := h_33) (fun q q1 q2 => v3 q (by omega))
          have n3 := (v3 nd (by omega)).trans n1
          have ht3 : tb_ok ids h_33 a wd := ht1.eqv (fun q q1 q2 => v3 q (by omega))
          try dsimp only [Option.toList, List.cons_append, List.nil_append]
          refine o_istore hC dX2_fillFold_36 (Nat.le_of_ble_eq_true rfl) ?_
          refine o_iload hC dX2_fillFold_38 (by rfl) ?_
          refine o_iconst (v := nI 4) hC dX2_fillFold_40 (by decide +kernel) ?_
          refine o_icmp_gt (tgt := 55) hC dX2_fillFold_41 (by decide) (fun c_41 => ?_) (fun c_41 => ?_)
          · refine o_iconst (v := nI 0) hC dX2_fillFold_55 (by decide +kernel) ?_
            refine o_zret hC hB dX2_fillFold_56 (by first | rfl | decide +kernel) (Nat.le_of_ble_eq_true rfl) (Nat.le_of_ble_eq_true rfl) ?_
            first
            | exact ⟨_, rfl, rfl, Or.inl rfl, ⟨_, q1⟩, q2, hf.tr (fun q z1 z2 => (q3 q (by omega) (by omega)).trans (v3 q (by omega)))⟩
            | exact ⟨_, rfl, rfl, Or.inl rfl, ⟨_, v1⟩, ht3, hf.tr (fun q z1 z2 => v3 q (by omega))⟩
          · have hk4 : k ≤ 4 := by
              rcases Nat.lt_or_ge 4 k with q | q
              · exact absurd (nI_lt q (by omega)) c_41
              · exact q
            refine o_aload_n hC dX2_fillFold_44 (by rfl) ?_
            refine o_aload_n hC dX2_fillFold_45 (by rfl) ?_
            refine o_iload hC dX2_fillFold_46 (by rfl) ?_
            refine o_aload_n hC dX2_fillFold_48 (by rfl) ?_
            refine o_callV3 hC rl_BW_good rl_Ns_nw (by exact hB.2.2.2.2.2) YX2_putGroup IX2_putGroup VX2_putGroup (mX2_163 hC) (by rw [hB.1]; exact ct_X2_putGroup l D ids H0 _ _ o so a wd a1 sz1 wd1 k nd c4 c5 kd gp2 P1 S1 _ _ _ _ _ _ v1 ht3 (by omega) (by omega) hi3 (by omega) hk4 (fun j hj => v2 j hj (by omega)) n3 h4 h5 h6 hno hna) (by exact v1.1) rfl rfl (Nat.le_of_ble_eq_true rfl) (by rw [hB.2.1]; first | exact Nat.le_of_ble_eq_true rfl | (dsimp only; omega)) (by rw [hB.2.1]; first | exact Nat.le_of_ble_eq_true rfl | (dsimp only; omega)) (by rw [hB.2.1]; first | exact Nat.le_of_ble_eq_true rfl | (dsimp only; omega)) (by rw [hB.2.1]; first | exact Nat.le_of_ble_eq_true rfl | (dsimp only; omega)) dX2_fillFold_49 (fun v h_49 n_49 p_49 => ?_)
            obtain ⟨x, rfl, rfl, q0, ⟨gp3, q1⟩, q2, q3⟩ := p_49
            try dsimp only [Option.toList, List.cons_append, List.nil_append]
            refine o_if_ne (tgt := 57) hC dX2_fillFold_52 (by decide) (fun c_52 => ?_) (fun c_52 => ?_)
            · refine o_iinc hC dX2_fillFold_57 (by rfl) (rl_inc _) (Nat.le_of_ble_eq_true rfl) ?_
              refine o_goto (tgt := 3) hC dX2_fillFold_60 (by decide) ?_
              first
              | exact ih (t + 1) _ _ _ (by omega) q1 q2 (hf.tr (fun q z1 z2 => (q3 q (by omega) (by omega)).trans (v3 q (by omega))))
              | exact ih (t + 1) _ _ _ (by omega) ho1 ht1 hf
            · refine o_iconst (v := nI 0) hC dX2_fillFold_55 (by decide +kernel) ?_
              refine o_zret hC hB dX2_fillFold_56 (by first | rfl | decide +kernel) (Nat.le_of_ble_eq_true rfl) (Nat.le_of_ble_eq_true rfl) ?_
              first
              | exact ⟨_, rfl, rfl, Or.inl rfl, ⟨_, q1⟩, q2, hf.tr (fun q z1 z2 => (q3 q (by omega) (by omega)).trans (v3 q (by omega)))⟩
              | exact ⟨_, rfl, rfl, Or.inl rfl, ⟨_, v1⟩, ht3, hf.tr (fun q z1 z2 => v3 q (by omega))⟩
  show rl_G X (rl_e D ids H0) 0 [some (.ref o), some (.ref nd), some (.ref a1), some (.ref a), none, none] [] h n 0 0
  refine o_iconst (v := nI 0) hC dX2_fillFold_0 (by decide +kernel) ?_
  refine o_istore hC dX2_fillFold_1 (Nat.le_of_ble_eq_true rfl) ?_
  exact loop sz1 0 _ h gp (by omega) ho ht rl_g2.rf
end
section
/-! Operators.fill by shapes -/
/-- what a Node's numbers must be, so that its table can be filled -/
def nd_ok (op w : Nat) (f4 f5 f6 f7 : Int32) (wd1 wd2 : Nat) : Prop :=
  op ≤ 6 ∧ w ≤ 6 ∧ (op = 1 → (∃ c4 : Nat, c4 < 6 ∧ f4 = nI c4) ∧ (f5 = -1 ∨ ∃ c5 : Nat, c5 < 6 ∧ f5 = nI c5) ∧ ∃ kd : Nat, kd ≤ 2 ∧ f6 = nI kd) ∧ (op = 2 → ∃ N : Nat, N < 2147483648 ∧ f7 = nI N ∧ ∀ c, c < w → 1 ≤ N / 10 ^ c % 10 ∧ N / 10 ^ c % 10 ≤ 6) ∧
  (op = 3 → (∃ c4 : Nat, c4 < 6 ∧ f4 = nI c4) ∧ (∃ c5 : Nat, c5 < 6 ∧ f5 = nI c5) ∧ wd1 + wd2 ≤ 6) ∧ (op = 6 → (∃ c4 : Nat, c4 < 6 ∧ f4 = nI c4) ∧ (∃ c5 : Nat, c5 < 6 ∧ f5 = nI c5) ∧ ∃ kd : Nat, kd ≤ 3 ∧ f6 = nI kd)
theorem tb_ok.begin {ids : Nat → ClassId} {h h' : rl_H} {a wd w : Nat} (H : tb_ok ids h a wd) (hw : w ≤ 6) (h1 : h' a = some (.inr (4, [.ref (a + 1), .int (nI 0), .int (nI w)]))) (he : ∀ q, q ≠ a → h' q = h q) : tb_ok ids h' a w := by
  obtain ⟨sz, P, S, t1, ⟨f, t2, t3⟩, t4, t5, t6, t7⟩ := H
  exact ⟨0, P, S, h1, ⟨f, by rw [he (a + 1) (by omega)]; exact t2, t3⟩, t4, fun i hi => (t5 i hi).eqv (fun q q1 q2 => he q (by omega)), Nat.zero_le _, hw⟩

set_option maxHeartbeats 4000000 in
set_option maxRecDepth 100000 in
theorem ct_X2_fill (l : Launch) (D : va_G) (ids : Nat → ClassId) (H0 : Heap) (h : rl_H) (n : Nat) (o so a w wd0 op nd a1 a2 sz1 sz2 wd1 wd2 sc rc : Nat) (gp : Nat → Option Nat) (P1 P2 : Nat → Nat) (S1 S2 : tb_S) (wf sf : Nat → Int32) (cf : Nat → Nat → Int32) (f2 f3 f4 f5 f6 f7 f8 : Int32) (ho : op_sh ids h o so gp) (ht : tb_ok ids h a wd0) (hs : so_at ids h so wf sf cf sc rc) (hnd : h nd = some (.inr (1, [.int (nI op), .int (nI w), .int f2, .int f3, .int f4, .int f5, .int f6, .int f7, .int f8]))) (hok : nd_ok op w f4 f5 f6 f7 wd1 wd2) (hoa : o + 22 ≤ a ∨ a + 402 ≤ o) (hso : so + 40 ≤ o ∨ o + 22 ≤ so) (hsa : so + 40 ≤ a ∨ a + 402 ≤ so) (hno : nd < o ∨ o + 22 ≤ nd) (hna : nd < a ∨ a + 402 ≤ nd) (hi : 1 ≤ op → tb_at ids h a1 sz1 wd1 P1 S1 ∧ (o + 22 ≤ a1 ∨ a1 + 402 ≤ o) ∧ (a1 + 402 ≤ a ∨ a + 402 ≤ a1)) (hj : op = 3 ∨ op = 4 ∨ op = 5 → tb_at ids h a2 sz2 wd2 P2 S2 ∧ (o + 22 ≤ a2 ∨ a2 + 402 ≤ o) ∧ (a2 + 402 ≤ a ∨ a + 402 ≤ a2)) : rl_Met l (rl_e D ids H0) rl_BW rl_Ns yX2_fill cX2_fill 6 (some .boolean) ({ frames := 6, cells := 0, slots := 0, locals := 201 }) [.ref o, .ref nd, .ref so, .ref a1, .ref a2, .ref a] h n (fun v h' n' => ∃ x : Int32, v = some (.int x) ∧ n' = n ∧ (x = nI 0 ∨ x = nI 1) ∧ (∃ gp' : Nat → Option Nat, op_sh ids h' o so gp') ∧ tb_ok ids h' a w ∧ rl_g2 h h' o (o + 22) a (a + 402)) := by
  obtain ⟨sz0, P0, S0, ht0⟩ := id ht
  have t1 := ht0.1
  refine rl_Met.of (by decide +kernel) (Nat.le_of_ble_eq_true rfl) ?_
  intro X hC hB
  show rl_G X (rl_e D ids H0) 0 [some (.ref o), some (.ref nd), some (.ref so), some (.ref a1), some (.ref a2), some (.ref a)] [] h n 0 0
  refine o_aload hC dX2_fill_0 (by rfl) ?_
  refine o_aload_n hC dX2_fill_2 (by rfl) ?_
  refine o_getf hC (fX2_39 hC rfl) dX2_fill_3 (by repeat (first | with_reducible assumption | (rw [rl_u_s]; done) | (rw [rl_u_s]; rfl) | rw [rl_u_n (by first | with_reducible assumption | omega)])) (by first | rfl | with_reducible assumption) ?_
  refine o_callV1 hC rl_BW_good rl_Ns_nw (by exact hB.2.2.2.2.2) YX4_begin IX4_begin VX4_begin (mX2_45 hC) (by rw [hB.1]; exact ct_X4_begin l D ids H0 _ _ a _ _ _ _ t1) (by exact t1) rfl rfl (Nat.le_of_ble_eq_true rfl) (by rw [hB.2.1]; first | exact Nat.le_of_ble_eq_true rfl | (dsimp only; omega)) (by rw [hB.2.1]; first | exact Nat.le_of_ble_eq_true rfl | (dsimp only; omega)) (by rw [hB.2.1]; first | exact Nat.le_of_ble_eq_true rfl | (dsimp only; omega)) (by rw [hB.2.1]; first | exact Nat.le_of_ble_eq_true rfl | (dsimp only; omega)) dX2_fill_6 (fun v h_6 n_6 p_6 => ?_)
  obtain ⟨rfl, rfl, b1, b2⟩ := p_6
  have b3 : ∀ q, q ≠ a → h_6 q = h q := fun q hq => b2 q (by omega)
  have ho2 : op_sh ids h_6 o so gp := ho.eqv (fun q q1 q2 => b3 q (by omega))
  have ht2 : tb_ok ids h_6 a w := ht.begin hok.2.1 b1 b3
  have hs2 := hs.eqv (h' := h_6) (fun q q1 q2 => b3 q (by omega))
  have n2 := (b3 nd (by omega)).trans hnd
  have o2 := ho2.1
  try dsimp only [Option.toList, List.cons_append, List.nil_append]
  refine o_aload_n hC dX2_fill_9 (by rfl) ?_
  refine o_getf hC (fX2_51 hC rfl) dX2_fill_10 (by repeat (first | with_reducible assumption | (rw [rl_u_s]; done) | (rw [rl_u_s]; rfl) | rw [rl_u_n (by first | with_reducible assumption | omega)])) (by first | rfl | with_reducible assumption) ?_
  rcases (show op = 0 ∨ op = 1 ∨ op = 2 ∨ op = 3 ∨ op = 4 ∨ op = 5 ∨ op = 6 by have := hok.1; omega) with rfl | rfl | rfl | rfl | rfl | rfl | rfl
  · refine o_tableIn (off := 39) (tgt := 52) hC dX2_fill_13 (by decide +kernel) (by decide +kernel) (by decide +kernel) (by decide) ?_
    refine o_aload_n hC dX2_fill_52 (by rfl) ?_
    refine o_aload_n hC dX2_fill_53 (by rfl) ?_
    refine o_aload_n hC dX2_fill_54 (by rfl) ?_
    refine o_aload hC dX2_fill_55 (by rfl) ?_
    refine o_callV3 hC rl_BW_good rl_Ns_nw (by exact hB.2.2.2.2.2) YX2_fillScan IX2_fillScan VX2_fillScan (mX2_54 hC) (by rw [hB.1]; exact ct_X2_fillScan l D ids H0 _ _ o so a w nd sc rc gp wf sf cf _ _ _ _ _ _ _ _ _ ho2 ht2 hs2 n2 (by omega) (by omega) (by omega) (by omega) (by omega)) (by exact o2) rfl rfl (Nat.le_of_ble_eq_true rfl) (by rw [hB.2.1]; first | exact Nat.le_of_ble_eq_true rfl | (dsimp only; omega)) (by rw [hB.2.1]; first | exact Nat.le_of_ble_eq_true rfl | (dsimp only; omega)) (by rw [hB.2.1]; first | exact Nat.le_of_ble_eq_true rfl | (dsimp only; omega)) (by rw [hB.2.1]; first | exact Nat.le_of_ble_eq_true rfl | (dsimp only; omega)) dX2_fill_57 (fun v h_57 n_57 p_57 => ?_)
    obtain ⟨x, rfl, rfl, q0, ⟨gp3, q1⟩, q2, q3⟩ := p_57
    try dsimp only [Option.toList, List.cons_append, List.nil_append]
    refine o_zret hC hB dX2_fill_60 (by rcases q0 with q | q <;> (rw [q]; decide +kernel)) (Nat.le_of_ble_eq_true rfl) (Nat.le_of_ble_eq_true rfl) ?_
    exact ⟨_, rfl, rfl, q0, ⟨_, q1⟩, q2, (fun q z1 z2 => (q3 q (by omega) (by omega)).trans (b3 q (by omega)))⟩
  · obtain ⟨i1, i2, i3⟩ := hi (by decide)
    have i4 := i1.eqv (h' := h_6) (fun q q1 q2 => b3 q (by omega))
    obtain ⟨⟨c4, h4, rfl⟩, hf5, kd, h6, rfl⟩ := hok.2.2.1 rfl
    refine o_tableIn (off := 48) (tgt := 61) hC dX2_fill_13 (by decide +kernel) (by decide +kernel) (by decide +kernel) (by decide) ?_
    refine o_aload_n hC dX2_fill_61 (by rfl) ?_
    refine o_aload_n hC dX2_fill_62 (by rfl) ?_
    refine o_aload_n hC dX2_fill_63 (by rfl) ?_
    refine o_aload hC dX2_fill_64 (by rfl) ?_
    refine o_callV3 hC rl_BW_good rl_Ns_nw (by exact hB.2.2.2.2.2) YX2_fillPick IX2_fillPick VX2_fillPick (mX2_58 hC) (by rw [hB.1]; exact ct_X2_fillPick l D ids H0 _ _ o so a a1 sz1 w wd1 gp P1 S1 nd c4 kd _ _ _ _ f5 _ _ ho2 ht2 i4 (by omega) (by omega) (by omega) n2 h4 hf5 h6 (by omega) (by omega)) (by exact o2) rfl rfl (Nat.le_of_ble_eq_true rfl) (by rw [hB.2.1]; first | exact Nat.le_of_ble_eq_true rfl | (dsimp only; omega)) (by rw [hB.2.1]; first | exact Nat.le_of_ble_eq_true rfl | (dsimp only; omega)) (by rw [hB.2.1]; first | exact Nat.le_of_ble_eq_true rfl | (dsimp only; omega)) (by rw [hB.2.1]; first | exact Nat.le_of_ble_eq_true rfl | (dsimp only; omega)) dX2_fill_66 (fun v h_66 n_66 p_66 => ?_)
    obtain ⟨x, rfl, rfl, q0, ⟨gp3, q1⟩, q2, q3⟩ := p_66
    try dsimp only [Option.toList, List.cons_append, List.nil_append]
    refine o_zret hC hB dX2_fill_69 (by rcases q0 with q | q <;> (rw [q]; decide +kernel)) (Nat.le_of_ble_eq_true rfl) (Nat.le_of_ble_eq_true rfl) ?_
    exact ⟨_, rfl, rfl, q0, ⟨_, q1⟩, q2, (fun q z1 z2 => (q3 q (by omega) (by omega)).trans (b3 q (by omega)))⟩
  · obtain ⟨i1, i2, i3⟩ := hi (by decide)
    have i4 := i1.eqv (h' := h_6) (fun q q1 q2 => b3 q (by omega))
    obtain ⟨N, hN, rfl, hdg⟩ := hok.2.2.2.1 rfl
    refine o_tableIn (off := 57) (tgt := 70) hC dX2_fill_13 (by decide +kernel) (by decide +kernel) (by decide +kernel) (by decide) ?_
    refine o_aload_n hC dX2_fill_70 (by rfl) ?_
    refine o_aload_n hC dX2_fill_71 (by rfl) ?_
    refine o_aload_n hC dX2_fill_72 (by rfl) ?_
    refine o_aload hC dX2_fill_73 (by rfl) ?_
    refine o_callV3 hC rl_BW_good rl_Ns_nw (by exact hB.2.2.2.2.2) YX2_fillCols IX2_fillCols VX2_fillCols (mX2_62 hC) (by rw [hB.1]; exact ct_X2_fillCols l D ids H0 _ _ o so a a1 sz1 w wd1 gp P1 S1 nd w N _ _ _ _ _ _ _ ho2 ht2 i4 (by omega) (by omega) (by omega) n2 hok.2.1 hN hdg (by omega) (by omega)) (by exact o2) rfl rfl (Nat.le_of_ble_eq_true rfl) (by rw [hB.2.1]; first | exact Nat.le_of_ble_eq_true rfl | (dsimp only; omega)) (by rw [hB.2.1]; first | exact Nat.le_of_ble_eq_true rfl | (dsimp only; omega)) (by rw [hB.2.1]; first | exact Nat.le_of_ble_eq_true rfl | (dsimp only; omega)) (by rw [hB.2.1]; first | exact Nat.le_of_ble_eq_true rfl | (dsimp only; omega)) dX2_fill_75 (fun v h_75 n_75 p_75 => ?_)
    obtain ⟨x, rfl, rfl, q0, ⟨gp3, q1⟩, q2, q3⟩ := p_75
    try dsimp only [Option.toList, List.cons_append, List.nil_append]
    refine o_zret hC hB dX2_fill_78 (by rcases q0 with q | q <;> (rw [q]; decide +kernel)) (Nat.le_of_ble_eq_true rfl) (Nat.le_of_ble_eq_true rfl) ?_
    exact ⟨_, rfl, rfl, q0, ⟨_, q1⟩, q2, (fun q z1 z2 => (q3 q (by omega) (by omega)).trans (b3 q (by omega)))⟩
  · obtain ⟨i1, i2, i3⟩ := hi (by decide)
    have i4 := i1.eqv (h' := h_6) (fun q q1 q2 => b3 q (by omega))
    obtain ⟨j1, j2, j3⟩ := hj (by decide)
    have j4 := j1.eqv (h' := h_6) (fun q q1 q2 => b3 q (by omega))
    obtain ⟨⟨c4, h4, rfl⟩, ⟨c5, h5, rfl⟩, hwd⟩ := hok.2.2.2.2.1 rfl
    refine o_tableIn (off := 66) (tgt := 79) hC dX2_fill_13 (by decide +kernel) (by decide +kernel) (by decide +kernel) (by decide) ?_
    refine o_aload_n hC dX2_fill_79 (by rfl) ?_
    refine o_aload_n hC dX2_fill_80 (by rfl) ?_
    refine o_aload_n hC dX2_fill_81 (by rfl) ?_
    refine o_aload hC dX2_fill_82 (by rfl) ?_
    refine o_aload hC dX2_fill_84 (by rfl) ?_
    refine o_callV4 hC rl_BW_good rl_Ns_nw (by exact hB.2.2.2.2.2) YX2_fillJoin IX2_fillJoin VX2_fillJoin (mX2_65 hC) (by rw [hB.1]; exact ct_X2_fillJoin l D ids H0 _ _ o so a a1 sz1 w wd1 gp P1 S1 a2 sz2 wd2 nd c4 c5 P2 S2 _ _ _ _ _ _ _ ho2 ht2 i4 (by omega) (by omega) (by omega) j4 (by omega) (by omega) n2 h4 h5 (by omega) (by omega) hwd) (by exact o2) rfl rfl (Nat.le_of_ble_eq_true rfl) (by rw [hB.2.1]; first | exact Nat.le_of_ble_eq_true rfl | (dsimp only; omega)) (by rw [hB.2.1]; first | exact Nat.le_of_ble_eq_true rfl | (dsimp only; omega)) (by rw [hB.2.1]; first | exact Nat.le_of_ble_eq_true rfl | (dsimp only; omega)) (by rw [hB.2.1]; first | exact Nat.le_of_ble_eq_true rfl | (dsimp only; omega)) dX2_fill_86 (fun v h_86 n_86 p_86 => ?_)
    obtain ⟨x, rfl, rfl, q0, ⟨gp3, q1⟩, q2, q3⟩ := p_86
    try dsimp only [Option.toList, List.cons_append, List.nil_append]
    refine o_zret hC hB dX2_fill_89 (by rcases q0 with q | q <;> (rw [q]; decide +kernel)) (Nat.le_of_ble_eq_true rfl) (Nat.le_of_ble_eq_true rfl) ?_
    exact ⟨_, rfl, rfl, q0, ⟨_, q1⟩, q2, (fun q z1 z2 => (q3 q (by omega) (by omega)).trans (b3 q (by omega)))⟩
  · obtain ⟨i1, i2, i3⟩ := hi (by decide)
    have i4 := i1.eqv (h' := h_6) (fun q q1 q2 => b3 q (by omega))
    obtain ⟨j1, j2, j3⟩ := hj (by decide)
    have j4 := j1.eqv (h' := h_6) (fun q q1 q2 => b3 q (by omega))
    refine o_tableIn (off := 77) (tgt := 90) hC dX2_fill_13 (by decide +kernel) (by decide +kernel) (by decide +kernel) (by decide) ?_
    refine o_aload_n hC dX2_fill_90 (by rfl) ?_
    refine o_aload_n hC dX2_fill_91 (by rfl) ?_
    refine o_aload hC dX2_fill_92 (by rfl) ?_
    refine o_callV2 hC rl_BW_good rl_Ns_nw (by exact hB.2.2.2.2.2) YX2_putAll IX2_putAll VX2_putAll (mX2_69 hC) (by rw [hB.1]; exact ct_X2_putAll l D ids H0 _ _ o so a a1 sz1 w wd1 gp P1 S1 ho2 ht2 i4 (by omega) (by omega) (by omega)) (by exact o2) rfl rfl (Nat.le_of_ble_eq_true rfl) (by rw [hB.2.1]; first | exact Nat.le_of_ble_eq_true rfl | (dsimp only; omega)) (by rw [hB.2.1]; first | exact Nat.le_of_ble_eq_true rfl | (dsimp only; omega)) (by rw [hB.2.1]; first | exact Nat.le_of_ble_eq_true rfl | (dsimp only; omega)) (by rw [hB.2.1]; first | exact Nat.le_of_ble_eq_true rfl | (dsimp only; omega)) dX2_fill_94 (fun v h_94 n_94 p_94 => ?_)
    obtain ⟨x, rfl, rfl, q0, ⟨gp3, q1⟩, q2, q3⟩ := p_94
    have o4 := q1.1
    have j5 := j4.eqv (h' := h_94) (fun q z1 z2 => q3 q (by omega) (by omega))
    try dsimp only [Option.toList, List.cons_append, List.nil_append]
    refine o_if_eq (tgt := 115) hC dX2_fill_97 (by decide) (fun c_97 => ?_) (fun c_97 => ?_)
    · refine o_iconst (v := nI 0) hC dX2_fill_115 (by decide +kernel) ?_
      refine o_zret hC hB dX2_fill_116 (by first | rfl | decide +kernel) (Nat.le_of_ble_eq_true rfl) (Nat.le_of_ble_eq_true rfl) ?_
      first
      | exact ⟨_, rfl, rfl, (by first | exact Or.inl rfl | exact Or.inr rfl), ⟨_, r1⟩, r2, fun q z1 z2 => (r3 q (by omega) (by omega)).trans ((q3 q (by omega) (by omega)).trans (b3 q (by omega)))⟩
      | exact ⟨_, rfl, rfl, Or.inl rfl, ⟨_, q1⟩, q2, (fun q z1 z2 => (q3 q (by omega) (by omega)).trans (b3 q (by omega)))⟩
    · refine o_aload_n hC dX2_fill_100 (by rfl) ?_
      refine o_aload hC dX2_fill_101 (by rfl) ?_
      refine o_aload hC dX2_fill_103 (by rfl) ?_
      refine o_callV2 hC rl_BW_good rl_Ns_nw (by exact hB.2.2.2.2.2) YX2_putAll IX2_putAll VX2_putAll (mX2_69 hC) (by rw [hB.1]; exact ct_X2_putAll l D ids H0 _ _ o so a a2 sz2 w wd2 _ P2 S2 q1 q2 j5 (by omega) (by omega) (by omega)) (by exact q1.1) rfl rfl (Nat.le_of_ble_eq_true rfl) (by rw [hB.2.1]; first | exact Nat.le_of_ble_eq_true rfl | (dsimp only; omega)) (by rw [hB.2.1]; first | exact Nat.le_of_ble_eq_true rfl | (dsimp only; omega)) (by rw [hB.2.1]; first | exact Nat.le_of_ble_eq_true rfl | (dsimp only; omega)) (by rw [hB.2.1]; first | exact Nat.le_of_ble_eq_true rfl | (dsimp only; omega)) dX2_fill_105 (fun v h_105 n_105 p_105 => ?_)
      obtain ⟨x, rfl, rfl, r0, ⟨gp4, r1⟩, r2, r3⟩ := p_105
      have o5 := r1.1
      try dsimp only [Option.toList, List.cons_append, List.nil_append]
      refine o_if_eq (tgt := 115) hC dX2_fill_108 (by decide) (fun c_108 => ?_) (fun c_108 => ?_)
      · refine o_iconst (v := nI 0) hC dX2_fill_115 (by decide +kernel) ?_
        refine o_zret hC hB dX2_fill_116 (by first | rfl | decide +kernel) (Nat.le_of_ble_eq_true rfl) (Nat.le_of_ble_eq_true rfl) ?_
        first
        | exact ⟨_, rfl, rfl, (by first | exact Or.inl rfl | exact Or.inr rfl), ⟨_, r1⟩, r2, fun q z1 z2 => (r3 q (by omega) (by omega)).trans ((q3 q (by omega) (by omega)).trans (b3 q (by omega)))⟩
        | exact ⟨_, rfl, rfl, Or.inl rfl, ⟨_, q1⟩, q2, (fun q z1 z2 => (q3 q (by omega) (by omega)).trans (b3 q (by omega)))⟩
      · refine o_iconst (v := nI 1) hC dX2_fill_111 (by decide +kernel) ?_
        refine o_goto (tgt := 116) hC dX2_fill_112 (by decide) ?_
        refine o_zret hC hB dX2_fill_116 (by first | rfl | decide +kernel) (Nat.le_of_ble_eq_true rfl) (Nat.le_of_ble_eq_true rfl) ?_
        first
        | exact ⟨_, rfl, rfl, (by first | exact Or.inl rfl | exact Or.inr rfl), ⟨_, r1⟩, r2, fun q z1 z2 => (r3 q (by omega) (by omega)).trans ((q3 q (by omega) (by omega)).trans (b3 q (by omega)))⟩
        | exact ⟨_, rfl, rfl, Or.inl rfl, ⟨_, q1⟩, q2, (fun q z1 z2 => (q3 q (by omega) (by omega)).trans (b3 q (by omega)))⟩
  · obtain ⟨i1, i2, i3⟩ := hi (by decide)
    have i4 := i1.eqv (h' := h_6) (fun q q1 q2 => b3 q (by omega))
    obtain ⟨j1, j2, j3⟩ := hj (by decide)
    have j4 := j1.eqv (h' := h_6) (fun q q1 q2 => b3 q (by omega))
    refine o_tableIn (off := 104) (tgt := 117) hC dX2_fill_13 (by decide +kernel) (by decide +kernel) (by decide +kernel) (by decide) ?_
    refine o_aload_n hC dX2_fill_117 (by rfl) ?_
    refine o_aload_n hC dX2_fill_118 (by rfl) ?_
    refine o_aload hC dX2_fill_119 (by rfl) ?_
    refine o_aload hC dX2_fill_121 (by rfl) ?_
    refine o_callV3 hC rl_BW_good rl_Ns_nw (by exact hB.2.2.2.2.2) YX2_fillMinus IX2_fillMinus VX2_fillMinus (mX2_73 hC) (by rw [hB.1]; exact ct_X2_fillMinus l D ids H0 _ _ o so a a1 sz1 w wd1 gp P1 S1 a2 sz2 wd2 P2 S2 ho2 ht2 i4 (by omega) (by omega) (by omega) j4 (by omega) (by omega)) (by exact o2) rfl rfl (Nat.le_of_ble_eq_true rfl) (by rw [hB.2.1]; first | exact Nat.le_of_ble_eq_true rfl | (dsimp only; omega)) (by rw [hB.2.1]; first | exact Nat.le_of_ble_eq_true rfl | (dsimp only; omega)) (by rw [hB.2.1]; first | exact Nat.le_of_ble_eq_true rfl | (dsimp only; omega)) (by rw [hB.2.1]; first | exact Nat.le_of_ble_eq_true rfl | (dsimp only; omega)) dX2_fill_123 (fun v h_123 n_123 p_123 => ?_)
    obtain ⟨x, rfl, rfl, q0, ⟨gp3, q1⟩, q2, q3⟩ := p_123
    try dsimp only [Option.toList, List.cons_append, List.nil_append]
    refine o_zret hC hB dX2_fill_126 (by rcases q0 with q | q <;> (rw [q]; decide +kernel)) (Nat.le_of_ble_eq_true rfl) (Nat.le_of_ble_eq_true rfl) ?_
    exact ⟨_, rfl, rfl, q0, ⟨_, q1⟩, q2, (fun q z1 z2 => (q3 q (by omega) (by omega)).trans (b3 q (by omega)))⟩
  · obtain ⟨i1, i2, i3⟩ := hi (by decide)
    have i4 := i1.eqv (h' := h_6) (fun q q1 q2 => b3 q (by omega))
    obtain ⟨⟨c4, h4, rfl⟩, ⟨c5, h5, rfl⟩, kd, h6, rfl⟩ := hok.2.2.2.2.2 rfl
    refine o_tableOut (tgt := 127) hC dX2_fill_13 (by decide +kernel) (by decide) ?_
    refine o_aload_n hC dX2_fill_127 (by rfl) ?_
    refine o_aload_n hC dX2_fill_128 (by rfl) ?_
    refine o_aload_n hC dX2_fill_129 (by rfl) ?_
    refine o_aload hC dX2_fill_130 (by rfl) ?_
    refine o_callV3 hC rl_BW_good rl_Ns_nw (by exact hB.2.2.2.2.2) YX2_fillFold IX2_fillFold VX2_fillFold (mX2_77 hC) (by rw [hB.1]; exact ct_X2_fillFold l D ids H0 _ _ o so a a1 sz1 w wd1 gp P1 S1 nd c4 c5 kd _ _ _ _ _ _ ho2 ht2 i4 (by omega) (by omega) (by omega) n2 h4 h5 h6 (by omega) (by omega)) (by exact o2) rfl rfl (Nat.le_of_ble_eq_true rfl) (by rw [hB.2.1]; first | exact Nat.le_of_ble_eq_true rfl | (dsimp only; omega)) (by rw [hB.2.1]; first | exact Nat.le_of_ble_eq_true rfl | (dsimp only; omega)) (by rw [hB.2.1]; first | exact Nat.le_of_ble_eq_true rfl | (dsimp only; omega)) (by rw [hB.2.1]; first | exact Nat.le_of_ble_eq_true rfl | (dsimp only; omega)) dX2_fill_132 (fun v h_132 n_132 p_132 => ?_)
    obtain ⟨x, rfl, rfl, q0, ⟨gp3, q1⟩, q2, q3⟩ := p_132
    try dsimp only [Option.toList, List.cons_append, List.nil_append]
    refine o_zret hC hB dX2_fill_135 (by rcases q0 with q | q <;> (rw [q]; decide +kernel)) (Nat.le_of_ble_eq_true rfl) (Nat.le_of_ble_eq_true rfl) ?_
    exact ⟨_, rfl, rfl, q0, ⟨_, q1⟩, q2, (fun q z1 z2 => (q3 q (by omega) (by omega)).trans (b3 q (by omega)))⟩
end
