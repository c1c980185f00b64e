/-! Draft.settle and what ends with it -/
theorem dr_at.kept {ids : Nat → ClassId} {h h' : rl_H} {d a b : Nat} {s : dr_S} (H : dr_at ids h d s) (hf : rl_fr h h' a b) (hd : d + 3 ≤ a ∨ b ≤ d) : dr_at ids h' d s :=
  ⟨by rw [hf d (by omega)]; exact H.1, by rw [hf (d + 1) (by omega)]; exact H.2.1, by rw [hf (d + 2) (by omega)]; exact H.2.2.1, H.2.2.2⟩
/-- the TERMS j on, m of them, are put in order into F, G -/
noncomputable def st_go (A B : Nat → Int64) : Nat → Nat → (Nat → Int64) → (Nat → Int64) → (Nat → Int64) × (Nat → Int64)
  | 0, _, F, G => (F, G)
  | m + 1, j, F, G => st_go A B m (j + 1) (tm_ins (A j) (B j) j F G).1 (tm_ins (A j) (B j) j F G).2
/-- nothing has changed but at d .. d + 2 and at w .. w + 2 -/
def rl_f2 (h h' : rl_H) (d w : Nat) : Prop := ∀ q : Nat, (q < d ∨ d + 3 ≤ q) → (q < w ∨ w + 3 ≤ q) → h' q = h q
/-- the end of either, both, forget: FULL, or the TERMS in order -/
def dr_out (ids : Nat → ClassId) (h h' : rl_H) (d w : Nat) (s : dr_S) (f g : Nat → Int64) (x : Int32) : Prop :=
  dr_at ids h' d s ∧ ((12 < s.2.2 ∧ x = nI 0 ∧ rl_fr h h' d (d + 3)) ∨ (s.2.2 ≤ 12 ∧ x = nI 1 ∧ ws_at ids h' w (st_go s.1 s.2.1 s.2.2 0 f g).1 (st_go s.1 s.2.1 s.2.2 0 f g).2 s.2.2 ∧ rl_f2 h h' d w))
theorem dr_out.of {ids : Nat → ClassId} {h h1 h' : rl_H} {d w : Nat} {s : dr_S} {f g : Nat → Int64} {x : Int32} (hf : rl_fr h h1 d (d + 3)) (H : dr_out ids h1 h' d w s f g x) : dr_out ids h h' d w s f g x := by
  obtain ⟨a, b | b⟩ := H
  · exact ⟨a, Or.inl ⟨b.1, b.2.1, hf.tr b.2.2⟩⟩
  · exact ⟨a, Or.inr ⟨b.1, b.2.1, b.2.2.1, fun q h1 h2 => (b.2.2.2 q h1 h2).trans (hf q h1)⟩⟩

set_option maxHeartbeats 4000000 in
set_option maxRecDepth 100000 in
theorem ct_X0_settle (l : Launch) (D : va_G) (ids : Nat → ClassId) (H0 : Heap) (h : rl_H) (n : Nat) (d w k : Nat) (s : dr_S) (f g : Nat → Int64) (hd : dr_at ids h d s) (hw : ws_at ids h w f g k) (hdis : d + 3 ≤ w ∨ w + 3 ≤ d) : rl_Met l (rl_e D ids H0) rl_BW rl_Ns yX0_settle cX0_settle 3 (some .boolean) ({ frames := 1, cells := 0, slots := 0, locals := 25 }) [.ref d, .ref w] h n (fun v h' n' => ∃ x : Int32, v = some (.int x) ∧ n' = n ∧ dr_out ids h h' d w s f g x) := by
  obtain ⟨h1, h2, h3, hk⟩ := id hd
  refine rl_Met.of (by decide +kernel) (Nat.le_of_ble_eq_true rfl) ?_
  intro X hC hB
  have loop : ∀ (m j : Nat) (h' : rl_H) (F G : Nat → Int64), j + m = s.2.2 → s.2.2 ≤ 12 → dr_at ids h' d s → ws_at ids h' w F G j → rl_fr h h' w (w + 3) → st_go s.1 s.2.1 s.2.2 0 f g = st_go s.1 s.2.1 m j F G → rl_G X (rl_e D ids H0) 17 [some (.ref d), some (.ref w), some (.int (nI j))] [] h' n 0 0 := by
    intro m
    induction m with
    | zero =>
      intro j h' F G hj hle hd2 hw2 hfr hs
      obtain ⟨g1, g2, g3, -⟩ := id hd2
      refine o_iload_n hC dX0_settle_17 (by rfl) ?_
      refine o_aload_n hC dX0_settle_18 (by rfl) ?_
      refine o_getf hC (fX0_18 hC rfl) dX0_settle_19 (by repeat (first | with_reducible assumption | (rw [rl_u_s]; done) | (rw [rl_u_s]; rfl) | rw [rl_u_n (by first | with_reducible assumption | omega)])) (by first | rfl | with_reducible assumption) ?_
      refine o_icmp_ge (tgt := 47) hC dX0_settle_22 (by decide) (fun c_22 => ?_) (fun c_22 => ?_)
      · refine o_iconst (v := nI 1) hC dX0_settle_47 (by decide +kernel) ?_
        refine o_zret hC hB dX0_settle_48 (by first | rfl | decide +kernel) (Nat.le_of_ble_eq_true rfl) (Nat.le_of_ble_eq_true rfl) ?_
        refine ⟨_, rfl, rfl, hd2, Or.inr ⟨hle, rfl, ?_, fun q _ hq => hfr q hq⟩⟩
        rw [hs]
        have e : j = s.2.2 := by omega
        rw [← e]
        exact hw2
      · exact absurd (nI_le (by omega) (by omega)) c_22
    | succ m ih =>
      intro j h' F G hj hle hd2 hw2 hfr hs
      obtain ⟨g1, g2, g3, -⟩ := id hd2
      refine o_iload_n hC dX0_settle_17 (by rfl) ?_
      refine o_aload_n hC dX0_settle_18 (by rfl) ?_
      refine o_getf hC (fX0_18 hC rfl) dX0_settle_19 (by repeat (first | with_reducible assumption | (rw [rl_u_s]; done) | (rw [rl_u_s]; rfl) | rw [rl_u_n (by first | with_reducible assumption | omega)])) (by first | rfl | with_reducible assumption) ?_
      refine o_icmp_ge (tgt := 47) hC dX0_settle_22 (by decide) (fun c_22 => ?_) (fun c_22 => ?_)
      · exact absurd c_22 (nI_ge (by omega) (by omega))
      · refine o_aload_n hC dX0_settle_25 (by rfl) ?_
        refine o_aload_n hC dX0_settle_26 (by rfl) ?_
        refine o_getf hC (fX0_11 hC rfl) dX0_settle_27 (by repeat (first | with_reducible assumption | (rw [rl_u_s]; done) | (rw [rl_u_s]; rfl) | rw [rl_u_n (by first | with_reducible assumption | omega)])) (by first | rfl | with_reducible assumption) ?_
        refine o_iload_n hC dX0_settle_30 (by rfl) ?_
        refine o_laldN (t0 := 1) hC rfl dX0_settle_31 (by repeat (first | with_reducible assumption | (rw [rl_u_s]; done) | (rw [rl_u_s]; rfl) | rw [rl_u_n (by first | with_reducible assumption | omega)])) (by omega) (by decide) ?_
        refine o_aload_n hC dX0_settle_32 (by rfl) ?_
        refine o_getf hC (fX0_15 hC rfl) dX0_settle_33 (by repeat (first | with_reducible assumption | (rw [rl_u_s]; done) | (rw [rl_u_s]; rfl) | rw [rl_u_n (by first | with_reducible assumption | omega)])) (by first | rfl | with_reducible assumption) ?_
        refine o_iload_n hC dX0_settle_36 (by rfl) ?_
        refine o_laldN (t0 := 1) hC rfl dX0_settle_37 (by repeat (first | with_reducible assumption | (rw [rl_u_s]; done) | (rw [rl_u_s]; rfl) | rw [rl_u_n (by first | with_reducible assumption | omega)])) (by omega) (by decide) ?_
        refine o_callV2 hC rl_BW_good rl_Ns_nw (by exact hB.2.2.2.2.2) YX6_insert IX6_insert VX6_insert (mX0_47 hC) (by rw [hB.1]; exact ct_X6_insert l D ids H0 h' n w j F G _ _ hw2) (by exact hw2.1) rfl rfl (Nat.le_of_ble_eq_true rfl) (by rw [hB.2.1]; first | exact Nat.le_of_ble_eq_true rfl | (dsimp only; omega)) (by rw [hB.2.1]; first | exact Nat.le_of_ble_eq_true rfl | (dsimp only; omega)) (by rw [hB.2.1]; first | exact Nat.le_of_ble_eq_true rfl | (dsimp only; omega)) (by rw [hB.2.1]; first | exact Nat.le_of_ble_eq_true rfl | (dsimp only; omega)) dX0_settle_38 (fun v h_38 n_38 p_38 => ?_)
        obtain ⟨rfl, rfl, p2⟩ := p_38
        obtain ⟨p1, p2, p3⟩ := p2.resolve_right (fun q => absurd q.1 (by omega))
        try dsimp only [Option.toList, List.cons_append, List.nil_append]
        refine o_iinc hC dX0_settle_41 (by rfl) (rl_inc _) (Nat.le_of_ble_eq_true rfl) ?_
        refine o_goto (tgt := 17) hC dX0_settle_44 (by decide) ?_
        exact ih (j + 1) _ _ _ (by omega) hle (hd2.kept p3 hdis) p2 (hfr.tr p3) hs
  show rl_G X (rl_e D ids H0) 0 [some (.ref d), some (.ref w), none] [] h n 0 0
  refine o_aload_n hC dX0_settle_0 (by rfl) ?_
  refine o_getf hC (fX0_18 hC rfl) dX0_settle_1 (by repeat (first | with_reducible assumption | (rw [rl_u_s]; done) | (rw [rl_u_s]; rfl) | rw [rl_u_n (by first | with_reducible assumption | omega)])) (by first | rfl | with_reducible assumption) ?_
  refine o_bipush (v := nI 12) hC dX0_settle_4 (by decide +kernel) ?_
  refine o_icmp_le (tgt := 11) hC dX0_settle_6 (by decide) (fun c_6 => ?_) (fun c_6 => ?_)
  · refine o_aload_n hC dX0_settle_11 (by rfl) ?_
    refine o_callV0 hC rl_BW_good rl_Ns_nw (by exact hB.2.2.2.2.2) YX6_becomeFalse IX6_becomeFalse VX6_becomeFalse (mX0_44 hC) (by rw [hB.1]; exact ct_X6_becomeFalse l D ids H0 h n w k f g hw) (by exact hw.1) rfl rfl (Nat.le_of_ble_eq_true rfl) (by rw [hB.2.1]; first | exact Nat.le_of_ble_eq_true rfl | (dsimp only; omega)) (by rw [hB.2.1]; first | exact Nat.le_of_ble_eq_true rfl | (dsimp only; omega)) (by rw [hB.2.1]; first | exact Nat.le_of_ble_eq_true rfl | (dsimp only; omega)) (by rw [hB.2.1]; first | exact Nat.le_of_ble_eq_true rfl | (dsimp only; omega)) dX0_settle_12 (fun v h_12 n_12 p_12 => ?_)
    obtain ⟨rfl, rfl, p1, p2⟩ := p_12
    try dsimp only [Option.toList, List.cons_append, List.nil_append]
    refine o_iconst (v := nI 0) hC dX0_settle_15 (by decide +kernel) ?_
    refine o_istore_n hC dX0_settle_16 (Nat.le_of_ble_eq_true rfl) ?_
    exact loop s.2.2 0 _ f g (by omega) (by rcases Nat.lt_or_ge 12 s.2.2 with q | q; exact absurd c_6 (nI_ge q (by omega)); exact q) (hd.kept p2 (by omega)) p1 (p2.wd (Nat.le_refl _) (by omega)) rfl
  · refine o_iconst (v := nI 0) hC dX0_settle_9 (by decide +kernel) ?_
    refine o_zret hC hB dX0_settle_10 (by first | rfl | decide +kernel) (Nat.le_of_ble_eq_true rfl) (Nat.le_of_ble_eq_true rfl) ?_
    refine ⟨_, rfl, rfl, hd, Or.inl ⟨?_, rfl, rl_fr.rf⟩⟩
    rcases Nat.lt_or_ge 12 s.2.2 with q | q
    · exact q
    · exact absurd (nI_le q (by omega)) c_6

noncomputable def ei_go (f g : Nat → Int64) : Nat → Nat → dr_S → dr_S
  | 0, _, s => s
  | m + 1, j, s => ei_go f g m (j + 1) (dr_add (f j) (g j) s)

set_option maxHeartbeats 4000000 in
set_option maxRecDepth 100000 in
theorem ct_X0_either (l : Launch) (D : va_G) (ids : Nat → ClassId) (H0 : Heap) (h : rl_H) (n : Nat) (d wa wb wm ka kb km : Nat) (s : dr_S) (fa ga fb gb fm gm : Nat → Int64) (hd : dr_at ids h d s) (ha : ws_at ids h wa fa ga ka) (hb : ws_at ids h wb fb gb kb) (hm : ws_at ids h wm fm gm km) (da : d + 3 ≤ wa ∨ wa + 3 ≤ d) (db : d + 3 ≤ wb ∨ wb + 3 ≤ d) (dm : d + 3 ≤ wm ∨ wm + 3 ≤ d) : rl_Met l (rl_e D ids H0) rl_BW rl_Ns yX0_either cX0_either 5 (some .boolean) ({ frames := 2, cells := 0, slots := 0, locals := 47 }) [.ref d, .ref wa, .ref wb, .ref wm] h n (fun v h' n' => ∃ x : Int32, v = some (.int x) ∧ n' = n ∧ dr_out ids h h' d wm (ei_go fb gb kb 0 (ei_go fa ga ka 0 (s.1, s.2.1, 0))) fm gm x) := by
  obtain ⟨h1, h2, h3, hk⟩ := id hd
  refine rl_Met.of (by decide +kernel) (Nat.le_of_ble_eq_true rfl) ?_
  intro X hC hB
  have loop2 : ∀ (m j : Nat) (h' : rl_H) (t : dr_S), j + m = kb → dr_at ids h' d t → rl_fr h h' d (d + 3) → (ei_go fb gb kb 0 (ei_go fa ga ka 0 (s.1, s.2.1, 0))) = ei_go fb gb m j t → rl_G X (rl_e D ids H0) 44 [some (.ref d), some (.ref wa), some (.ref wb), some (.ref wm), some (.int (nI j))] [] h' n 0 0 := by
    intro m
    induction m with
    | zero =>
      intro j h' t hj hd2 hfr hs
      obtain ⟨g1, g2, g3, g4⟩ := id hd2
      obtain ⟨w1, w2, w3, w4⟩ := hb.kept hfr (by omega)
      refine o_iload hC dX0_either_44 (by rfl) ?_
      refine o_aload_n hC dX0_either_46 (by rfl) ?_
      refine o_getf hC (fX0_22 hC rfl) dX0_either_47 (by repeat (first | with_reducible assumption | (rw [rl_u_s]; done) | (rw [rl_u_s]; rfl) | rw [rl_u_n (by first | with_reducible assumption | omega)])) (by first | rfl | with_reducible assumption) ?_
      refine o_icmp_ge (tgt := 77) hC dX0_either_50 (by decide) (fun c_50 => ?_) (fun c_50 => ?_)
      · refine o_aload_n hC dX0_either_77 (by rfl) ?_
        refine o_aload_n hC dX0_either_78 (by rfl) ?_
        refine o_callV1 hC rl_BW_good rl_Ns_nw (by exact hB.2.2.2.2.2) YX0_settle IX0_settle VX0_settle (mX0_31 hC) (by rw [hB.1]; exact ct_X0_settle l D ids H0 h' n d wm km t fm gm hd2 (hm.kept hfr (by omega)) dm) (by exact g1) rfl rfl (Nat.le_of_ble_eq_true rfl) (by rw [hB.2.1]; first | exact Nat.le_of_ble_eq_true rfl | (dsimp only; omega)) (by rw [hB.2.1]; first | exact Nat.le_of_ble_eq_true rfl | (dsimp only; omega)) (by rw [hB.2.1]; first | exact Nat.le_of_ble_eq_true rfl | (dsimp only; omega)) (by rw [hB.2.1]; first | exact Nat.le_of_ble_eq_true rfl | (dsimp only; omega)) dX0_either_79 (fun v h_79 n_79 p_79 => ?_)
        obtain ⟨x, rfl, rfl, p1⟩ := p_79
        try dsimp only [Option.toList, List.cons_append, List.nil_append]
        refine o_zret hC hB dX0_either_82 (by rcases p1.2 with q | q; rw [q.2.1]; decide +kernel; rw [q.2.1]; decide +kernel) (Nat.le_of_ble_eq_true rfl) (Nat.le_of_ble_eq_true rfl) ?_
        refine ⟨x, rfl, rfl, ?_⟩
        rw [hs]
        exact dr_out.of hfr p1
      · exact absurd (nI_le (by omega) (by omega)) c_50
    | succ m ih =>
      intro j h' t hj hd2 hfr hs
      obtain ⟨g1, g2, g3, g4⟩ := id hd2
      obtain ⟨w1, w2, w3, w4⟩ := hb.kept hfr (by omega)
      refine o_iload hC dX0_either_44 (by rfl) ?_
      refine o_aload_n hC dX0_either_46 (by rfl) ?_
      refine o_getf hC (fX0_22 hC rfl) dX0_either_47 (by repeat (first | with_reducible assumption | (rw [rl_u_s]; done) | (rw [rl_u_s]; rfl) | rw [rl_u_n (by first | with_reducible assumption | omega)])) (by first | rfl | with_reducible assumption) ?_
      refine o_icmp_ge (tgt := 77) hC dX0_either_50 (by decide) (fun c_50 => ?_) (fun c_50 => ?_)
      · exact absurd c_50 (nI_ge (by omega) (by omega))
      · refine o_aload_n hC dX0_either_53 (by rfl) ?_
        refine o_aload_n hC dX0_either_54 (by rfl) ?_
        refine o_getf hC (fX0_25 hC rfl) dX0_either_55 (by repeat (first | with_reducible assumption | (rw [rl_u_s]; done) | (rw [rl_u_s]; rfl) | rw [rl_u_n (by first | with_reducible assumption | omega)])) (by first | rfl | with_reducible assumption) ?_
        refine o_iload hC dX0_either_58 (by rfl) ?_
        refine o_laldN (t0 := 1) hC rfl dX0_either_60 (by repeat (first | with_reducible assumption | (rw [rl_u_s]; done) | (rw [rl_u_s]; rfl) | rw [rl_u_n (by first | with_reducible assumption | omega)])) (by omega) (by decide) ?_
        refine o_aload_n hC dX0_either_61 (by rfl) ?_
        refine o_getf hC (fX0_26 hC rfl) dX0_either_62 (by repeat (first | with_reducible assumption | (rw [rl_u_s]; done) | (rw [rl_u_s]; rfl) | rw [rl_u_n (by first | with_reducible assumption | omega)])) (by first | rfl | with_reducible assumption) ?_
        refine o_iload hC dX0_either_65 (by rfl) ?_
        refine o_laldN (t0 := 1) hC rfl dX0_either_67 (by repeat (first | with_reducible assumption | (rw [rl_u_s]; done) | (rw [rl_u_s]; rfl) | rw [rl_u_n (by first | with_reducible assumption | omega)])) (by omega) (by decide) ?_
        refine o_callV2 hC rl_BW_good rl_Ns_nw (by exact hB.2.2.2.2.2) YX0_add IX0_add VX0_add (mX0_27 hC) (by rw [hB.1]; exact ct_X0_add l D ids H0 h' n d t _ _ hd2) (by exact g1) rfl rfl (Nat.le_of_ble_eq_true rfl) (by rw [hB.2.1]; first | exact Nat.le_of_ble_eq_true rfl | (dsimp only; omega)) (by rw [hB.2.1]; first | exact Nat.le_of_ble_eq_true rfl | (dsimp only; omega)) (by rw [hB.2.1]; first | exact Nat.le_of_ble_eq_true rfl | (dsimp only; omega)) (by rw [hB.2.1]; first | exact Nat.le_of_ble_eq_true rfl | (dsimp only; omega)) dX0_either_68 (fun v h_68 n_68 p_68 => ?_)
        obtain ⟨rfl, rfl, p1, p2⟩ := p_68
        try dsimp only [Option.toList, List.cons_append, List.nil_append]
        refine o_iinc hC dX0_either_71 (by rfl) (rl_inc _) (Nat.le_of_ble_eq_true rfl) ?_
        refine o_goto (tgt := 44) hC dX0_either_74 (by decide) ?_
        exact ih (j + 1) _ _ (by omega) p1 (hfr.tr p2) hs
  have loop1 : ∀ (m j : Nat) (h' : rl_H) (t : dr_S), j + m = ka → dr_at ids h' d t → rl_fr h h' d (d + 3) → (ei_go fa ga ka 0 (s.1, s.2.1, 0)) = ei_go fa ga m j t → rl_G X (rl_e D ids H0) 8 [some (.ref d), some (.ref wa), some (.ref wb), some (.ref wm), some (.int (nI j))] [] h' n 0 0 := by
    intro m
    induction m with
    | zero =>
      intro j h' t hj hd2 hfr hs
      obtain ⟨g1, g2, g3, g4⟩ := id hd2
      obtain ⟨w1, w2, w3, w4⟩ := ha.kept hfr (by omega)
      refine o_iload hC dX0_either_8 (by rfl) ?_
      refine o_aload_n hC dX0_either_10 (by rfl) ?_
      refine o_getf hC (fX0_22 hC rfl) dX0_either_11 (by repeat (first | with_reducible assumption | (rw [rl_u_s]; done) | (rw [rl_u_s]; rfl) | rw [rl_u_n (by first | with_reducible assumption | omega)])) (by first | rfl | with_reducible assumption) ?_
      refine o_icmp_ge (tgt := 41) hC dX0_either_14 (by decide) (fun c_14 => ?_) (fun c_14 => ?_)
      · refine o_iconst (v := nI 0) hC dX0_either_41 (by decide +kernel) ?_
        refine o_istore hC dX0_either_42 (Nat.le_of_ble_eq_true rfl) ?_
        exact loop2 kb 0 _ _ (by omega) hd2 hfr (by rw [hs]; rfl)
      · exact absurd (nI_le (by omega) (by omega)) c_14
    | succ m ih =>
      intro j h' t hj hd2 hfr hs
      obtain ⟨g1, g2, g3, g4⟩ := id hd2
      obtain ⟨w1, w2, w3, w4⟩ := ha.kept hfr (by omega)
      refine o_iload hC dX0_either_8 (by rfl) ?_
      refine o_aload_n hC dX0_either_10 (by rfl) ?_
      refine o_getf hC (fX0_22 hC rfl) dX0_either_11 (by repeat (first | with_reducible assumption | (rw [rl_u_s]; done) | (rw [rl_u_s]; rfl) | rw [rl_u_n (by first | with_reducible assumption | omega)])) (by first | rfl | with_reducible assumption) ?_
      refine o_icmp_ge (tgt := 41) hC dX0_either_14 (by decide) (fun c_14 => ?_) (fun c_14 => ?_)
      · exact absurd c_14 (nI_ge (by omega) (by omega))
      · refine o_aload_n hC dX0_either_17 (by rfl) ?_
        refine o_aload_n hC dX0_either_18 (by rfl) ?_
        refine o_getf hC (fX0_25 hC rfl) dX0_either_19 (by repeat (first | with_reducible assumption | (rw [rl_u_s]; done) | (rw [rl_u_s]; rfl) | rw [rl_u_n (by first | with_reducible assumption | omega)])) (by first | rfl | with_reducible assumption) ?_
        refine o_iload hC dX0_either_22 (by rfl) ?_
        refine o_laldN (t0 := 1) hC rfl dX0_either_24 (by repeat (first | with_reducible assumption | (rw [rl_u_s]; done) | (rw [rl_u_s]; rfl) | rw [rl_u_n (by first | with_reducible assumption | omega)])) (by omega) (by decide) ?_
        refine o_aload_n hC dX0_either_25 (by rfl) ?_
        refine o_getf hC (fX0_26 hC rfl) dX0_either_26 (by repeat (first | with_reducible assumption | (rw [rl_u_s]; done) | (rw [rl_u_s]; rfl) | rw [rl_u_n (by first | with_reducible assumption | omega)])) (by first | rfl | with_reducible assumption) ?_
        refine o_iload hC dX0_either_29 (by rfl) ?_
        refine o_laldN (t0 := 1) hC rfl dX0_either_31 (by repeat (first | with_reducible assumption | (rw [rl_u_s]; done) | (rw [rl_u_s]; rfl) | rw [rl_u_n (by first | with_reducible assumption | omega)])) (by omega) (by decide) ?_
        refine o_callV2 hC rl_BW_good rl_Ns_nw (by exact hB.2.2.2.2.2) YX0_add IX0_add VX0_add (mX0_27 hC) (by rw [hB.1]; exact ct_X0_add l D ids H0 h' n d t _ _ hd2) (by exact g1) rfl rfl (Nat.le_of_ble_eq_true rfl) (by rw [hB.2.1]; first | exact Nat.le_of_ble_eq_true rfl | (dsimp only; omega)) (by rw [hB.2.1]; first | exact Nat.le_of_ble_eq_true rfl | (dsimp only; omega)) (by rw [hB.2.1]; first | exact Nat.le_of_ble_eq_true rfl | (dsimp only; omega)) (by rw [hB.2.1]; first | exact Nat.le_of_ble_eq_true rfl | (dsimp only; omega)) dX0_either_32 (fun v h_32 n_32 p_32 => ?_)
        obtain ⟨rfl, rfl, p1, p2⟩ := p_32
        try dsimp only [Option.toList, List.cons_append, List.nil_append]
        refine o_iinc hC dX0_either_35 (by rfl) (rl_inc _) (Nat.le_of_ble_eq_true rfl) ?_
        refine o_goto (tgt := 8) hC dX0_either_38 (by decide) ?_
        exact ih (j + 1) _ _ (by omega) p1 (hfr.tr p2) hs
  show rl_G X (rl_e D ids H0) 0 [some (.ref d), some (.ref wa), some (.ref wb), some (.ref wm), none] [] h n 0 0
  refine o_aload_n hC dX0_either_0 (by rfl) ?_
  refine o_iconst (v := nI 0) hC dX0_either_1 (by decide +kernel) ?_
  refine o_putf hC (fX0_18 hC rfl) (fwX0 rfl rfl rfl (Or.inl rfl)) dX0_either_2 (by repeat (first | with_reducible assumption | (rw [rl_u_s]; done) | (rw [rl_u_s]; rfl) | rw [rl_u_n (by first | with_reducible assumption | omega)])) (Nat.le_of_ble_eq_true rfl) ?_
  try simp only [List.set_cons_zero, List.set_cons_succ]
  refine o_iconst (v := nI 0) hC dX0_either_5 (by decide +kernel) ?_
  refine o_istore hC dX0_either_6 (Nat.le_of_ble_eq_true rfl) ?_
  exact loop1 _ 0 _ _ (by omega) ⟨by repeat (first | with_reducible assumption | (rw [rl_u_s]; done) | (rw [rl_u_s]; rfl) | rw [rl_u_n (by first | with_reducible assumption | omega)]), by repeat (first | with_reducible assumption | (rw [rl_u_s]; done) | (rw [rl_u_s]; rfl) | rw [rl_u_n (by first | with_reducible assumption | omega)]), by repeat (first | with_reducible assumption | (rw [rl_u_s]; done) | (rw [rl_u_s]; rfl) | rw [rl_u_n (by first | with_reducible assumption | omega)]), Nat.zero_le _⟩ (fun q hq => rl_u_n (by omega)) rfl
