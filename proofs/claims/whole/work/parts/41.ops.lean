/-! RowLineage$Operators by shapes: each call comes back, and what it may change keeps its shape -/
def ws_ok (ids : Nat → ClassId) (h : rl_H) (w : Nat) : Prop := ∃ (f g : Nat → Int64) (k : Nat), ws_at ids h w f g k
def dr_ok (ids : Nat → ClassId) (h : rl_H) (d : Nat) : Prop := ∃ s : dr_S, dr_at ids h d s
def tb_ok (ids : Nat → ClassId) (h : rl_H) (a wd : Nat) : Prop := ∃ (sz : Nat) (P : Nat → Nat) (S : tb_S), tb_at ids h a sz wd P S
/-- nothing has changed but in two stretches -/
def rl_g2 (h h' : rl_H) (a b c d : Nat) : Prop := ∀ q : Nat, (q < a ∨ b ≤ q) → (q < c ∨ d ≤ q) → h' q = h q
theorem rl_g2.rf {h : rl_H} {a b c d : Nat} : rl_g2 h h a b c d := fun _ _ _ => rfl
theorem rl_g2.tr {h h1 h2 : rl_H} {a b c d : Nat} (x : rl_g2 h h1 a b c d) (y : rl_g2 h1 h2 a b c d) : rl_g2 h h2 a b c d := fun q p r => (y q p r).trans (x q p r)
theorem rl_g2.wd {h h1 : rl_H} {a b c d a' b' c' d' : Nat} (x : rl_g2 h h1 a b c d) (z1 : a' ≤ a) (z2 : b ≤ b') (z3 : c' ≤ c) (z4 : d ≤ d') : rl_g2 h h1 a' b' c' d' := fun q p r => x q (by omega) (by omega)
theorem rl_fr.g1 {h h1 : rl_H} {a b c d : Nat} (x : rl_fr h h1 a b) : rl_g2 h h1 a b c d := fun q p _ => x q p
theorem rl_fr.g2 {h h1 : rl_H} {a b c d : Nat} (x : rl_fr h h1 c d) : rl_g2 h h1 a b c d := fun q _ r => x q r
theorem ws_ok.eqv {ids : Nat → ClassId} {h h' : rl_H} {w : Nat} (H : ws_ok ids h w) (he : ∀ q, w ≤ q → q < w + 3 → h' q = h q) : ws_ok ids h' w := by
  obtain ⟨f, g, k, H⟩ := H
  exact ⟨f, g, k, H.eqv he⟩
theorem dr_ok.eqv {ids : Nat → ClassId} {h h' : rl_H} {w : Nat} (H : dr_ok ids h w) (he : ∀ q, w ≤ q → q < w + 3 → h' q = h q) : dr_ok ids h' w := by
  obtain ⟨s, H⟩ := H
  exact ⟨s, H.eqv he⟩
theorem tb_at.eqv {ids : Nat → ClassId} {h h' : rl_H} {a sz wd : Nat} {P : Nat → Nat} {S : tb_S} (H : tb_at ids h a sz wd P S) (he : ∀ q, a ≤ q → q < a + 402 → h' q = h q) : tb_at ids h' a sz wd P S := by
  obtain ⟨h1, ⟨f, h2, h3⟩, h4, h5, h6⟩ := H
  exact ⟨by rw [he a (by omega) (by omega)]; exact h1, ⟨f, by rw [he (a + 1) (by omega) (by omega)]; exact h2, h3⟩, h4, fun i hi => (h5 i hi).eqv (fun q q1 q2 => he q (by omega) (by omega)), h6⟩
theorem tb_ok.eqv {ids : Nat → ClassId} {h h' : rl_H} {a wd : Nat} (H : tb_ok ids h a wd) (he : ∀ q, a ≤ q → q < a + 402 → h' q = h q) : tb_ok ids h' a wd := by
  obtain ⟨sz, P, S, H⟩ := H
  exact ⟨sz, P, S, H.eqv he⟩
/-- a Tuple's Ways is another -/
theorem tb_at.way {ids : Nat → ClassId} {h h' : rl_H} {a sz wd i : Nat} {P : Nat → Nat} {S : tb_S} (H : tb_at ids h a sz wd P S) (hi : i < 80) (hw : ws_ok ids h' (a + 2 + 5 * i + 2)) (he : ∀ q, a ≤ q → q < a + 402 → (q < a + 2 + 5 * i + 2 ∨ a + 2 + 5 * i + 5 ≤ q) → h' q = h q) : ∃ S' : tb_S, tb_at ids h' a sz wd P S' := by
  obtain ⟨h1, ⟨f, h2, h3⟩, h4, h5, h6⟩ := H
  obtain ⟨wf, wg, wk, hw⟩ := hw
  refine ⟨(S.1, va_up S.2.1 i wf, va_up S.2.2.1 i wg, va_up S.2.2.2 i wk), by rw [he a (by omega) (by omega) (by omega)]; exact h1, ⟨f, by rw [he (a + 1) (by omega) (by omega) (by omega)]; exact h2, h3⟩, h4, fun j hj => ?_, h6⟩
  show tp_at ids h' _ (S.1 j) (va_up S.2.1 i wf j) (va_up S.2.2.1 i wg j) (va_up S.2.2.2 i wk j)
  by_cases q : j = i
  · subst q
    unfold va_up
    rw [if_pos rfl, if_pos rfl, if_pos rfl]
    obtain ⟨e1, e2, e3⟩ := h5 j hj
    exact ⟨by rw [he _ (by omega) (by omega) (by omega)]; exact e1, by rw [he _ (by omega) (by omega) (by omega)]; exact e2, hw⟩
  · unfold va_up
    rw [if_neg q, if_neg q, if_neg q]
    exact (h5 j hj).eqv (fun q q1 q2 => he q (by omega) (by omega) (by omega))
theorem dr_out.ws {ids : Nat → ClassId} {h h' : rl_H} {d w k : Nat} {s : dr_S} {f g f0 g0 : Nat → Int64} {x : Int32} (H : dr_out ids h h' d w s f g x) (hw : ws_at ids h w f0 g0 k) (hd : d + 3 ≤ w ∨ w + 3 ≤ d) : ws_ok ids h' w := by
  obtain ⟨a, b | b⟩ := H
  · exact ⟨_, _, _, hw.kept b.2.2 (by omega)⟩
  · exact ⟨_, _, _, b.2.2.1⟩
theorem dr_out.x {ids : Nat → ClassId} {h h' : rl_H} {d w : Nat} {s : dr_S} {f g : Nat → Int64} {x : Int32} (H : dr_out ids h h' d w s f g x) : x = nI 0 ∨ x = nI 1 := by
  obtain ⟨a, b | b⟩ := H
  · exact Or.inl b.2.1
  · exact Or.inr b.2.1
def op_sh (ids : Nat → ClassId) (h : rl_H) (o so : Nat) (gp : Nat → Option Nat) : Prop :=
  h o = some (.inr (2, [.ref (o + 1), .ref (o + 4), .ref (o + 7), .ref (o + 8), .ref (o + 9)])) ∧ dr_ok ids h (o + 1) ∧ ws_ok ids h (o + 4) ∧ (∃ tp : Nat → Option Nat, h (o + 7) = some (.inl (ids 4, 4, .inr (.inr (.inr (.inr tp))))) ∧ ∀ m, m < 4 → tp m = some (o + 10 + 3 * m)) ∧ h (o + 8) = some (.inl (ids 3, 4, .inr (.inr (.inr (.inr gp))))) ∧ (∃ kc : Nat → Int32, h (o + 9) = some (.inl (ids 0, 6, .inl kc))) ∧ ∀ m, m < 4 → ws_ok ids h (o + 10 + 3 * m)
theorem op_sh.eqv {ids : Nat → ClassId} {h h' : rl_H} {o so : Nat} {gp : Nat → Option Nat} (H : op_sh ids h o so gp) (he : ∀ q, o ≤ q → q < o + 22 → h' q = h q) : op_sh ids h' o so gp := by
  obtain ⟨h1, h2, h3, ⟨tp, h4, h5⟩, h6, ⟨kc, h7⟩, h8⟩ := H
  exact ⟨by rw [he o (by omega) (by omega)]; exact h1, h2.eqv (fun q a b => he q (by omega) (by omega)), h3.eqv (fun q a b => he q (by omega) (by omega)), ⟨tp, by rw [he (o + 7) (by omega) (by omega)]; exact h4, h5⟩, by rw [he (o + 8) (by omega) (by omega)]; exact h6, ⟨kc, by rw [he (o + 9) (by omega) (by omega)]; exact h7⟩, fun m hm => (h8 m hm).eqv (fun q a b => he q (by omega) (by omega))⟩
/-- the draft is another -/
theorem op_sh.dr {ids : Nat → ClassId} {h h' : rl_H} {o so : Nat} {gp : Nat → Option Nat} (H : op_sh ids h o so gp) (hd : dr_ok ids h' (o + 1)) (he : ∀ q, o ≤ q → q < o + 22 → (q < o + 1 ∨ o + 4 ≤ q) → h' q = h q) : op_sh ids h' o so gp := by
  obtain ⟨h1, h2, h3, ⟨tp, h4, h5⟩, h6, ⟨kc, h7⟩, h8⟩ := H
  exact ⟨by rw [he o (by omega) (by omega) (by omega)]; exact h1, hd, h3.eqv (fun q a b => he q (by omega) (by omega) (by omega)), ⟨tp, by rw [he (o + 7) (by omega) (by omega) (by omega)]; exact h4, h5⟩, by rw [he (o + 8) (by omega) (by omega) (by omega)]; exact h6, ⟨kc, by rw [he (o + 9) (by omega) (by omega) (by omega)]; exact h7⟩, fun m hm => (h8 m hm).eqv (fun q a b => he q (by omega) (by omega) (by omega))⟩
/-- the draft and what is made are others -/
theorem op_sh.mk {ids : Nat → ClassId} {h h' : rl_H} {o so : Nat} {gp : Nat → Option Nat} (H : op_sh ids h o so gp) (hd : dr_ok ids h' (o + 1)) (hm : ws_ok ids h' (o + 4)) (he : ∀ q, o ≤ q → q < o + 22 → (q < o + 1 ∨ o + 7 ≤ q) → h' q = h q) : op_sh ids h' o so gp := by
  obtain ⟨h1, h2, h3, ⟨tp, h4, h5⟩, h6, ⟨kc, h7⟩, h8⟩ := H
  exact ⟨by rw [he o (by omega) (by omega) (by omega)]; exact h1, hd, hm, ⟨tp, by rw [he (o + 7) (by omega) (by omega) (by omega)]; exact h4, h5⟩, by rw [he (o + 8) (by omega) (by omega) (by omega)]; exact h6, ⟨kc, by rw [he (o + 9) (by omega) (by omega) (by omega)]; exact h7⟩, fun m hm => (h8 m hm).eqv (fun q a b => he q (by omega) (by omega) (by omega))⟩
theorem fo_sum {ids : Nat → ClassId} {h h' : rl_H} {n n' a sz wd z : Nat} {P Q : Nat → Nat} {S T : tb_S} {v : Option Value} {A B : Prop} (ht : tb_at ids h a sz wd P S) (hz : z - 1 < 80) (H : A ∧ v = some (.ref (a + 2 + 5 * P (z - 1))) ∧ h' = h ∧ n' = n ∨ v = some .null ∧ 80 ≤ sz ∧ B ∧ h' = h ∧ n' = n ∨ B ∧ sz < 80 ∧ v = some (.ref (a + 2 + 5 * P sz)) ∧ n' = n ∧ tb_at ids h' a (sz + 1) wd Q T ∧ rl_fr h h' a (a + 402)) :
    (v = some .null ∧ h' = h ∧ n' = n) ∨ ∃ i : Nat, i < 80 ∧ v = some (.ref (a + 2 + 5 * i)) ∧ n' = n ∧ (∃ (sz : Nat) (P : Nat → Nat) (S : tb_S), tb_at ids h' a sz wd P S) ∧ rl_fr h h' a (a + 402) := by
  rcases H with ⟨-, e1, rfl, rfl⟩ | ⟨e1, -, -, rfl, rfl⟩ | ⟨-, h80, e1, rfl, p1, p2⟩
  · exact Or.inr ⟨_, ht.2.2.1 _ hz, e1, rfl, ⟨_, _, _, ht⟩, rl_fr.rf⟩
  · exact Or.inl ⟨e1, rfl, rfl⟩
  · exact Or.inr ⟨_, ht.2.2.1 _ h80, e1, rfl, ⟨_, _, _, p1⟩, p2⟩

set_option maxHeartbeats 4000000 in
set_option maxRecDepth 100000 in
theorem ct_X2_put (l : Launch) (D : va_G) (ids : Nat → ClassId) (H0 : Heap) (h : rl_H) (n : Nat) (o so a w na sz wd k : Nat) (gp : Nat → Option Nat) (P : Nat → Nat) (S : tb_S) (f g : Nat → Int64) (nc : Nat → Int32) (ho : op_sh ids h o so gp) (ht : tb_at ids h a sz wd P S) (hn : h na = some (.inl (ids 0, 6, .inl nc))) (hw : ws_at ids h w f g k) (hna : na < a ∨ a + 402 ≤ na) (hwa : w + 3 ≤ a ∨ a + 402 ≤ w) (hwd : o + 4 ≤ w ∨ w + 3 ≤ o + 1) (hoa : o + 22 ≤ a ∨ a + 402 ≤ o) : rl_Met l (rl_e D ids H0) rl_BW rl_Ns yX2_put cX2_put 5 (some .boolean) ({ frames := 3, cells := 0, slots := 0, locals := 125 }) [.ref o, .ref a, .ref na, .ref w] h n (fun v h' n' => ∃ x : Int32, v = some (.int x) ∧ n' = n ∧ (x = nI 0 ∨ x = nI 1) ∧ op_sh ids h' o so gp ∧ tb_ok ids h' a wd ∧ rl_g2 h h' (o + 1) (o + 4) a (a + 402)) := by
  obtain ⟨o0, ⟨ds, hd⟩, o4, o7, o8, o9, ot⟩ := id ho
  obtain ⟨w1, w2, w3, w4⟩ := id hw
  refine rl_Met.of (by decide +kernel) (Nat.le_of_ble_eq_true rfl) ?_
  intro X hC hB
  show rl_G X (rl_e D ids H0) 0 [some (.ref o), some (.ref a), some (.ref na), some (.ref w), none] [] h n 0 0
  refine o_aload_n hC dX2_put_0 (by rfl) ?_
  refine o_getf hC (fX2_191 hC rfl) dX2_put_1 (by repeat (first | with_reducible assumption | (rw [rl_u_s]; done) | (rw [rl_u_s]; rfl) | rw [rl_u_n (by first | with_reducible assumption | omega)])) (by first | rfl | with_reducible assumption) ?_
  refine o_if_ne (tgt := 9) hC dX2_put_4 (by decide) (fun c_4 => ?_) (fun c_4 => ?_)
  · refine o_aload_n hC dX2_put_9 (by rfl) ?_
    refine o_aload_n hC dX2_put_10 (by rfl) ?_
    refine o_callV1 hC rl_BW_good rl_Ns_nw (by exact hB.2.2.2.2.2) YX4_findOrAdd IX4_findOrAdd VX4_findOrAdd (mX2_192 hC) (by rw [hB.1]; exact ct_X4_findOrAdd l D ids H0 h n a sz wd na P S nc ht hn hna) (by exact ht.1) rfl rfl (Nat.le_of_ble_eq_true rfl) (by rw [hB.2.1]; first | exact Nat.le_of_ble_eq_true rfl | (dsimp only; omega)) (by rw [hB.2.1]; first | exact Nat.le_of_ble_eq_true rfl | (dsimp only; omega)) (by rw [hB.2.1]; first | exact Nat.le_of_ble_eq_true rfl | (dsimp only; omega)) (by rw [hB.2.1]; first | exact Nat.le_of_ble_eq_true rfl | (dsimp only; omega)) dX2_put_11 (fun v h_11 n_11 p_11 => ?_)
    try dsimp only [Option.toList, List.cons_append, List.nil_append]
    rcases fo_sum ht (by have := tb_fb_le (tb_o S P nc wd) sz; have := ht.2.2.2.2.1; omega) p_11 with ⟨rfl, rfl, rfl⟩ | ⟨i, hi, rfl, rfl, ⟨sz1, P1, S1, p1⟩, p2⟩
    · try dsimp only [Option.toList, List.cons_append, List.nil_append]
      refine o_astoreN hC dX2_put_14 (Nat.le_of_ble_eq_true rfl) ?_
      refine o_aloadN hC dX2_put_16 (by rfl) ?_
      refine o_ifnullN (tgt := 46) hC dX2_put_18 (by decide) ?_
      refine o_iconst (v := nI 0) hC dX2_put_46 (by decide +kernel) ?_
      refine o_zret hC hB dX2_put_47 (by first | rfl | decide +kernel) (Nat.le_of_ble_eq_true rfl) (Nat.le_of_ble_eq_true rfl) ?_
      refine ⟨_, rfl, rfl, Or.inl rfl, ho, ⟨_, _, _, ht⟩, rl_g2.rf⟩
    · try dsimp only [Option.toList, List.cons_append, List.nil_append]
      obtain ⟨e1, e2, e3⟩ := p1.2.2.2.1 i hi
      have u1 : h_11 o = some (.inr (2, [.ref (o + 1), .ref (o + 4), .ref (o + 7), .ref (o + 8), .ref (o + 9)])) := by rw [p2 o (by omega)]; exact o0
      have u2 : dr_at ids h_11 (o + 1) ds := hd.kept p2 (by omega)
      have u3 := hw.kept p2 (by omega)
      refine o_astore hC dX2_put_14 (Nat.le_of_ble_eq_true rfl) ?_
      refine o_aload hC dX2_put_16 (by rfl) ?_
      refine o_ifnull hC dX2_put_18 ?_
      refine o_aload_n hC dX2_put_21 (by rfl) ?_
      refine o_getf hC (fX2_12 hC rfl) dX2_put_22 (by repeat (first | with_reducible assumption | (rw [rl_u_s]; done) | (rw [rl_u_s]; rfl) | rw [rl_u_n (by first | with_reducible assumption | omega)])) (by first | rfl | with_reducible assumption) ?_
      refine o_aload hC dX2_put_25 (by rfl) ?_
      refine o_getf hC (fX2_116 hC rfl) dX2_put_27 (by repeat (first | with_reducible assumption | (rw [rl_u_s]; done) | (rw [rl_u_s]; rfl) | rw [rl_u_n (by first | with_reducible assumption | omega)])) (by first | rfl | with_reducible assumption) ?_
      refine o_aload_n hC dX2_put_30 (by rfl) ?_
      refine o_aload hC dX2_put_31 (by rfl) ?_
      refine o_getf hC (fX2_116 hC rfl) dX2_put_33 (by repeat (first | with_reducible assumption | (rw [rl_u_s]; done) | (rw [rl_u_s]; rfl) | rw [rl_u_n (by first | with_reducible assumption | omega)])) (by first | rfl | with_reducible assumption) ?_
      refine o_callV3 hC rl_BW_good rl_Ns_nw (by exact hB.2.2.2.2.2) YX0_either IX0_either VX0_either (mX2_195 hC) (by rw [hB.1]; exact ct_X0_either l D ids H0 _ _ (o + 1) (a + 2 + 5 * i + 2) w (a + 2 + 5 * i + 2) _ _ _ ds _ _ _ _ _ _ u2 e3 u3 e3 (by omega) (by omega) (by omega)) (by exact u2.1) rfl rfl (Nat.le_of_ble_eq_true rfl) (by rw [hB.2.1]; first | exact Nat.le_of_ble_eq_true rfl | (dsimp only; omega)) (by rw [hB.2.1]; first | exact Nat.le_of_ble_eq_true rfl | (dsimp only; omega)) (by rw [hB.2.1]; first | exact Nat.le_of_ble_eq_true rfl | (dsimp only; omega)) (by rw [hB.2.1]; first | exact Nat.le_of_ble_eq_true rfl | (dsimp only; omega)) dX2_put_36 (fun v h_36 n_36 p_36 => ?_)
      obtain ⟨x, rfl, rfl, q1⟩ := p_36
      try dsimp only [Option.toList, List.cons_append, List.nil_append]
      refine o_if_eq (tgt := 46) hC dX2_put_39 (by decide) (fun c_39 => ?_) (fun c_39 => ?_)
      · refine o_iconst (v := nI 0) hC dX2_put_46 (by decide +kernel) ?_
        refine o_zret hC hB dX2_put_47 (by first | rfl | decide +kernel) (Nat.le_of_ble_eq_true rfl) (Nat.le_of_ble_eq_true rfl) ?_
        have e5 : ws_ok ids h_36 (a + 2 + 5 * i + 2) := q1.ws e3 (by omega)
        have e6 := q1.f2
        refine ⟨_, rfl, rfl, Or.inl rfl, ho.dr ⟨_, q1.1⟩ (fun q a1 a2 a3 => by rw [e6 q (by omega) (by omega)]; exact p2 q (by omega)), ?_, fun q a1 a2 => by rw [e6 q (by omega) (by omega)]; exact p2 q (by omega)⟩
        obtain ⟨S2, e7⟩ := p1.way hi e5 (fun q a1 a2 a3 => e6 q (by omega) (by omega))
        exact ⟨_, _, _, e7⟩
      · refine o_iconst (v := nI 1) hC dX2_put_42 (by decide +kernel) ?_
        refine o_goto (tgt := 47) hC dX2_put_43 (by decide) ?_
        refine o_zret hC hB dX2_put_47 (by first | rfl | decide +kernel) (Nat.le_of_ble_eq_true rfl) (Nat.le_of_ble_eq_true rfl) ?_
        have e5 : ws_ok ids h_36 (a + 2 + 5 * i + 2) := q1.ws e3 (by omega)
        have e6 := q1.f2
        refine ⟨_, rfl, rfl, Or.inr rfl, ho.dr ⟨_, q1.1⟩ (fun q a1 a2 a3 => by rw [e6 q (by omega) (by omega)]; exact p2 q (by omega)), ?_, fun q a1 a2 => by rw [e6 q (by omega) (by omega)]; exact p2 q (by omega)⟩
        obtain ⟨S2, e7⟩ := p1.way hi e5 (fun q a1 a2 a3 => e6 q (by omega) (by omega))
        exact ⟨_, _, _, e7⟩
  · refine o_iconst (v := nI 1) hC dX2_put_7 (by decide +kernel) ?_
    refine o_zret hC hB dX2_put_8 (by first | rfl | decide +kernel) (Nat.le_of_ble_eq_true rfl) (Nat.le_of_ble_eq_true rfl) ?_
    refine ⟨_, rfl, rfl, Or.inr rfl, ho, ⟨_, _, _, ht⟩, rl_g2.rf⟩
