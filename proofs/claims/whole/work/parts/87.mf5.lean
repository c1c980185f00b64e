/-! THE MODEL, functionally: cellAt, against, find, take, copy -/
/-- TUPLE t of node a's table -/
abbrev mcl (A : md_D) (a t : Nat) : Nat → Int32 := fun c => A.1 ((80 * a + t) * 6 + c)
/-- how the TUPLE in work stands to it -/
abbrev mag (A : md_D) (a w t : Nat) : Int32 := tb_ord A.2.2.2.2.2.2.2.2.1 (mcl A a t) w 0
/-- the first from t on that is the same -/
def mfi (A : md_D) (a w : Nat) : Nat → Nat → Int32
  | 0, _ => -1
  | f + 1, t => if mag A a w t = 0 then nI t else mfi A a w f (t + 1)

set_option maxHeartbeats 4000000 in
set_option maxRecDepth 100000 in
theorem cf_X8_cellAt (l : Launch) (D : va_G) (ids : Nat → ClassId) (H0 : Heap) (h : rl_H) (n : Nat) (m : Nat) (T : md_T) (fu : Int32) (k : Nat) (A : md_D) (a t c : Nat) (hq : mf ids h h m T fu k A) (ha : (80 * a + t) * 6 + c < 8160) : rl_Met l (rl_e D ids H0) rl_BW rl_Ns yX8_cellAt cX8_cellAt 4 (some .int) ({ frames := 0, cells := 0, slots := 0, locals := 0 }) [.ref m, .int (nI a), .int (nI t), .int (nI c)] h n (fun v h' n' => v = some (.int (mcl A a t c)) ∧ h' = h ∧ n' = n) := by
  obtain ⟨hm0, g12, g13, g14, g15, g16, g17, g18, g19, g20, g21, g22⟩ := id hq
  have g0 := hm0.1
  have gk := hm0.2.1
  have b13 := hq.b13
  have b15 := hq.b15
  have b21 := hq.b21
  refine rl_Met.of (by decide +kernel) (Nat.le_of_ble_eq_true rfl) ?_
  intro X hC hB
  show rl_G X (rl_e D ids H0) 0 [some (.ref m), some (.int (nI a)), some (.int (nI t)), some (.int (nI c))] [] h n 0 0
  refine o_aload_n hC dX8_cellAt_0 (by rfl) ?_
  refine o_getf hC (fX8_43 hC rfl) dX8_cellAt_1 (by repeat (first | with_reducible assumption | (rw [rl_u_s]; done) | (rw [rl_u_s]; rfl) | rw [rl_u_n (by first | with_reducible assumption | omega)])) (by first | rfl | with_reducible assumption) ?_
  refine o_bipush (v := nI 80) hC dX8_cellAt_4 (by decide +kernel) ?_
  refine o_iload_n hC dX8_cellAt_6 (by rfl) ?_
  refine o_imul hC dX8_cellAt_7 ?_
  try rw [nI_mul]
  refine o_iload_n hC dX8_cellAt_8 (by rfl) ?_
  refine o_iadd hC dX8_cellAt_9 ?_
  try rw [nI_add]
  refine o_bipush (v := nI 6) hC dX8_cellAt_10 (by decide +kernel) ?_
  refine o_imul hC dX8_cellAt_12 ?_
  try rw [nI_mul]
  refine o_iload_n hC dX8_cellAt_13 (by rfl) ?_
  refine o_iadd hC dX8_cellAt_14 ?_
  try rw [nI_add]
  refine o_ialdN (t0 := 0) hC rfl dX8_cellAt_15 (by repeat (first | with_reducible assumption | (rw [rl_u_s]; done) | (rw [rl_u_s]; rfl) | rw [rl_u_n (by first | with_reducible assumption | omega)])) (by omega) (by decide) ?_
  refine o_iret hC hB dX8_cellAt_16 (Nat.le_of_ble_eq_true rfl) (Nat.le_of_ble_eq_true rfl) ?_
  exact ⟨rfl, rfl, rfl⟩

set_option maxHeartbeats 4000000 in
set_option maxRecDepth 100000 in
theorem cf_X8_against (l : Launch) (D : va_G) (ids : Nat → ClassId) (H0 : Heap) (h : rl_H) (n : Nat) (m : Nat) (T : md_T) (fu : Int32) (k : Nat) (A : md_D) (S : md_A) (a t w : Nat) (hq : mf ids h h m T fu k A) (hs : md_sa ids h m S) (ha : a < 16) (ht : t < 80) (hw : S.2.2.2.2.2.2.2.2.2.2 a = nI w) (hw6 : w ≤ 6) : rl_Met l (rl_e D ids H0) rl_BW rl_Ns yX8_against cX8_against 5 (some .int) ({ frames := 1, cells := 0, slots := 0, locals := 23 }) [.ref m, .int (nI a), .int (nI t)] h n (fun v h' n' => v = some (.int (mag A a w t)) ∧ h' = h ∧ n' = n) := by
  obtain ⟨hm0, g12, g13, g14, g15, g16, g17, g18, g19, g20, g21, g22⟩ := id hq
  have g0 := hm0.1
  have gk := hm0.2.1
  have b13 := hq.b13
  have b15 := hq.b15
  have b21 := hq.b21
  obtain ⟨a1, a2, a3, a4, a5, a6, a7, a8, a9, a10, a11⟩ := id hs
  refine rl_Met.of (by decide +kernel) (Nat.le_of_ble_eq_true rfl) ?_
  intro X hC hB
  have loop : ∀ (mm c : Nat) (o4 : Option Value), c + mm = w → mag A a w t = tb_ord A.2.2.2.2.2.2.2.2.1 (mcl A a t) mm c → rl_G X (rl_e D ids H0) 2 [some (.ref m), some (.int (nI a)), some (.int (nI t)), some (.int (nI c)), o4] [] h n 0 0 := by
    intro mm
    induction mm with
    | zero =>
      intro c o4 hm hs1
      refine o_iload_n hC dX8_against_2 (by rfl) ?_
      refine o_aload_n hC dX8_against_3 (by rfl) ?_
      refine o_getf hC (fX8_40 hC rfl) dX8_against_4 (by repeat (first | with_reducible assumption | (rw [rl_u_s]; done) | (rw [rl_u_s]; rfl) | rw [rl_u_n (by first | with_reducible assumption | omega)])) (by first | rfl | with_reducible assumption) ?_
      refine o_iload_n hC dX8_against_7 (by rfl) ?_
      refine o_ialdN (t0 := 0) (k := a) hC rfl dX8_against_8 (by repeat (first | with_reducible assumption | (rw [rl_u_s]; done) | (rw [rl_u_s]; rfl) | rw [rl_u_n (by first | with_reducible assumption | omega)])) (by omega) (by decide) ?_
      rw [hw]
      refine o_icmp_ge (tgt := 55) hC dX8_against_9 (by decide) (fun c_9 => ?_) (fun c_9 => ?_)
      · refine o_iconst (v := nI 0) hC dX8_against_55 (by decide +kernel) ?_
        refine o_iret hC hB dX8_against_56 (Nat.le_of_ble_eq_true rfl) (Nat.le_of_ble_eq_true rfl) ?_
        exact ⟨by rw [hs1]; rfl, rfl, rfl⟩
      · exact absurd (nI_le (by omega) (by omega)) c_9
    | succ mm ih =>
      intro c o4 hm hs1
      refine o_iload_n hC dX8_against_2 (by rfl) ?_
      refine o_aload_n hC dX8_against_3 (by rfl) ?_
      refine o_getf hC (fX8_40 hC rfl) dX8_against_4 (by repeat (first | with_reducible assumption | (rw [rl_u_s]; done) | (rw [rl_u_s]; rfl) | rw [rl_u_n (by first | with_reducible assumption | omega)])) (by first | rfl | with_reducible assumption) ?_
      refine o_iload_n hC dX8_against_7 (by rfl) ?_
      refine o_ialdN (t0 := 0) (k := a) hC rfl dX8_against_8 (by repeat (first | with_reducible assumption | (rw [rl_u_s]; done) | (rw [rl_u_s]; rfl) | rw [rl_u_n (by first | with_reducible assumption | omega)])) (by omega) (by decide) ?_
      rw [hw]
      refine o_icmp_ge (tgt := 55) hC dX8_against_9 (by decide) (fun c_9 => ?_) (fun c_9 => ?_)
      · refine o_iconst (v := nI 0) hC dX8_against_55 (by decide +kernel) ?_
        refine o_iret hC hB dX8_against_56 (Nat.le_of_ble_eq_true rfl) (Nat.le_of_ble_eq_true rfl) ?_
        first
        | exact ⟨by rw [hs1, tb_ord, if_neg c_29, if_pos c_40], rfl, rfl⟩
        | exact ⟨by rw [hs1, tb_ord, if_neg c_29, if_neg c_40], rfl, rfl⟩
        | exact absurd c_9 (nI_ge (by omega) (by omega))
      · refine o_aload_n hC dX8_against_12 (by rfl) ?_
        refine o_iload_n hC dX8_against_13 (by rfl) ?_
        refine o_iload_n hC dX8_against_14 (by rfl) ?_
        refine o_iload_n hC dX8_against_15 (by rfl) ?_
        refine o_callV3 hC rl_BW_good rl_Ns_nw (by exact hB.2.2.2.2.2) YX8_cellAt IX8_cellAt VX8_cellAt (mX8_138 hC) (by rw [hB.1]; exact cf_X8_cellAt l D ids H0 _ _ m T _ _ _ a t c hq (by omega)) (by exact hq.1.1) rfl rfl (Nat.le_of_ble_eq_true rfl) (by rw [hB.2.1]; first | exact Nat.le_of_ble_eq_true rfl | (dsimp only; omega)) (by rw [hB.2.1]; first | exact Nat.le_of_ble_eq_true rfl | (dsimp only; omega)) (by rw [hB.2.1]; first | exact Nat.le_of_ble_eq_true rfl | (dsimp only; omega)) (by rw [hB.2.1]; first | exact Nat.le_of_ble_eq_true rfl | (dsimp only; omega)) dX8_against_16 (fun v h_16 n_16 p_16 => ?_)
        obtain ⟨rfl, rfl, rfl⟩ := p_16
        try dsimp only [Option.toList, List.cons_append, List.nil_append]
        refine o_istore hC dX8_against_19 (Nat.le_of_ble_eq_true rfl) ?_
        refine o_aload_n hC dX8_against_21 (by rfl) ?_
        refine o_getf hC (fX8_69 hC rfl) dX8_against_22 (by repeat (first | with_reducible assumption | (rw [rl_u_s]; done) | (rw [rl_u_s]; rfl) | rw [rl_u_n (by first | with_reducible assumption | omega)])) (by first | rfl | with_reducible assumption) ?_
        refine o_iload_n hC dX8_against_25 (by rfl) ?_
        refine o_ialdN (t0 := 0) hC rfl dX8_against_26 (by repeat (first | with_reducible assumption | (rw [rl_u_s]; done) | (rw [rl_u_s]; rfl) | rw [rl_u_n (by first | with_reducible assumption | omega)])) (by omega) (by decide) ?_
        refine o_iload hC dX8_against_27 (by rfl) ?_
        refine o_icmp_eq (tgt := 49) hC dX8_against_29 (by decide) (fun c_29 => ?_) (fun c_29 => ?_)
        · refine o_iinc hC dX8_against_49 (by rfl) (rl_inc _) (Nat.le_of_ble_eq_true rfl) ?_
          refine o_goto (tgt := 2) hC dX8_against_52 (by decide) ?_
          exact ih (c + 1) _ (by omega) (by rw [hs1, tb_ord, if_pos c_29])
        · refine o_aload_n hC dX8_against_32 (by rfl) ?_
          refine o_getf hC (fX8_69 hC rfl) dX8_against_33 (by repeat (first | with_reducible assumption | (rw [rl_u_s]; done) | (rw [rl_u_s]; rfl) | rw [rl_u_n (by first | with_reducible assumption | omega)])) (by first | rfl | with_reducible assumption) ?_
          refine o_iload_n hC dX8_against_36 (by rfl) ?_
          refine o_ialdN (t0 := 0) hC rfl dX8_against_37 (by repeat (first | with_reducible assumption | (rw [rl_u_s]; done) | (rw [rl_u_s]; rfl) | rw [rl_u_n (by first | with_reducible assumption | omega)])) (by omega) (by decide) ?_
          refine o_iload hC dX8_against_38 (by rfl) ?_
          refine o_icmp_ge (tgt := 47) hC dX8_against_40 (by decide) (fun c_40 => ?_) (fun c_40 => ?_)
          · refine o_iconst (v := nI 1) hC dX8_against_47 (by decide +kernel) ?_
            refine o_iret hC hB dX8_against_48 (Nat.le_of_ble_eq_true rfl) (Nat.le_of_ble_eq_true rfl) ?_
            first
            | exact ⟨by rw [hs1, tb_ord, if_neg c_29, if_pos c_40], rfl, rfl⟩
            | exact ⟨by rw [hs1, tb_ord, if_neg c_29, if_neg c_40], rfl, rfl⟩
            | exact absurd c_9 (nI_ge (by omega) (by omega))
          · refine o_iconst (v := (-1 : Int32)) hC dX8_against_43 (by decide +kernel) ?_
            refine o_goto (tgt := 48) hC dX8_against_44 (by decide) ?_
            refine o_iret hC hB dX8_against_48 (Nat.le_of_ble_eq_true rfl) (Nat.le_of_ble_eq_true rfl) ?_
            first
            | exact ⟨by rw [hs1, tb_ord, if_neg c_29, if_pos c_40], rfl, rfl⟩
            | exact ⟨by rw [hs1, tb_ord, if_neg c_29, if_neg c_40], rfl, rfl⟩
            | exact absurd c_9 (nI_ge (by omega) (by omega))
  show rl_G X (rl_e D ids H0) 0 [some (.ref m), some (.int (nI a)), some (.int (nI t)), none, none] [] h n 0 0
  refine o_iconst (v := nI 0) hC dX8_against_0 (by decide +kernel) ?_
  refine o_istore_n hC dX8_against_1 (Nat.le_of_ble_eq_true rfl) ?_
  exact loop w 0 _ (by omega) rfl

set_option maxHeartbeats 4000000 in
set_option maxRecDepth 100000 in
theorem cf_X8_find (l : Launch) (D : va_G) (ids : Nat → ClassId) (H0 : Heap) (h : rl_H) (n : Nat) (m : Nat) (T : md_T) (fu : Int32) (k : Nat) (A : md_D) (S : md_A) (a w tu : Nat) (hq : mf ids h h m T fu k A) (hs : md_sa ids h m S) (ha : a < 16) (hw : S.2.2.2.2.2.2.2.2.2.2 a = nI w) (hw6 : w ≤ 6) (htu : A.2.1 a = nI tu) (htu8 : tu ≤ 80) : rl_Met l (rl_e D ids H0) rl_BW rl_Ns yX8_find cX8_find 3 (some .int) ({ frames := 2, cells := 0, slots := 0, locals := 47 }) [.ref m, .int (nI a)] h n (fun v h' n' => v = some (.int (mfi A a w tu 0)) ∧ h' = h ∧ n' = n) := by
  obtain ⟨hm0, g12, g13, g14, g15, g16, g17, g18, g19, g20, g21, g22⟩ := id hq
  have g0 := hm0.1
  have gk := hm0.2.1
  have b13 := hq.b13
  have b15 := hq.b15
  have b21 := hq.b21
  obtain ⟨a1, a2, a3, a4, a5, a6, a7, a8, a9, a10, a11⟩ := id hs
  refine rl_Met.of (by decide +kernel) (Nat.le_of_ble_eq_true rfl) ?_
  intro X hC hB
  have loop : ∀ (mm t : Nat), t + mm = tu → mfi A a w tu 0 = mfi A a w mm t → rl_G X (rl_e D ids H0) 2 [some (.ref m), some (.int (nI a)), some (.int (nI t))] [] h n 0 0 := by
    intro mm
    induction mm with
    | zero =>
      intro t hm hs1
      refine o_iload_n hC dX8_find_2 (by rfl) ?_
      refine o_aload_n hC dX8_find_3 (by rfl) ?_
      refine o_getf hC (fX8_46 hC rfl) dX8_find_4 (by repeat (first | with_reducible assumption | (rw [rl_u_s]; done) | (rw [rl_u_s]; rfl) | rw [rl_u_n (by first | with_reducible assumption | omega)])) (by first | rfl | with_reducible assumption) ?_
      refine o_iload_n hC dX8_find_7 (by rfl) ?_
      refine o_ialdN (t0 := 0) (k := a) hC rfl dX8_find_8 (by repeat (first | with_reducible assumption | (rw [rl_u_s]; done) | (rw [rl_u_s]; rfl) | rw [rl_u_n (by first | with_reducible assumption | omega)])) (by omega) (by decide) ?_
      rw [htu]
      refine o_icmp_ge (tgt := 29) hC dX8_find_9 (by decide) (fun c_9 => ?_) (fun c_9 => ?_)
      · refine o_iconst (v := (-1 : Int32)) hC dX8_find_29 (by decide +kernel) ?_
        refine o_iret hC hB dX8_find_30 (Nat.le_of_ble_eq_true rfl) (Nat.le_of_ble_eq_true rfl) ?_
        exact ⟨by rw [hs1]; rfl, rfl, rfl⟩
      · exact absurd (nI_le (by omega) (by omega)) c_9
    | succ mm ih =>
      intro t hm hs1
      refine o_iload_n hC dX8_find_2 (by rfl) ?_
      refine o_aload_n hC dX8_find_3 (by rfl) ?_
      refine o_getf hC (fX8_46 hC rfl) dX8_find_4 (by repeat (first | with_reducible assumption | (rw [rl_u_s]; done) | (rw [rl_u_s]; rfl) | rw [rl_u_n (by first | with_reducible assumption | omega)])) (by first | rfl | with_reducible assumption) ?_
      refine o_iload_n hC dX8_find_7 (by rfl) ?_
      refine o_ialdN (t0 := 0) (k := a) hC rfl dX8_find_8 (by repeat (first | with_reducible assumption | (rw [rl_u_s]; done) | (rw [rl_u_s]; rfl) | rw [rl_u_n (by first | with_reducible assumption | omega)])) (by omega) (by decide) ?_
      rw [htu]
      refine o_icmp_ge (tgt := 29) hC dX8_find_9 (by decide) (fun c_9 => ?_) (fun c_9 => ?_)
      · refine o_iconst (v := (-1 : Int32)) hC dX8_find_29 (by decide +kernel) ?_
        refine o_iret hC hB dX8_find_30 (Nat.le_of_ble_eq_true rfl) (Nat.le_of_ble_eq_true rfl) ?_
        exact absurd c_9 (nI_ge (by omega) (by omega))
      · refine o_aload_n hC dX8_find_12 (by rfl) ?_
        refine o_iload_n hC dX8_find_13 (by rfl) ?_
        refine o_iload_n hC dX8_find_14 (by rfl) ?_
        refine o_callV2 hC rl_BW_good rl_Ns_nw (by exact hB.2.2.2.2.2) YX8_against IX8_against VX8_against (mX8_141 hC) (by rw [hB.1]; exact cf_X8_against l D ids H0 _ _ m T _ _ _ S a t w hq hs (by omega) (by omega) hw hw6) (by exact hq.1.1) rfl rfl (Nat.le_of_ble_eq_true rfl) (by rw [hB.2.1]; first | exact Nat.le_of_ble_eq_true rfl | (dsimp only; omega)) (by rw [hB.2.1]; first | exact Nat.le_of_ble_eq_true rfl | (dsimp only; omega)) (by rw [hB.2.1]; first | exact Nat.le_of_ble_eq_true rfl | (dsimp only; omega)) (by rw [hB.2.1]; first | exact Nat.le_of_ble_eq_true rfl | (dsimp only; omega)) dX8_find_15 (fun v h_15 n_15 p_15 => ?_)
        obtain ⟨rfl, rfl, rfl⟩ := p_15
        try dsimp only [Option.toList, List.cons_append, List.nil_append]
        refine o_if_ne (tgt := 23) hC dX8_find_18 (by decide) (fun c_18 => ?_) (fun c_18 => ?_)
        · refine o_iinc hC dX8_find_23 (by rfl) (rl_inc _) (Nat.le_of_ble_eq_true rfl) ?_
          refine o_goto (tgt := 2) hC dX8_find_26 (by decide) ?_
          exact ih (t + 1) (by omega) (by rw [hs1, mfi, if_neg c_18])
        · refine o_iload_n hC dX8_find_21 (by rfl) ?_
          refine o_iret hC hB dX8_find_22 (Nat.le_of_ble_eq_true rfl) (Nat.le_of_ble_eq_true rfl) ?_
          exact ⟨by rw [hs1, mfi, if_pos (by first | exact c_18 | exact Classical.not_not.mp c_18)], rfl, rfl⟩
  show rl_G X (rl_e D ids H0) 0 [some (.ref m), some (.int (nI a)), none] [] h n 0 0
  refine o_iconst (v := nI 0) hC dX8_find_0 (by decide +kernel) ?_
  refine o_istore_n hC dX8_find_1 (Nat.le_of_ble_eq_true rfl) ?_
  exact loop tu 0 (by omega) rfl

set_option maxHeartbeats 4000000 in
set_option maxRecDepth 100000 in
theorem cf_X8_take (l : Launch) (D : va_G) (ids : Nat → ClassId) (H0 : Heap) (h : rl_H) (n : Nat) (m : Nat) (T : md_T) (fu : Int32) (k : Nat) (A : md_D) (a t w : Nat) (hq : mf ids h h m T fu k A) (ha : a < 16) (ht : t < 80) (hw : w ≤ 6) : rl_Met l (rl_e D ids H0) rl_BW rl_Ns yX8_take cX8_take 5 none ({ frames := 1, cells := 0, slots := 0, locals := 23 }) [.ref m, .int (nI a), .int (nI t), .int (nI w)] h n (fun v h' n' => ∃ tp' : Nat → Int32, v = none ∧ n' = n ∧ mf ids h h' m T fu k (A.1, A.2.1, A.2.2.1, A.2.2.2.1, A.2.2.2.2.1, A.2.2.2.2.2.1, A.2.2.2.2.2.2.1, A.2.2.2.2.2.2.2.1, tp', A.2.2.2.2.2.2.2.2.2.1, A.2.2.2.2.2.2.2.2.2.2) ∧ (∀ q : Nat, tp' q = if q < w then mcl A a t q else A.2.2.2.2.2.2.2.2.1 q)) := by
  obtain ⟨hm0, g12, g13, g14, g15, g16, g17, g18, g19, g20, g21, g22⟩ := id hq
  have g0 := hm0.1
  have gk := hm0.2.1
  have b13 := hq.b13
  have b15 := hq.b15
  have b21 := hq.b21
  refine rl_Met.of (by decide +kernel) (Nat.le_of_ble_eq_true rfl) ?_
  intro X hC hB
  have loop : ∀ (mm c : Nat) (h1 : rl_H) (tp1 : Nat → Int32), c + mm = w → mf ids h h1 m T fu k (A.1, A.2.1, A.2.2.1, A.2.2.2.1, A.2.2.2.2.1, A.2.2.2.2.2.1, A.2.2.2.2.2.2.1, A.2.2.2.2.2.2.2.1, tp1, A.2.2.2.2.2.2.2.2.2.1, A.2.2.2.2.2.2.2.2.2.2) → (∀ q : Nat, tp1 q = if q < c then mcl A a t q else A.2.2.2.2.2.2.2.2.1 q) → rl_G X (rl_e D ids H0) 3 [some (.ref m), some (.int (nI a)), some (.int (nI t)), some (.int (nI w)), some (.int (nI c))] [] h1 n 0 0 := by
    intro mm
    induction mm with
    | zero =>
      intro c h1 tp1 hm hq1 htp
      have ec : c = w := by omega
      subst ec
      refine o_iload hC dX8_take_3 (by rfl) ?_
      refine o_iload_n hC dX8_take_5 (by rfl) ?_
      refine o_icmp_ge (tgt := 30) hC dX8_take_6 (by decide) (fun c_6 => ?_) (fun c_6 => ?_)
      · refine o_vret hC hB dX8_take_30 (Nat.le_of_ble_eq_true rfl) (Nat.le_of_ble_eq_true rfl) ?_
        exact ⟨tp1, rfl, rfl, hq1, htp⟩
      · exact absurd (nI_le (by omega) (by omega)) c_6
    | succ mm ih =>
      intro c h1 tp1 hm hq1 htp
      obtain ⟨hm0, g12, g13, g14, g15, g16, g17, g18, g19, g20, g21, g22⟩ := id hq1
      have g0 := hm0.1
      have gk := hm0.2.1
      refine o_iload hC dX8_take_3 (by rfl) ?_
      refine o_iload_n hC dX8_take_5 (by rfl) ?_
      refine o_icmp_ge (tgt := 30) hC dX8_take_6 (by decide) (fun c_6 => ?_) (fun c_6 => ?_)
      · refine o_vret hC hB dX8_take_30 (Nat.le_of_ble_eq_true rfl) (Nat.le_of_ble_eq_true rfl) ?_
        exact absurd c_6 (nI_ge (by omega) (by omega))
      · refine o_aload_n hC dX8_take_9 (by rfl) ?_
        refine o_getf hC (fX8_69 hC rfl) dX8_take_10 (by repeat (first | with_reducible assumption | (rw [rl_u_s]; done) | (rw [rl_u_s]; rfl) | rw [rl_u_n (by first | with_reducible assumption | omega)])) (by first | rfl | with_reducible assumption) ?_
        refine o_iload hC dX8_take_13 (by rfl) ?_
        refine o_aload_n hC dX8_take_15 (by rfl) ?_
        refine o_iload_n hC dX8_take_16 (by rfl) ?_
        refine o_iload_n hC dX8_take_17 (by rfl) ?_
        refine o_iload hC dX8_take_18 (by rfl) ?_
        refine o_callV3 hC rl_BW_good rl_Ns_nw (by exact hB.2.2.2.2.2) YX8_cellAt IX8_cellAt VX8_cellAt (mX8_138 hC) (by rw [hB.1]; exact cf_X8_cellAt l D ids H0 _ _ m T _ _ _ a t c hq1.rf (by omega)) (by exact hq1.rf.1.1) rfl rfl (Nat.le_of_ble_eq_true rfl) (by rw [hB.2.1]; first | exact Nat.le_of_ble_eq_true rfl | (dsimp only; omega)) (by rw [hB.2.1]; first | exact Nat.le_of_ble_eq_true rfl | (dsimp only; omega)) (by rw [hB.2.1]; first | exact Nat.le_of_ble_eq_true rfl | (dsimp only; omega)) (by rw [hB.2.1]; first | exact Nat.le_of_ble_eq_true rfl | (dsimp only; omega)) dX8_take_20 (fun v h_20 n_20 p_20 => ?_)
        obtain ⟨rfl, rfl, rfl⟩ := p_20
        try dsimp only [Option.toList, List.cons_append, List.nil_append]
        refine o_iastN (t0 := 0) hC rfl dX8_take_23 (by repeat (first | with_reducible assumption | (rw [rl_u_s]; done) | (rw [rl_u_s]; rfl) | rw [rl_u_n (by first | with_reducible assumption | omega)])) (by omega) (by decide) ?_
        refine o_iinc hC dX8_take_24 (by rfl) (rl_inc _) (Nat.le_of_ble_eq_true rfl) ?_
        refine o_goto (tgt := 3) hC dX8_take_27 (by decide) ?_
        exact ih (c + 1) _ (upd tp1 c (mcl A a t c)) (by omega) (hq1.s20 _) (fun q => by
          by_cases e : q = c
          · subst e
            rw [upd_at, if_pos (by omega)]
          · rw [show upd tp1 c (mcl A a t c) q = tp1 q from if_neg e, htp q]
            by_cases e2 : q < c
            · rw [if_pos e2, if_pos (by omega)]
            · rw [if_neg e2, if_neg (by omega)])
  show rl_G X (rl_e D ids H0) 0 [some (.ref m), some (.int (nI a)), some (.int (nI t)), some (.int (nI w)), none] [] h n 0 0
  refine o_iconst (v := nI 0) hC dX8_take_0 (by decide +kernel) ?_
  refine o_istore hC dX8_take_1 (Nat.le_of_ble_eq_true rfl) ?_
  exact loop w 0 _ A.2.2.2.2.2.2.2.2.1 (by omega) hq (fun q => (if_neg (by omega)).symm)

set_option maxHeartbeats 4000000 in
set_option maxRecDepth 100000 in
theorem cf_X8_copy (l : Launch) (D : va_G) (ids : Nat → ClassId) (H0 : Heap) (h : rl_H) (n : Nat) (m : Nat) (T : md_T) (fu : Int32) (k : Nat) (A : md_D) (a b : Nat) (Lb : List tT) (hq : mf ids h h m T fu k A) (ha : a < 1368) (hb16 : b < 1368) (hab : b ≠ a) (hb : mws A b Lb) : rl_Met l (rl_e D ids H0) rl_BW rl_Ns yX8_copy cX8_copy 4 none ({ frames := 0, cells := 0, slots := 0, locals := 0 }) [.ref m, .int (nI a), .int (nI b)] h n (fun v h' n' => ∃ A' : md_D, v = none ∧ n' = n ∧ mf ids h h' m T fu k A' ∧ mro A A' a ∧ mws A' a Lb) := by
  obtain ⟨hm0, g12, g13, g14, g15, g16, g17, g18, g19, g20, g21, g22⟩ := id hq
  have g0 := hm0.1
  have gk := hm0.2.1
  have b13 := hq.b13
  have b15 := hq.b15
  have b21 := hq.b21
  have lb12 := hb.2.1
  refine rl_Met.of (by decide +kernel) (Nat.le_of_ble_eq_true rfl) ?_
  intro X hC hB
  have loop : ∀ (mm j : Nat) (h1 : rl_H) (A1 : md_D), j + mm = Lb.length → mf ids h h1 m T fu k A1 → mro A A1 a ∧ A1.2.2.2.1 a = nI Lb.length ∧ (∀ i : Nat, i < j → A1.2.2.2.2.1 (12 * a + i) = A.2.2.2.2.1 (12 * b + i) ∧ A1.2.2.2.2.2.1 (12 * a + i) = A.2.2.2.2.2.1 (12 * b + i)) → rl_G X (rl_e D ids H0) 14 [some (.ref m), some (.int (nI a)), some (.int (nI b)), some (.int (nI j))] [] h1 n 0 0 := by
    intro mm
    induction mm with
    | zero =>
      intro j h1 A1 hm hq1 hr
      have ej : j = Lb.length := by omega
      subst ej
      obtain ⟨hro, ht1, hcp⟩ := hr
      have hb1 := hro.2.2.2.1 b hab
      obtain ⟨hm0, g12, g13, g14, g15, g16, g17, g18, g19, g20, g21, g22⟩ := id hq1
      have g0 := hm0.1
      have gk := hm0.2.1
      refine o_iload_n hC dX8_copy_14 (by rfl) ?_
      refine o_aload_n hC dX8_copy_15 (by rfl) ?_
      refine o_getf hC (fX8_53 hC rfl) dX8_copy_16 (by repeat (first | with_reducible assumption | (rw [rl_u_s]; done) | (rw [rl_u_s]; rfl) | rw [rl_u_n (by first | with_reducible assumption | omega)])) (by first | rfl | with_reducible assumption) ?_
      refine o_iload_n hC dX8_copy_19 (by rfl) ?_
      refine o_ialdN (t0 := 0) (k := b) hC rfl dX8_copy_20 (by repeat (first | with_reducible assumption | (rw [rl_u_s]; done) | (rw [rl_u_s]; rfl) | rw [rl_u_n (by first | with_reducible assumption | omega)])) (by omega) (by decide) ?_
      rw [hb1, hb.1]
      refine o_icmp_ge (tgt := 74) hC dX8_copy_21 (by decide) (fun c_21 => ?_) (fun c_21 => ?_)
      · refine o_vret hC hB dX8_copy_74 (Nat.le_of_ble_eq_true rfl) (Nat.le_of_ble_eq_true rfl) ?_
        refine ⟨A1, rfl, rfl, hq1, hro, ht1, hb.2.1, (tls_eq (fun i hi => hcp i hi)).trans hb.2.2⟩
      · exact absurd (nI_le (by omega) (by omega)) c_21
    | succ mm ih =>
      intro j h1 A1 hm hq1 hr
      obtain ⟨hro, ht1, hcp⟩ := hr
      have hb1 := hro.2.2.2.1 b hab
      obtain ⟨hm0, g12, g13, g14, g15, g16, g17, g18, g19, g20, g21, g22⟩ := id hq1
      have g0 := hm0.1
      have gk := hm0.2.1
      refine o_iload_n hC dX8_copy_14 (by rfl) ?_
      refine o_aload_n hC dX8_copy_15 (by rfl) ?_
      refine o_getf hC (fX8_53 hC rfl) dX8_copy_16 (by repeat (first | with_reducible assumption | (rw [rl_u_s]; done) | (rw [rl_u_s]; rfl) | rw [rl_u_n (by first | with_reducible assumption | omega)])) (by first | rfl | with_reducible assumption) ?_
      refine o_iload_n hC dX8_copy_19 (by rfl) ?_
      refine o_ialdN (t0 := 0) (k := b) hC rfl dX8_copy_20 (by repeat (first | with_reducible assumption | (rw [rl_u_s]; done) | (rw [rl_u_s]; rfl) | rw [rl_u_n (by first | with_reducible assumption | omega)])) (by omega) (by decide) ?_
      rw [hb1, hb.1]
      refine o_icmp_ge (tgt := 74) hC dX8_copy_21 (by decide) (fun c_21 => ?_) (fun c_21 => ?_)
      · refine o_vret hC hB dX8_copy_74 (Nat.le_of_ble_eq_true rfl) (Nat.le_of_ble_eq_true rfl) ?_
        exact absurd c_21 (nI_ge (by omega) (by omega))
      · refine o_aload_n hC dX8_copy_24 (by rfl) ?_
        refine o_getf hC (fX8_56 hC rfl) dX8_copy_25 (by repeat (first | with_reducible assumption | (rw [rl_u_s]; done) | (rw [rl_u_s]; rfl) | rw [rl_u_n (by first | with_reducible assumption | omega)])) (by first | rfl | with_reducible assumption) ?_
        refine o_bipush (v := nI 12) hC dX8_copy_28 (by decide +kernel) ?_
        refine o_iload_n hC dX8_copy_30 (by rfl) ?_
        refine o_imul hC dX8_copy_31 ?_
        try rw [nI_mul]
        refine o_iload_n hC dX8_copy_32 (by rfl) ?_
        refine o_iadd hC dX8_copy_33 ?_
        try rw [nI_add]
        refine o_aload_n hC dX8_copy_34 (by rfl) ?_
        refine o_getf hC (fX8_56 hC rfl) dX8_copy_35 (by repeat (first | with_reducible assumption | (rw [rl_u_s]; done) | (rw [rl_u_s]; rfl) | rw [rl_u_n (by first | with_reducible assumption | omega)])) (by first | rfl | with_reducible assumption) ?_
        refine o_bipush (v := nI 12) hC dX8_copy_38 (by decide +kernel) ?_
        refine o_iload_n hC dX8_copy_40 (by rfl) ?_
        refine o_imul hC dX8_copy_41 ?_
        try rw [nI_mul]
        refine o_iload_n hC dX8_copy_42 (by rfl) ?_
        refine o_iadd hC dX8_copy_43 ?_
        try rw [nI_add]
        refine o_laldN (t0 := 1) hC rfl dX8_copy_44 (by repeat (first | with_reducible assumption | (rw [rl_u_s]; done) | (rw [rl_u_s]; rfl) | rw [rl_u_n (by first | with_reducible assumption | omega)])) (by omega) (by decide) ?_
        refine o_lastN (t0 := 1) hC rfl dX8_copy_45 (by repeat (first | with_reducible assumption | (rw [rl_u_s]; done) | (rw [rl_u_s]; rfl) | rw [rl_u_n (by first | with_reducible assumption | omega)])) (by omega) (by decide) ?_
        refine o_aload_n hC dX8_copy_46 (by rfl) ?_
        refine o_getf hC (fX8_60 hC rfl) dX8_copy_47 (by repeat (first | with_reducible assumption | (rw [rl_u_s]; done) | (rw [rl_u_s]; rfl) | rw [rl_u_n (by first | with_reducible assumption | omega)])) (by first | rfl | with_reducible assumption) ?_
        refine o_bipush (v := nI 12) hC dX8_copy_50 (by decide +kernel) ?_
        refine o_iload_n hC dX8_copy_52 (by rfl) ?_
        refine o_imul hC dX8_copy_53 ?_
        try rw [nI_mul]
        refine o_iload_n hC dX8_copy_54 (by rfl) ?_
        refine o_iadd hC dX8_copy_55 ?_
        try rw [nI_add]
        refine o_aload_n hC dX8_copy_56 (by rfl) ?_
        refine o_getf hC (fX8_60 hC rfl) dX8_copy_57 (by repeat (first | with_reducible assumption | (rw [rl_u_s]; done) | (rw [rl_u_s]; rfl) | rw [rl_u_n (by first | with_reducible assumption | omega)])) (by first | rfl | with_reducible assumption) ?_
        refine o_bipush (v := nI 12) hC dX8_copy_60 (by decide +kernel) ?_
        refine o_iload_n hC dX8_copy_62 (by rfl) ?_
        refine o_imul hC dX8_copy_63 ?_
        try rw [nI_mul]
        refine o_iload_n hC dX8_copy_64 (by rfl) ?_
        refine o_iadd hC dX8_copy_65 ?_
        try rw [nI_add]
        refine o_laldN (t0 := 1) hC rfl dX8_copy_66 (by repeat (first | with_reducible assumption | (rw [rl_u_s]; done) | (rw [rl_u_s]; rfl) | rw [rl_u_n (by first | with_reducible assumption | omega)])) (by omega) (by decide) ?_
        refine o_lastN (t0 := 1) hC rfl dX8_copy_67 (by repeat (first | with_reducible assumption | (rw [rl_u_s]; done) | (rw [rl_u_s]; rfl) | rw [rl_u_n (by first | with_reducible assumption | omega)])) (by omega) (by decide) ?_
        refine o_iinc hC dX8_copy_68 (by rfl) (rl_inc _) (Nat.le_of_ble_eq_true rfl) ?_
        refine o_goto (tgt := 14) hC dX8_copy_71 (by decide) ?_
        refine ih (j + 1) _ _ (by omega) ((hq1.s16 _).s17 _) ⟨hro.tr ⟨rfl, rfl, rfl, fun _ _ => rfl, fun q hq => ⟨up_ne (by omega), up_ne (by omega)⟩, rfl⟩, ht1, fun i hi => ?_⟩
        by_cases e : i = j
        · subst e
          refine ⟨up_at.trans ?_, up_at.trans ?_⟩
          · exact (hro.2.2.2.2.1 _ (by omega)).1
          · exact (hro.2.2.2.2.1 _ (by omega)).2
        · exact ⟨(up_ne (by omega)).trans (hcp i (by omega)).1, (up_ne (by omega)).trans (hcp i (by omega)).2⟩
  show rl_G X (rl_e D ids H0) 0 [some (.ref m), some (.int (nI a)), some (.int (nI b)), none] [] h n 0 0
  refine o_aload_n hC dX8_copy_0 (by rfl) ?_
  refine o_getf hC (fX8_53 hC rfl) dX8_copy_1 (by repeat (first | with_reducible assumption | (rw [rl_u_s]; done) | (rw [rl_u_s]; rfl) | rw [rl_u_n (by first | with_reducible assumption | omega)])) (by first | rfl | with_reducible assumption) ?_
  refine o_iload_n hC dX8_copy_4 (by rfl) ?_
  refine o_aload_n hC dX8_copy_5 (by rfl) ?_
  refine o_getf hC (fX8_53 hC rfl) dX8_copy_6 (by repeat (first | with_reducible assumption | (rw [rl_u_s]; done) | (rw [rl_u_s]; rfl) | rw [rl_u_n (by first | with_reducible assumption | omega)])) (by first | rfl | with_reducible assumption) ?_
  refine o_iload_n hC dX8_copy_9 (by rfl) ?_
  refine o_ialdN (t0 := 0) (k := b) hC rfl dX8_copy_10 (by repeat (first | with_reducible assumption | (rw [rl_u_s]; done) | (rw [rl_u_s]; rfl) | rw [rl_u_n (by first | with_reducible assumption | omega)])) (by omega) (by decide) ?_
  rw [hb.1]
  refine o_iastN (t0 := 0) hC rfl dX8_copy_11 (by repeat (first | with_reducible assumption | (rw [rl_u_s]; done) | (rw [rl_u_s]; rfl) | rw [rl_u_n (by first | with_reducible assumption | omega)])) (by omega) (by decide) ?_
  refine o_iconst (v := nI 0) hC dX8_copy_12 (by decide +kernel) ?_
  refine o_istore_n hC dX8_copy_13 (Nat.le_of_ble_eq_true rfl) ?_
  exact loop Lb.length 0 _ _ (by omega) (hq.s15 _ (md_bd b15 ⟨Lb.length, by omega, rfl⟩)) ⟨⟨rfl, rfl, rfl, fun i hi => if_neg hi, fun _ _ => ⟨rfl, rfl⟩, rfl⟩, if_pos rfl, fun i hi => absurd hi (by omega)⟩
