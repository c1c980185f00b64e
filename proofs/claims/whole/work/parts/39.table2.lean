/-! RowLineage$Table: at a, its tuples at a + 1, its Tuples from a + 2, by 5; P says which stands where -/
theorem rl_pred (k : Nat) : nI (k + 1) - nI 1 = nI k := by
  rw [← rl_inc k, show nI 1 = Int32.ofInt 1 from by decide +kernel]
  exact Int32.add_sub_cancel _ _
abbrev tb_S : Type := (Nat → Nat → Int32) × (Nat → Nat → Int64) × (Nat → Nat → Int64) × (Nat → Nat)
def tb_at (ids : Nat → ClassId) (h : rl_H) (a sz wd : Nat) (P : Nat → Nat) (S : tb_S) : Prop :=
  h a = some (.inr (4, [.ref (a + 1), .int (nI sz), .int (nI wd)])) ∧ (∃ f : Nat → Option Nat, h (a + 1) = some (.inl (ids 3, 80, .inr (.inr (.inr (.inr f))))) ∧ ∀ j, j < 80 → f j = some (a + 2 + 5 * P j)) ∧ (∀ j, j < 80 → P j < 80) ∧ (∀ i, i < 80 → tp_at ids h (a + 2 + 5 * i) (S.1 i) (S.2.1 i) (S.2.2.1 i) (S.2.2.2 i)) ∧ sz ≤ 80 ∧ wd ≤ 6
theorem tb_at.kept {ids : Nat → ClassId} {h h' : rl_H} {a sz wd x z : Nat} {P : Nat → Nat} {S : tb_S} (H : tb_at ids h a sz wd P S) (hf : rl_fr h h' x z) (hd : a + 402 ≤ x ∨ z ≤ a) : tb_at ids h' a sz wd P S := by
  obtain ⟨h1, ⟨f, h2, h3⟩, h4, h5, h6⟩ := H
  exact ⟨by rw [hf a (by omega)]; exact h1, ⟨f, by rw [hf (a + 1) (by omega)]; exact h2, h3⟩, h4, fun i hi => (h5 i hi).kept hf (by omega), h6⟩
def tb_fb (o : Nat → Int32) : Nat → Nat
  | 0 => 0
  | k + 1 => if o k ≤ 0 then k + 1 else tb_fb o k
theorem tb_fb_le (o : Nat → Int32) : ∀ k, tb_fb o k ≤ k
  | 0 => Nat.le_refl _
  | k + 1 => by
    unfold tb_fb
    split
    · exact Nat.le_refl _
    · exact Nat.le_succ_of_le (tb_fb_le o k)
/-- how the TUPLES from j on stand to a key -/
abbrev tb_o (S : tb_S) (P : Nat → Nat) (kc : Nat → Int32) (wd : Nat) : Nat → Int32 := fun j => tb_ord (S.1 (P j)) kc wd 0
/-- those from fb on go up by one, the one at sz comes to fb -/
def tb_sh (P : Nat → Nat) (fb sz : Nat) : Nat → Nat := fun j => if j < fb then P j else if j = fb then P sz else if j ≤ sz then P (j - 1) else P j
def tb_in (S : tb_S) (i : Nat) (kc : Nat → Int32) : tb_S := (va_up S.1 i (va_cpy kc (S.1 i) 0 0 6), S.2.1, S.2.2.1, va_up S.2.2.2 i 0)

set_option maxHeartbeats 4000000 in
set_option maxRecDepth 100000 in
theorem ct_X4_firstBehind (l : Launch) (D : va_G) (ids : Nat → ClassId) (H0 : Heap) (h : rl_H) (n : Nat) (a sz wd ka : Nat) (P : Nat → Nat) (S : tb_S) (kc : Nat → Int32) (ht : tb_at ids h a sz wd P S) (hk1 : h ka = some (.inl (ids 0, 6, .inl kc))) : rl_Met l (rl_e D ids H0) rl_BW rl_Ns yX4_firstBehind cX4_firstBehind 3 (some .int) ({ frames := 1, cells := 0, slots := 0, locals := 23 }) [.ref a, .ref ka] h n (fun v h' n' => v = some (.int (nI (tb_fb (tb_o S P kc wd) sz))) ∧ h' = h ∧ n' = n) := by
  obtain ⟨t1, ⟨tf, t2, t3⟩, t4, t5, t6, t7⟩ := id ht
  refine rl_Met.of (by decide +kernel) (Nat.le_of_ble_eq_true rfl) ?_
  intro X hC hB
  have loop : ∀ (k : Nat), k ≤ sz → tb_fb (tb_o S P kc wd) sz = tb_fb (tb_o S P kc wd) k → rl_G X (rl_e D ids H0) 5 [some (.ref a), some (.ref ka), some (.int (nI k))] [] h n 0 0 := by
    intro k
    induction k with
    | zero =>
      intro hk hs
      refine o_iload_n hC dX4_firstBehind_5 (by rfl) ?_
      refine o_if_le (tgt := 34) hC dX4_firstBehind_6 (by decide) (fun c_6 => ?_) (fun c_6 => ?_)
      · refine o_iload_n hC dX4_firstBehind_34 (by rfl) ?_
        refine o_iret hC hB dX4_firstBehind_35 (Nat.le_of_ble_eq_true rfl) (Nat.le_of_ble_eq_true rfl) ?_
        refine ⟨?_, rfl, rfl⟩
        rw [hs]
        rfl
      · exact absurd (by decide +kernel) c_6
    | succ k ih =>
      intro hk hs
      obtain ⟨e1, e2, e3⟩ := t5 (P k) (t4 k (by omega))
      refine o_iload_n hC dX4_firstBehind_5 (by rfl) ?_
      refine o_if_le (tgt := 34) hC dX4_firstBehind_6 (by decide) (fun c_6 => ?_) (fun c_6 => ?_)
      · refine o_iload_n hC dX4_firstBehind_34 (by rfl) ?_
        refine o_iret hC hB dX4_firstBehind_35 (Nat.le_of_ble_eq_true rfl) (Nat.le_of_ble_eq_true rfl) ?_
        exact absurd (show nI (k + 1) ≤ nI 0 from c_6) (nI_ge (by omega) (by omega))
      · refine o_aload_n hC dX4_firstBehind_9 (by rfl) ?_
        refine o_aload_n hC dX4_firstBehind_10 (by rfl) ?_
        refine o_getf hC (fX4_11 hC rfl) dX4_firstBehind_11 (by repeat (first | with_reducible assumption | (rw [rl_u_s]; done) | (rw [rl_u_s]; rfl) | rw [rl_u_n (by first | with_reducible assumption | omega)])) (by first | rfl | with_reducible assumption) ?_
        refine o_iload_n hC dX4_firstBehind_14 (by rfl) ?_
        refine o_iconst (v := nI 1) hC dX4_firstBehind_15 (by decide +kernel) ?_
        refine o_isub hC dX4_firstBehind_16 ?_
        rw [rl_pred k]
        refine o_aaldN (t0 := 3) hC rfl dX4_firstBehind_17 (by repeat (first | with_reducible assumption | (rw [rl_u_s]; done) | (rw [rl_u_s]; rfl) | rw [rl_u_n (by first | with_reducible assumption | omega)])) (by omega) (by decide) ?_
        rw [t3 _ (by omega)]
        show rl_G X _ _ _ (.ref _ :: _) _ _ _ _
        refine o_getf hC (fX4_29 hC rfl) dX4_firstBehind_18 (by repeat (first | with_reducible assumption | (rw [rl_u_s]; done) | (rw [rl_u_s]; rfl) | rw [rl_u_n (by first | with_reducible assumption | omega)])) (by first | rfl | with_reducible assumption) ?_
        refine o_aload_n hC dX4_firstBehind_21 (by rfl) ?_
        refine o_callV2 hC rl_BW_good rl_Ns_nw (by exact hB.2.2.2.2.2) YX4_order IX4_order VX4_order (mX4_33 hC) (by rw [hB.1]; exact ct_X4_order l D ids H0 h n a (a + 2 + 5 * P k + 1) ka wd _ _ (S.1 (P k)) kc t1 e2 hk1 t7) (by exact t1) rfl rfl (Nat.le_of_ble_eq_true rfl) (by rw [hB.2.1]; first | exact Nat.le_of_ble_eq_true rfl | (dsimp only; omega)) (by rw [hB.2.1]; first | exact Nat.le_of_ble_eq_true rfl | (dsimp only; omega)) (by rw [hB.2.1]; first | exact Nat.le_of_ble_eq_true rfl | (dsimp only; omega)) (by rw [hB.2.1]; first | exact Nat.le_of_ble_eq_true rfl | (dsimp only; omega)) dX4_firstBehind_22 (fun v h_22 n_22 p_22 => ?_)
        obtain ⟨rfl, rfl, rfl⟩ := p_22
        try dsimp only [Option.toList, List.cons_append, List.nil_append]
        refine o_if_le (tgt := 34) hC dX4_firstBehind_25 (by decide) (fun c_25 => ?_) (fun c_25 => ?_)
        · refine o_iload_n hC dX4_firstBehind_34 (by rfl) ?_
          refine o_iret hC hB dX4_firstBehind_35 (Nat.le_of_ble_eq_true rfl) (Nat.le_of_ble_eq_true rfl) ?_
          refine ⟨?_, rfl, rfl⟩
          rw [hs]
          rw [tb_fb, if_pos c_25]
        · refine o_iinc hC dX4_firstBehind_28 (by rfl) (rl_dec _) (Nat.le_of_ble_eq_true rfl) ?_
          refine o_goto (tgt := 5) hC dX4_firstBehind_31 (by decide) ?_
          exact ih (by omega) (by rw [hs, tb_fb, if_neg c_25])
  show rl_G X (rl_e D ids H0) 0 [some (.ref a), some (.ref ka), none] [] h n 0 0
  refine o_aload_n hC dX4_firstBehind_0 (by rfl) ?_
  refine o_getf hC (fX4_18 hC rfl) dX4_firstBehind_1 (by repeat (first | with_reducible assumption | (rw [rl_u_s]; done) | (rw [rl_u_s]; rfl) | rw [rl_u_n (by first | with_reducible assumption | omega)])) (by first | rfl | with_reducible assumption) ?_
  refine o_istore_n hC dX4_firstBehind_4 (Nat.le_of_ble_eq_true rfl) ?_
  exact loop sz (Nat.le_refl _) rfl

set_option maxHeartbeats 4000000 in
set_option maxRecDepth 100000 in
theorem ct_X4_find (l : Launch) (D : va_G) (ids : Nat → ClassId) (H0 : Heap) (h : rl_H) (n : Nat) (a sz wd ka : Nat) (P : Nat → Nat) (S : tb_S) (kc : Nat → Int32) (ht : tb_at ids h a sz wd P S) (hk1 : h ka = some (.inl (ids 0, 6, .inl kc))) : rl_Met l (rl_e D ids H0) rl_BW rl_Ns yX4_find cX4_find 3 (some (.object "RowLineage$Tuple")) ({ frames := 2, cells := 0, slots := 0, locals := 45 }) [.ref a, .ref ka] h n (fun v h' n' => v = (if 0 < (tb_fb (tb_o S P kc wd) sz) ∧ tb_o S P kc wd ((tb_fb (tb_o S P kc wd) sz) - 1) = 0 then some (.ref (a + 2 + 5 * P ((tb_fb (tb_o S P kc wd) sz) - 1))) else some .null) ∧ h' = h ∧ n' = n) := by
  obtain ⟨t1, ⟨tf, t2, t3⟩, t4, t5, t6, t7⟩ := id ht
  refine rl_Met.of (by decide +kernel) (Nat.le_of_ble_eq_true rfl) ?_
  intro X hC hB
  show rl_G X (rl_e D ids H0) 0 [some (.ref a), some (.ref ka), none] [] h n 0 0
  refine o_aload_n hC dX4_find_0 (by rfl) ?_
  refine o_aload_n hC dX4_find_1 (by rfl) ?_
  refine o_callV1 hC rl_BW_good rl_Ns_nw (by exact hB.2.2.2.2.2) YX4_firstBehind IX4_firstBehind VX4_firstBehind (mX4_25 hC) (by rw [hB.1]; exact ct_X4_firstBehind l D ids H0 h n a sz wd ka P S kc ht hk1) (by exact t1) rfl rfl (Nat.le_of_ble_eq_true rfl) (by rw [hB.2.1]; first | exact Nat.le_of_ble_eq_true rfl | (dsimp only; omega)) (by rw [hB.2.1]; first | exact Nat.le_of_ble_eq_true rfl | (dsimp only; omega)) (by rw [hB.2.1]; first | exact Nat.le_of_ble_eq_true rfl | (dsimp only; omega)) (by rw [hB.2.1]; first | exact Nat.le_of_ble_eq_true rfl | (dsimp only; omega)) dX4_find_2 (fun v h_2 n_2 p_2 => ?_)
  obtain ⟨rfl, rfl, rfl⟩ := p_2
  have hfb := tb_fb_le (tb_o S P kc wd) sz
  generalize hz : (tb_fb (tb_o S P kc wd) sz) = z at hfb ⊢
  try dsimp only [Option.toList, List.cons_append, List.nil_append]
  refine o_istore_n hC dX4_find_5 (Nat.le_of_ble_eq_true rfl) ?_
  refine o_iload_n hC dX4_find_6 (by rfl) ?_
  refine o_if_le (tgt := 40) hC dX4_find_7 (by decide) (fun c_7 => ?_) (fun c_7 => ?_)
  · refine o_null hC dX4_find_40 ?_
    refine o_aret hC hB (by first | exact Or.inl ⟨_, rfl⟩ | exact Or.inr ⟨_, rfl⟩) (by first | exact Or.inl rfl | exact Or.inr ⟨_, rfl⟩) dX4_find_41 (Nat.le_of_ble_eq_true rfl) (Nat.le_of_ble_eq_true rfl) ?_
    have hz0 : z = 0 := by
      rcases Nat.eq_zero_or_pos z with q | q
      · exact q
      · exact absurd (show nI z ≤ nI 0 from c_7) (nI_ge q (by omega))
    subst hz0
    refine ⟨?_, rfl, rfl⟩
    rw [if_neg (fun q => absurd q.1 (by omega))]
  · have hz0 : z ≠ 0 := by
      intro q
      subst q
      exact c_7 (by decide +kernel)
    obtain ⟨k, rfl⟩ : ∃ k, z = k + 1 := ⟨z - 1, by omega⟩
    obtain ⟨e1, e2, e3⟩ := t5 (P k) (t4 k (by omega))
    refine o_aload_n hC dX4_find_10 (by rfl) ?_
    refine o_aload_n hC dX4_find_11 (by rfl) ?_
    refine o_getf hC (fX4_11 hC rfl) dX4_find_12 (by repeat (first | with_reducible assumption | (rw [rl_u_s]; done) | (rw [rl_u_s]; rfl) | rw [rl_u_n (by first | with_reducible assumption | omega)])) (by first | rfl | with_reducible assumption) ?_
    refine o_iload_n hC dX4_find_15 (by rfl) ?_
    refine o_iconst (v := nI 1) hC dX4_find_16 (by decide +kernel) ?_
    refine o_isub hC dX4_find_17 ?_
    rw [rl_pred k]
    refine o_aaldN (t0 := 3) hC rfl dX4_find_18 (by repeat (first | with_reducible assumption | (rw [rl_u_s]; done) | (rw [rl_u_s]; rfl) | rw [rl_u_n (by first | with_reducible assumption | omega)])) (by omega) (by decide) ?_
    rw [t3 _ (by omega)]
    show rl_G X _ _ _ (.ref _ :: _) _ _ _ _
    refine o_getf hC (fX4_29 hC rfl) dX4_find_19 (by repeat (first | with_reducible assumption | (rw [rl_u_s]; done) | (rw [rl_u_s]; rfl) | rw [rl_u_n (by first | with_reducible assumption | omega)])) (by first | rfl | with_reducible assumption) ?_
    refine o_aload_n hC dX4_find_22 (by rfl) ?_
    refine o_callV2 hC rl_BW_good rl_Ns_nw (by exact hB.2.2.2.2.2) YX4_order IX4_order VX4_order (mX4_33 hC) (by rw [hB.1]; exact ct_X4_order l D ids H0 _ _ a (a + 2 + 5 * P k + 1) ka wd _ _ (S.1 (P k)) kc t1 e2 hk1 t7) (by exact t1) rfl rfl (Nat.le_of_ble_eq_true rfl) (by rw [hB.2.1]; first | exact Nat.le_of_ble_eq_true rfl | (dsimp only; omega)) (by rw [hB.2.1]; first | exact Nat.le_of_ble_eq_true rfl | (dsimp only; omega)) (by rw [hB.2.1]; first | exact Nat.le_of_ble_eq_true rfl | (dsimp only; omega)) (by rw [hB.2.1]; first | exact Nat.le_of_ble_eq_true rfl | (dsimp only; omega)) dX4_find_23 (fun v h_23 n_23 p_23 => ?_)
    obtain ⟨rfl, rfl, rfl⟩ := p_23
    try dsimp only [Option.toList, List.cons_append, List.nil_append]
    refine o_if_ne (tgt := 40) hC dX4_find_26 (by decide) (fun c_26 => ?_) (fun c_26 => ?_)
    · refine o_null hC dX4_find_40 ?_
      refine o_aret hC hB (by first | exact Or.inl ⟨_, rfl⟩ | exact Or.inr ⟨_, rfl⟩) (by first | exact Or.inl rfl | exact Or.inr ⟨_, rfl⟩) dX4_find_41 (Nat.le_of_ble_eq_true rfl) (Nat.le_of_ble_eq_true rfl) ?_
      refine ⟨?_, rfl, rfl⟩
      rw [hz, if_neg (fun q => c_26 q.2)]
    · refine o_aload_n hC dX4_find_29 (by rfl) ?_
      refine o_getf hC (fX4_11 hC rfl) dX4_find_30 (by repeat (first | with_reducible assumption | (rw [rl_u_s]; done) | (rw [rl_u_s]; rfl) | rw [rl_u_n (by first | with_reducible assumption | omega)])) (by first | rfl | with_reducible assumption) ?_
      refine o_iload_n hC dX4_find_33 (by rfl) ?_
      refine o_iconst (v := nI 1) hC dX4_find_34 (by decide +kernel) ?_
      refine o_isub hC dX4_find_35 ?_
      rw [rl_pred k]
      refine o_aaldN (t0 := 3) hC rfl dX4_find_36 (by repeat (first | with_reducible assumption | (rw [rl_u_s]; done) | (rw [rl_u_s]; rfl) | rw [rl_u_n (by first | with_reducible assumption | omega)])) (by omega) (by decide) ?_
      rw [t3 _ (by omega)]
      show rl_G X _ _ _ (.ref _ :: _) _ _ _ _
      refine o_goto (tgt := 41) hC dX4_find_37 (by decide) ?_
      refine o_aret hC hB (by first | exact Or.inl ⟨_, rfl⟩ | exact Or.inr ⟨_, rfl⟩) (by first | exact Or.inl rfl | exact Or.inr ⟨_, rfl⟩) dX4_find_41 (Nat.le_of_ble_eq_true rfl) (Nat.le_of_ble_eq_true rfl) ?_
      refine ⟨?_, rfl, rfl⟩
      rw [hz, if_pos ⟨Nat.succ_pos k, c_26⟩]
      rfl

set_option maxHeartbeats 4000000 in
set_option maxRecDepth 100000 in
theorem ct_X4_findOrAdd (l : Launch) (D : va_G) (ids : Nat → ClassId) (H0 : Heap) (h : rl_H) (n : Nat) (a sz wd ka : Nat) (P : Nat → Nat) (S : tb_S) (kc : Nat → Int32) (ht : tb_at ids h a sz wd P S) (hk1 : h ka = some (.inl (ids 0, 6, .inl kc))) (hka : ka < a ∨ a + 402 ≤ ka) : rl_Met l (rl_e D ids H0) rl_BW rl_Ns yX4_findOrAdd cX4_findOrAdd 5 (some (.object "RowLineage$Tuple")) ({ frames := 2, cells := 0, slots := 0, locals := 101 }) [.ref a, .ref ka] h n (fun v h' n' => (0 < (tb_fb (tb_o S P kc wd) sz) ∧ tb_o S P kc wd ((tb_fb (tb_o S P kc wd) sz) - 1) = 0) ∧ v = some (.ref (a + 2 + 5 * P ((tb_fb (tb_o S P kc wd) sz) - 1))) ∧ h' = h ∧ n' = n ∨ v = some .null ∧ 80 ≤ sz ∧ ¬ (0 < (tb_fb (tb_o S P kc wd) sz) ∧ tb_o S P kc wd ((tb_fb (tb_o S P kc wd) sz) - 1) = 0) ∧ h' = h ∧ n' = n ∨ ¬ (0 < (tb_fb (tb_o S P kc wd) sz) ∧ tb_o S P kc wd ((tb_fb (tb_o S P kc wd) sz) - 1) = 0) ∧ sz < 80 ∧ v = some (.ref (a + 2 + 5 * P sz)) ∧ n' = n ∧ tb_at ids h' a (sz + 1) wd (tb_sh P (tb_fb (tb_o S P kc wd) sz) sz) (tb_in S (P sz) kc) ∧ rl_fr h h' a (a + 402)) := by
  obtain ⟨t1, ⟨tf, t2, t3⟩, t4, t5, t6, t7⟩ := id ht
  refine rl_Met.of (by decide +kernel) (Nat.le_of_ble_eq_true rfl) ?_
  intro X hC hB
  have hP := t4
  have loop : ∀ (d t z : Nat) (h1 : rl_H) (f1 : Nat → Option Nat), z + d = t → t ≤ sz → sz < 80 → z = (tb_fb (tb_o S P kc wd) sz) → ¬ (0 < z ∧ tb_o S P kc wd (z - 1) = 0) → h1 (a + 1) = some (.inl (ids 3, 80, .inr (.inr (.inr (.inr f1))))) → (∀ j, j < 80 → f1 j = some (a + 2 + 5 * (if t < j ∧ j ≤ sz then P (j - 1) else P j))) → rl_fr h h1 (a + 1) (a + 2) → rl_G X (rl_e D ids H0) 65 [some (.ref a), some (.ref ka), some (.int (nI z)), some (.ref (a + 2 + 5 * P sz)), some (.int (nI t))] [] h1 n 0 0 := by
    intro d
    induction d with
    | zero =>
      intro t z h1 f1 hd ht hz80 hz hnz u1 u2 hfr
      have u0 : h1 a = some (.inr (4, [.ref (a + 1), .int (nI sz), .int (nI wd)])) := by rw [hfr a (by omega)]; exact t1
      have u3 : h1 (a + 2 + 5 * P sz) = some (.inr (5, [.ref (a + 2 + 5 * P sz + 1), .ref (a + 2 + 5 * P sz + 2)])) := by rw [hfr _ (by omega)]; exact (t5 (P sz) (t4 sz hz80)).1
      refine o_iload hC dX4_findOrAdd_65 (by rfl) ?_
      refine o_iload_n hC dX4_findOrAdd_67 (by rfl) ?_
      refine o_icmp_le (tgt := 93) hC dX4_findOrAdd_68 (by decide) (fun c_68 => ?_) (fun c_68 => ?_)
      · refine o_aload_n hC dX4_findOrAdd_93 (by rfl) ?_
        refine o_getf hC (fX4_11 hC rfl) dX4_findOrAdd_94 (by repeat (first | with_reducible assumption | (rw [rl_u_s]; done) | (rw [rl_u_s]; rfl) | rw [rl_u_n (by first | with_reducible assumption | omega)])) (by first | rfl | with_reducible assumption) ?_
        refine o_iload_n hC dX4_findOrAdd_97 (by rfl) ?_
        refine o_aload_n hC dX4_findOrAdd_98 (by rfl) ?_
        have hb := t4 sz hz80
        refine o_aastN (t0 := 3) hC rfl rfl dX4_findOrAdd_99 u1 u3 (by omega) (by decide) ?_
        refine o_aload_n hC dX4_findOrAdd_100 (by rfl) ?_
        refine o_dup hC dX4_findOrAdd_101 rfl ?_
        refine o_getf hC (fX4_18 hC rfl) dX4_findOrAdd_102 (by repeat (first | with_reducible assumption | (rw [rl_u_s]; done) | (rw [rl_u_s]; rfl) | rw [rl_u_n (by first | with_reducible assumption | omega)])) (by first | rfl | with_reducible assumption) ?_
        refine o_iconst (v := nI 1) hC dX4_findOrAdd_105 (by decide +kernel) ?_
        refine o_iadd hC dX4_findOrAdd_106 ?_
        rw [nI_add sz 1]
        refine o_putf hC (fX4_18 hC rfl) (fwX4 rfl rfl rfl (Or.inl rfl)) dX4_findOrAdd_107 (by repeat (first | with_reducible assumption | (rw [rl_u_s]; done) | (rw [rl_u_s]; rfl) | rw [rl_u_n (by first | with_reducible assumption | omega)])) (Nat.le_of_ble_eq_true rfl) ?_
        try simp only [List.set_cons_zero, List.set_cons_succ]
        refine o_aload_n hC dX4_findOrAdd_110 (by rfl) ?_
        refine o_aload_n hC dX4_findOrAdd_111 (by rfl) ?_
        refine o_callV1 hC rl_BW_good rl_Ns_nw (by exact hB.2.2.2.2.2) YX5_become IX5_become VX5_become (mX4_37 hC) (by rw [hB.1]; exact ct_X5_become l D ids H0 _ _ (a + 2 + 5 * P sz) ka _ _ kc _ _ ((t5 (P sz) (t4 sz hz80)).eqv (fun q q1 q2 => by rw [rl_u_n (by omega), rl_u_n (by omega)]; exact hfr q (by omega))) (by rw [rl_u_n (by omega), rl_u_n (by omega), hfr ka (by omega)]; exact hk1)) (by rw [rl_u_n (by omega), rl_u_n (by omega)]; exact u3) rfl rfl (Nat.le_of_ble_eq_true rfl) (by rw [hB.2.1]; first | exact Nat.le_of_ble_eq_true rfl | (dsimp only; omega)) (by rw [hB.2.1]; first | exact Nat.le_of_ble_eq_true rfl | (dsimp only; omega)) (by rw [hB.2.1]; first | exact Nat.le_of_ble_eq_true rfl | (dsimp only; omega)) (by rw [hB.2.1]; first | exact Nat.le_of_ble_eq_true rfl | (dsimp only; omega)) dX4_findOrAdd_112 (fun v h_112 n_112 p_112 => ?_)
        obtain ⟨rfl, rfl, p1, p2⟩ := p_112
        try dsimp only [Option.toList, List.cons_append, List.nil_append]
        refine o_aload_n hC dX4_findOrAdd_115 (by rfl) ?_
        refine o_aret hC hB (by first | exact Or.inl ⟨_, rfl⟩ | exact Or.inr ⟨_, rfl⟩) (by first | exact Or.inl rfl | exact Or.inr ⟨_, rfl⟩) dX4_findOrAdd_116 (Nat.le_of_ble_eq_true rfl) (Nat.le_of_ble_eq_true rfl) ?_
        refine Or.inr (Or.inr ⟨?_, hz80, ?_, rfl, ?_, ?_⟩)
        · rw [← hz]; exact hnz
        · rfl
        · rw [← hz]
          refine ⟨?_, ⟨va_up f1 z (some (a + 2 + 5 * P sz)), ?_, ?_⟩, ?_, ?_, by omega, t7⟩
          · rw [p2 a (by omega)]
            repeat (first | with_reducible assumption | (rw [rl_u_s]; done) | (rw [rl_u_s]; rfl) | rw [rl_u_n (by first | with_reducible assumption | omega)])
          · rw [p2 (a + 1) (by omega)]
            repeat (first | with_reducible assumption | (rw [rl_u_s]; done) | (rw [rl_u_s]; rfl) | rw [rl_u_n (by first | with_reducible assumption | omega)])
          · intro j hj
            have hq := u2 j hj
            unfold va_up tb_sh
            by_cases j1 : j = z
            · subst j1
              rw [if_pos rfl, if_neg (by omega), if_pos rfl]
            · rw [if_neg j1, hq]
              by_cases j2 : j < z
              · rw [if_neg (by omega), if_pos j2]
              · by_cases j3 : j ≤ sz
                · rw [if_pos (by omega), if_neg j2, if_neg j1, if_pos j3]
                · rw [if_neg (by omega), if_neg j2, if_neg j1, if_neg j3]
          · intro j hj
            unfold tb_sh
            split
            · exact t4 j hj
            · split
              · exact t4 sz hz80
              · split
                · exact t4 (j - 1) (by omega)
                · exact t4 j hj
          · intro i hi
            by_cases i1 : i = P sz
            · subst i1
              show tp_at ids _ _ (va_up S.1 (P sz) _ (P sz)) _ _ (va_up S.2.2.2 (P sz) 0 (P sz))
              unfold va_up
              rw [if_pos rfl, if_pos rfl]
              exact p1
            · show tp_at ids _ _ (va_up S.1 (P sz) _ i) _ _ (va_up S.2.2.2 (P sz) 0 i)
              unfold va_up
              rw [if_neg i1, if_neg i1]
              refine (t5 i hi).eqv (fun q q1 q2 => ?_)
              rw [p2 q (by omega), rl_u_n (by omega), rl_u_n (by omega)]
              exact hfr q (by omega)
        · intro q hq
          have hb := t4 sz hz80
          rw [p2 q (by omega), rl_u_n (by omega), rl_u_n (by omega)]
          exact hfr q (by omega)
      · exact absurd (nI_le (by omega) (by omega)) c_68
    | succ d ih =>
      intro t z h1 f1 hd ht hz80 hz hnz u1 u2 hfr
      obtain ⟨s, rfl⟩ : ∃ s, t = s + 1 := ⟨t - 1, by omega⟩
      have u0 : h1 a = some (.inr (4, [.ref (a + 1), .int (nI sz), .int (nI wd)])) := by rw [hfr a (by omega)]; exact t1
      have u4 : f1 s = some (a + 2 + 5 * P s) := by rw [u2 s (by omega), if_neg (by omega)]
      have u3 : h1 (a + 2 + 5 * P s) = some (.inr (5, [.ref (a + 2 + 5 * P s + 1), .ref (a + 2 + 5 * P s + 2)])) := by rw [hfr _ (by omega)]; exact (t5 (P s) (t4 s (by omega))).1
      refine o_iload hC dX4_findOrAdd_65 (by rfl) ?_
      refine o_iload_n hC dX4_findOrAdd_67 (by rfl) ?_
      refine o_icmp_le (tgt := 93) hC dX4_findOrAdd_68 (by decide) (fun c_68 => ?_) (fun c_68 => ?_)
      · exact absurd c_68 (nI_ge (by omega) (by omega))
      · refine o_aload_n hC dX4_findOrAdd_71 (by rfl) ?_
        refine o_getf hC (fX4_11 hC rfl) dX4_findOrAdd_72 (by repeat (first | with_reducible assumption | (rw [rl_u_s]; done) | (rw [rl_u_s]; rfl) | rw [rl_u_n (by first | with_reducible assumption | omega)])) (by first | rfl | with_reducible assumption) ?_
        refine o_iload hC dX4_findOrAdd_75 (by rfl) ?_
        refine o_aload_n hC dX4_findOrAdd_77 (by rfl) ?_
        refine o_getf hC (fX4_11 hC rfl) dX4_findOrAdd_78 (by repeat (first | with_reducible assumption | (rw [rl_u_s]; done) | (rw [rl_u_s]; rfl) | rw [rl_u_n (by first | with_reducible assumption | omega)])) (by first | rfl | with_reducible assumption) ?_
        refine o_iload hC dX4_findOrAdd_81 (by rfl) ?_
        refine o_iconst (v := nI 1) hC dX4_findOrAdd_83 (by decide +kernel) ?_
        refine o_isub hC dX4_findOrAdd_84 ?_
        rw [rl_pred s]
        refine o_aaldN (t0 := 3) hC rfl dX4_findOrAdd_85 u1 (by omega) (by decide) ?_
        rw [u4]
        show rl_G X _ _ _ (.ref _ :: _) _ _ _ _
        refine o_aastN (t0 := 3) hC rfl rfl dX4_findOrAdd_86 u1 u3 (by omega) (by decide) ?_
        refine o_iinc hC dX4_findOrAdd_87 (by rfl) (rl_dec _) (Nat.le_of_ble_eq_true rfl) ?_
        refine o_goto (tgt := 65) hC dX4_findOrAdd_90 (by decide) ?_
        exact ih s z _ _ (by omega) (by omega) hz80 hz hnz rl_u_s (fun j hj => by
            unfold va_up
            by_cases j1 : j = s + 1
            · subst j1
              rw [if_pos rfl, if_pos (by omega)]
              rfl
            · rw [if_neg j1, u2 j hj]
              by_cases j2 : s + 1 < j ∧ j ≤ sz
              · rw [if_pos j2, if_pos (by omega)]
              · rw [if_neg j2, if_neg (by omega)]) (fun q hq => by rw [rl_u_n (by omega)]; exact hfr q hq)
  show rl_G X (rl_e D ids H0) 0 [some (.ref a), some (.ref ka), none, none, none] [] h n 0 0
  refine o_aload_n hC dX4_findOrAdd_0 (by rfl) ?_
  refine o_aload_n hC dX4_findOrAdd_1 (by rfl) ?_
  refine o_callV1 hC rl_BW_good rl_Ns_nw (by exact hB.2.2.2.2.2) YX4_firstBehind IX4_firstBehind VX4_firstBehind (mX4_25 hC) (by rw [hB.1]; exact ct_X4_firstBehind l D ids H0 h n a sz wd ka P S kc ht hk1) (by exact t1) rfl rfl (Nat.le_of_ble_eq_true rfl) (by rw [hB.2.1]; first | exact Nat.le_of_ble_eq_true rfl | (dsimp only; omega)) (by rw [hB.2.1]; first | exact Nat.le_of_ble_eq_true rfl | (dsimp only; omega)) (by rw [hB.2.1]; first | exact Nat.le_of_ble_eq_true rfl | (dsimp only; omega)) (by rw [hB.2.1]; first | exact Nat.le_of_ble_eq_true rfl | (dsimp only; omega)) dX4_findOrAdd_2 (fun v h_2 n_2 p_2 => ?_)
  obtain ⟨rfl, rfl, rfl⟩ := p_2
  have hfb := tb_fb_le (tb_o S P kc wd) sz
  generalize hz : (tb_fb (tb_o S P kc wd) sz) = z at hfb ⊢
  try dsimp only [Option.toList, List.cons_append, List.nil_append]
  refine o_istore_n hC dX4_findOrAdd_5 (Nat.le_of_ble_eq_true rfl) ?_
  refine o_iload_n hC dX4_findOrAdd_6 (by rfl) ?_
  refine o_if_le (tgt := 38) hC dX4_findOrAdd_7 (by decide) (fun c_7 => ?_) (fun c_7 => ?_)
  · refine o_aload_n hC dX4_findOrAdd_38 (by rfl) ?_
    refine o_getf hC (fX4_18 hC rfl) dX4_findOrAdd_39 (by repeat (first | with_reducible assumption | (rw [rl_u_s]; done) | (rw [rl_u_s]; rfl) | rw [rl_u_n (by first | with_reducible assumption | omega)])) (by first | rfl | with_reducible assumption) ?_
    refine o_bipush (v := nI 80) hC dX4_findOrAdd_42 (by decide +kernel) ?_
    refine o_icmp_lt (tgt := 49) hC dX4_findOrAdd_44 (by decide) (fun c_44 => ?_) (fun c_44 => ?_)
    · have hs80 : sz < 80 := by
        rcases Nat.lt_or_ge sz 80 with q | q
        · exact q
        · exact absurd c_44 (nI_nlt q (by omega))
      refine o_aload_n hC dX4_findOrAdd_49 (by rfl) ?_
      refine o_getf hC (fX4_11 hC rfl) dX4_findOrAdd_50 (by repeat (first | with_reducible assumption | (rw [rl_u_s]; done) | (rw [rl_u_s]; rfl) | rw [rl_u_n (by first | with_reducible assumption | omega)])) (by first | rfl | with_reducible assumption) ?_
      refine o_aload_n hC dX4_findOrAdd_53 (by rfl) ?_
      refine o_getf hC (fX4_18 hC rfl) dX4_findOrAdd_54 (by repeat (first | with_reducible assumption | (rw [rl_u_s]; done) | (rw [rl_u_s]; rfl) | rw [rl_u_n (by first | with_reducible assumption | omega)])) (by first | rfl | with_reducible assumption) ?_
      refine o_aaldN (t0 := 3) hC rfl dX4_findOrAdd_57 (by repeat (first | with_reducible assumption | (rw [rl_u_s]; done) | (rw [rl_u_s]; rfl) | rw [rl_u_n (by first | with_reducible assumption | omega)])) (by omega) (by decide) ?_
      rw [t3 _ (by omega)]
      show rl_G X _ _ _ (.ref _ :: _) _ _ _ _
      refine o_astore_n hC dX4_findOrAdd_58 (Nat.le_of_ble_eq_true rfl) ?_
      refine o_aload_n hC dX4_findOrAdd_59 (by rfl) ?_
      refine o_getf hC (fX4_18 hC rfl) dX4_findOrAdd_60 (by repeat (first | with_reducible assumption | (rw [rl_u_s]; done) | (rw [rl_u_s]; rfl) | rw [rl_u_n (by first | with_reducible assumption | omega)])) (by first | rfl | with_reducible assumption) ?_
      refine o_istore hC dX4_findOrAdd_63 (Nat.le_of_ble_eq_true rfl) ?_
      have hz0 : z = 0 := by
        rcases Nat.eq_zero_or_pos z with q | q
        · exact q
        · exact absurd (show nI z ≤ nI 0 from c_7) (nI_ge q (by omega))
      exact loop (sz - z) sz z _ tf (by omega) (Nat.le_refl _) hs80 hz.symm (fun q => absurd q.1 (by omega)) t2 (fun j hj => by rw [t3 j hj, if_neg (by omega)]) rl_fr.rf
    · refine o_null hC dX4_findOrAdd_47 ?_
      refine o_aret hC hB (by first | exact Or.inl ⟨_, rfl⟩ | exact Or.inr ⟨_, rfl⟩) (by first | exact Or.inl rfl | exact Or.inr ⟨_, rfl⟩) dX4_findOrAdd_48 (Nat.le_of_ble_eq_true rfl) (Nat.le_of_ble_eq_true rfl) ?_
      have hz0 : z = 0 := by
        rcases Nat.eq_zero_or_pos z with q | q
        · exact q
        · exact absurd (show nI z ≤ nI 0 from c_7) (nI_ge q (by omega))
      refine Or.inr (Or.inl ⟨rfl, ?_, ?_, rfl, rfl⟩)
      · rcases Nat.lt_or_ge sz 80 with q | q
        · exact absurd (nI_lt q (by decide)) c_44
        · exact q
      · rw [hz]
        exact fun q => absurd q.1 (by omega)
  · have hz0 : z ≠ 0 := by
      intro q
      subst q
      exact c_7 (by decide +kernel)
    obtain ⟨k, rfl⟩ : ∃ k, z = k + 1 := ⟨z - 1, by omega⟩
    obtain ⟨e1, e2, e3⟩ := t5 (P k) (t4 k (by omega))
    refine o_aload_n hC dX4_findOrAdd_10 (by rfl) ?_
    refine o_aload_n hC dX4_findOrAdd_11 (by rfl) ?_
    refine o_getf hC (fX4_11 hC rfl) dX4_findOrAdd_12 (by repeat (first | with_reducible assumption | (rw [rl_u_s]; done) | (rw [rl_u_s]; rfl) | rw [rl_u_n (by first | with_reducible assumption | omega)])) (by first | rfl | with_reducible assumption) ?_
    refine o_iload_n hC dX4_findOrAdd_15 (by rfl) ?_
    refine o_iconst (v := nI 1) hC dX4_findOrAdd_16 (by decide +kernel) ?_
    refine o_isub hC dX4_findOrAdd_17 ?_
    rw [rl_pred k]
    refine o_aaldN (t0 := 3) hC rfl dX4_findOrAdd_18 (by repeat (first | with_reducible assumption | (rw [rl_u_s]; done) | (rw [rl_u_s]; rfl) | rw [rl_u_n (by first | with_reducible assumption | omega)])) (by omega) (by decide) ?_
    rw [t3 _ (by omega)]
    show rl_G X _ _ _ (.ref _ :: _) _ _ _ _
    refine o_getf hC (fX4_29 hC rfl) dX4_findOrAdd_19 (by repeat (first | with_reducible assumption | (rw [rl_u_s]; done) | (rw [rl_u_s]; rfl) | rw [rl_u_n (by first | with_reducible assumption | omega)])) (by first | rfl | with_reducible assumption) ?_
    refine o_aload_n hC dX4_findOrAdd_22 (by rfl) ?_
    refine o_callV2 hC rl_BW_good rl_Ns_nw (by exact hB.2.2.2.2.2) YX4_order IX4_order VX4_order (mX4_33 hC) (by rw [hB.1]; exact ct_X4_order l D ids H0 _ _ a (a + 2 + 5 * P k + 1) ka wd _ _ (S.1 (P k)) kc t1 e2 hk1 t7) (by exact t1) rfl rfl (Nat.le_of_ble_eq_true rfl) (by rw [hB.2.1]; first | exact Nat.le_of_ble_eq_true rfl | (dsimp only; omega)) (by rw [hB.2.1]; first | exact Nat.le_of_ble_eq_true rfl | (dsimp only; omega)) (by rw [hB.2.1]; first | exact Nat.le_of_ble_eq_true rfl | (dsimp only; omega)) (by rw [hB.2.1]; first | exact Nat.le_of_ble_eq_true rfl | (dsimp only; omega)) dX4_findOrAdd_23 (fun v h_23 n_23 p_23 => ?_)
    obtain ⟨rfl, rfl, rfl⟩ := p_23
    try dsimp only [Option.toList, List.cons_append, List.nil_append]
    refine o_if_ne (tgt := 38) hC dX4_findOrAdd_26 (by decide) (fun c_26 => ?_) (fun c_26 => ?_)
    · refine o_aload_n hC dX4_findOrAdd_38 (by rfl) ?_
      refine o_getf hC (fX4_18 hC rfl) dX4_findOrAdd_39 (by repeat (first | with_reducible assumption | (rw [rl_u_s]; done) | (rw [rl_u_s]; rfl) | rw [rl_u_n (by first | with_reducible assumption | omega)])) (by first | rfl | with_reducible assumption) ?_
      refine o_bipush (v := nI 80) hC dX4_findOrAdd_42 (by decide +kernel) ?_
      refine o_icmp_lt (tgt := 49) hC dX4_findOrAdd_44 (by decide) (fun c_44 => ?_) (fun c_44 => ?_)
      · have hs80 : sz < 80 := by
          rcases Nat.lt_or_ge sz 80 with q | q
          · exact q
          · exact absurd c_44 (nI_nlt q (by omega))
        refine o_aload_n hC dX4_findOrAdd_49 (by rfl) ?_
        refine o_getf hC (fX4_11 hC rfl) dX4_findOrAdd_50 (by repeat (first | with_reducible assumption | (rw [rl_u_s]; done) | (rw [rl_u_s]; rfl) | rw [rl_u_n (by first | with_reducible assumption | omega)])) (by first | rfl | with_reducible assumption) ?_
        refine o_aload_n hC dX4_findOrAdd_53 (by rfl) ?_
        refine o_getf hC (fX4_18 hC rfl) dX4_findOrAdd_54 (by repeat (first | with_reducible assumption | (rw [rl_u_s]; done) | (rw [rl_u_s]; rfl) | rw [rl_u_n (by first | with_reducible assumption | omega)])) (by first | rfl | with_reducible assumption) ?_
        refine o_aaldN (t0 := 3) hC rfl dX4_findOrAdd_57 (by repeat (first | with_reducible assumption | (rw [rl_u_s]; done) | (rw [rl_u_s]; rfl) | rw [rl_u_n (by first | with_reducible assumption | omega)])) (by omega) (by decide) ?_
        rw [t3 _ (by omega)]
        show rl_G X _ _ _ (.ref _ :: _) _ _ _ _
        refine o_astore_n hC dX4_findOrAdd_58 (Nat.le_of_ble_eq_true rfl) ?_
        refine o_aload_n hC dX4_findOrAdd_59 (by rfl) ?_
        refine o_getf hC (fX4_18 hC rfl) dX4_findOrAdd_60 (by repeat (first | with_reducible assumption | (rw [rl_u_s]; done) | (rw [rl_u_s]; rfl) | rw [rl_u_n (by first | with_reducible assumption | omega)])) (by first | rfl | with_reducible assumption) ?_
        refine o_istore hC dX4_findOrAdd_63 (Nat.le_of_ble_eq_true rfl) ?_
        exact loop (sz - (k + 1)) sz (k + 1) _ tf (by omega) (Nat.le_refl _) hs80 hz.symm (fun q => c_26 q.2) t2 (fun j hj => by rw [t3 j hj, if_neg (by omega)]) rl_fr.rf
      · refine o_null hC dX4_findOrAdd_47 ?_
        refine o_aret hC hB (by first | exact Or.inl ⟨_, rfl⟩ | exact Or.inr ⟨_, rfl⟩) (by first | exact Or.inl rfl | exact Or.inr ⟨_, rfl⟩) dX4_findOrAdd_48 (Nat.le_of_ble_eq_true rfl) (Nat.le_of_ble_eq_true rfl) ?_
        refine Or.inr (Or.inl ⟨rfl, ?_, ?_, rfl, rfl⟩)
        · rcases Nat.lt_or_ge sz 80 with q | q
          · exact absurd (nI_lt q (by decide)) c_44
          · exact q
        · rw [hz]
          exact fun q => c_26 q.2
    · refine o_aload_n hC dX4_findOrAdd_29 (by rfl) ?_
      refine o_getf hC (fX4_11 hC rfl) dX4_findOrAdd_30 (by repeat (first | with_reducible assumption | (rw [rl_u_s]; done) | (rw [rl_u_s]; rfl) | rw [rl_u_n (by first | with_reducible assumption | omega)])) (by first | rfl | with_reducible assumption) ?_
      refine o_iload_n hC dX4_findOrAdd_33 (by rfl) ?_
      refine o_iconst (v := nI 1) hC dX4_findOrAdd_34 (by decide +kernel) ?_
      refine o_isub hC dX4_findOrAdd_35 ?_
      rw [rl_pred k]
      refine o_aaldN (t0 := 3) hC rfl dX4_findOrAdd_36 (by repeat (first | with_reducible assumption | (rw [rl_u_s]; done) | (rw [rl_u_s]; rfl) | rw [rl_u_n (by first | with_reducible assumption | omega)])) (by omega) (by decide) ?_
      rw [t3 _ (by omega)]
      show rl_G X _ _ _ (.ref _ :: _) _ _ _ _
      refine o_aret hC hB (by first | exact Or.inl ⟨_, rfl⟩ | exact Or.inr ⟨_, rfl⟩) (by first | exact Or.inl rfl | exact Or.inr ⟨_, rfl⟩) dX4_findOrAdd_37 (Nat.le_of_ble_eq_true rfl) (Nat.le_of_ble_eq_true rfl) ?_
      refine Or.inl ⟨?_, ?_, rfl, rfl⟩
      · rw [hz]; exact ⟨Nat.succ_pos k, c_26⟩
      · rw [hz]; rfl

/-- how many of the TUPLES from t on hold -/
noncomputable def hm_go (S : tb_S) (P : Nat → Nat) (x : Int64) : Nat → Nat → Int32 → Int32
  | 0, _, c => c
  | m + 1, t, c => if tm_first (S.2.1 (P t)) (S.2.2.1 (P t)) x (S.2.2.2 (P t)) 0 = -1 then hm_go S P x m (t + 1) c else hm_go S P x m (t + 1) (c + Int32.ofInt 1)

set_option maxHeartbeats 4000000 in
set_option maxRecDepth 100000 in
theorem ct_X4_howManyHold (l : Launch) (D : va_G) (ids : Nat → ClassId) (H0 : Heap) (h : rl_H) (n : Nat) (a sz wd : Nat) (P : Nat → Nat) (S : tb_S) (x : Int64) (ht : tb_at ids h a sz wd P S) : rl_Met l (rl_e D ids H0) rl_BW rl_Ns yX4_howManyHold cX4_howManyHold 5 (some .int) ({ frames := 2, cells := 0, slots := 0, locals := 45 }) [.ref a, .long x] h n (fun v h' n' => v = some (.int (hm_go S P x sz 0 0)) ∧ h' = h ∧ n' = n) := by
  obtain ⟨t1, ⟨tf, t2, t3⟩, t4, t5, t6, t7⟩ := id ht
  refine rl_Met.of (by decide +kernel) (Nat.le_of_ble_eq_true rfl) ?_
  intro X hC hB
  have loop : ∀ (m t : Nat) (c : Int32), t + m = sz → hm_go S P x sz 0 0 = hm_go S P x m t c → rl_G X (rl_e D ids H0) 5 [some (.ref a), some (.long x), none, some (.int c), some (.int (nI t))] [] h n 0 0 := by
    intro m
    induction m with
    | zero =>
      intro t c ht hs
      refine o_iload hC dX4_howManyHold_5 (by rfl) ?_
      refine o_aload_n hC dX4_howManyHold_7 (by rfl) ?_
      refine o_getf hC (fX4_18 hC rfl) dX4_howManyHold_8 (by repeat (first | with_reducible assumption | (rw [rl_u_s]; done) | (rw [rl_u_s]; rfl) | rw [rl_u_n (by first | with_reducible assumption | omega)])) (by first | rfl | with_reducible assumption) ?_
      refine o_icmp_ge (tgt := 40) hC dX4_howManyHold_11 (by decide) (fun c_11 => ?_) (fun c_11 => ?_)
      · refine o_iload_n hC dX4_howManyHold_40 (by rfl) ?_
        refine o_iret hC hB dX4_howManyHold_41 (Nat.le_of_ble_eq_true rfl) (Nat.le_of_ble_eq_true rfl) ?_
        exact ⟨by rw [hs]; rfl, rfl, rfl⟩
      · exact absurd (nI_le (by omega) (by omega)) c_11
    | succ m ih =>
      intro t c ht hs
      obtain ⟨e1, e2, e3⟩ := t5 (P t) (t4 t (by omega))
      refine o_iload hC dX4_howManyHold_5 (by rfl) ?_
      refine o_aload_n hC dX4_howManyHold_7 (by rfl) ?_
      refine o_getf hC (fX4_18 hC rfl) dX4_howManyHold_8 (by repeat (first | with_reducible assumption | (rw [rl_u_s]; done) | (rw [rl_u_s]; rfl) | rw [rl_u_n (by first | with_reducible assumption | omega)])) (by first | rfl | with_reducible assumption) ?_
      refine o_icmp_ge (tgt := 40) hC dX4_howManyHold_11 (by decide) (fun c_11 => ?_) (fun c_11 => ?_)
      · exact absurd c_11 (nI_ge (by omega) (by omega))
      · refine o_aload_n hC dX4_howManyHold_14 (by rfl) ?_
        refine o_getf hC (fX4_11 hC rfl) dX4_howManyHold_15 (by repeat (first | with_reducible assumption | (rw [rl_u_s]; done) | (rw [rl_u_s]; rfl) | rw [rl_u_n (by first | with_reducible assumption | omega)])) (by first | rfl | with_reducible assumption) ?_
        refine o_iload hC dX4_howManyHold_18 (by rfl) ?_
        refine o_aaldN (t0 := 3) hC rfl dX4_howManyHold_20 (by repeat (first | with_reducible assumption | (rw [rl_u_s]; done) | (rw [rl_u_s]; rfl) | rw [rl_u_n (by first | with_reducible assumption | omega)])) (by omega) (by decide) ?_
        rw [t3 _ (by omega)]
        show rl_G X _ _ _ (.ref _ :: _) _ _ _ _
        refine o_getf hC (fX4_41 hC rfl) dX4_howManyHold_21 (by repeat (first | with_reducible assumption | (rw [rl_u_s]; done) | (rw [rl_u_s]; rfl) | rw [rl_u_n (by first | with_reducible assumption | omega)])) (by first | rfl | with_reducible assumption) ?_
        refine o_lload_n hC dX4_howManyHold_24 (by rfl) ?_
        refine o_callV1 hC rl_BW_good rl_Ns_nw (by exact hB.2.2.2.2.2) YX6_holdsWith IX6_holdsWith VX6_holdsWith (mX4_45 hC) (by rw [hB.1]; exact ct_X6_holdsWith l D ids H0 _ _ (a + 2 + 5 * P t + 2) _ _ _ x e3) (by exact e3.1) rfl rfl (Nat.le_of_ble_eq_true rfl) (by rw [hB.2.1]; first | exact Nat.le_of_ble_eq_true rfl | (dsimp only; omega)) (by rw [hB.2.1]; first | exact Nat.le_of_ble_eq_true rfl | (dsimp only; omega)) (by rw [hB.2.1]; first | exact Nat.le_of_ble_eq_true rfl | (dsimp only; omega)) (by rw [hB.2.1]; first | exact Nat.le_of_ble_eq_true rfl | (dsimp only; omega)) dX4_howManyHold_25 (fun v h_25 n_25 p_25 => ?_)
        obtain ⟨rfl, rfl, rfl⟩ := p_25
        try dsimp only [Option.toList, List.cons_append, List.nil_append]
        refine o_if_eq (tgt := 34) hC dX4_howManyHold_28 (by decide) (fun c_28 => ?_) (fun c_28 => ?_)
        · refine o_iinc hC dX4_howManyHold_34 (by rfl) (rl_inc _) (Nat.le_of_ble_eq_true rfl) ?_
          refine o_goto (tgt := 5) hC dX4_howManyHold_37 (by decide) ?_
          refine ih (t + 1) _ (by omega) (hs.trans ?_)
          by_cases q : tm_first (S.2.1 (P t)) (S.2.2.1 (P t)) x (S.2.2.2 (P t)) 0 = -1
          · first
            | (rw [hm_go, if_pos q]; done)
            | (rw [if_pos q] at c_28; exact absurd rfl c_28)
          · first
            | (rw [hm_go, if_neg q]; done)
            | (rw [if_neg q] at c_28; exact absurd c_28 (by decide +kernel))
        · refine o_iinc hC dX4_howManyHold_31 (by rfl) rfl (Nat.le_of_ble_eq_true rfl) ?_
          refine o_iinc hC dX4_howManyHold_34 (by rfl) (rl_inc _) (Nat.le_of_ble_eq_true rfl) ?_
          refine o_goto (tgt := 5) hC dX4_howManyHold_37 (by decide) ?_
          refine ih (t + 1) _ (by omega) (hs.trans ?_)
          by_cases q : tm_first (S.2.1 (P t)) (S.2.2.1 (P t)) x (S.2.2.2 (P t)) 0 = -1
          · first
            | (rw [hm_go, if_pos q]; done)
            | (rw [if_pos q] at c_28; exact absurd rfl c_28)
          · first
            | (rw [hm_go, if_neg q]; done)
            | (rw [if_neg q] at c_28; exact absurd c_28 (by decide +kernel))
  show rl_G X (rl_e D ids H0) 0 [some (.ref a), some (.long x), none, none, none] [] h n 0 0
  refine o_iconst (v := nI 0) hC dX4_howManyHold_0 (by decide +kernel) ?_
  refine o_istore_n hC dX4_howManyHold_1 (Nat.le_of_ble_eq_true rfl) ?_
  refine o_iconst (v := nI 0) hC dX4_howManyHold_2 (by decide +kernel) ?_
  refine o_istore hC dX4_howManyHold_3 (Nat.le_of_ble_eq_true rfl) ?_
  exact loop sz 0 _ (by omega) rfl
