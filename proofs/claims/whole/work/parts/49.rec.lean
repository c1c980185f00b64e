/-! RowLineage: digits, and the two that call themselves -/
def dg_least : Nat → Nat → Nat → Nat
  | 0, _, l => l
  | f + 1, r, l => if r = 0 then l else dg_least f (r / 10) (if r % 10 < l then r % 10 else l)
def dg_great : Nat → Nat → Nat → Nat
  | 0, _, l => l
  | f + 1, r, l => if r = 0 then l else dg_great f (r / 10) (if l < r % 10 then r % 10 else l)
def dg_count : Nat → Nat → Nat → Nat
  | 0, _, c => c
  | f + 1, r, c => if r = 0 then c else dg_count f (r / 10) (c + 1)
theorem nI_if {a b : Nat} (ha : a < 2147483648) (hb : b < 2147483648) : (if nI a < nI b then nI a else nI b) = nI (if a < b then a else b) := by
  by_cases q : a < b
  · rw [if_pos q, if_pos (nI_lt q hb)]
  · rw [if_neg q, if_neg (nI_nlt (by omega) ha)]
theorem nI_if2 {a b : Nat} (ha : a < 2147483648) (hb : b < 2147483648) : (if nI a < nI b then nI b else nI a) = nI (if a < b then b else a) := by
  by_cases q : a < b
  · rw [if_pos q, if_pos (nI_lt q hb)]
  · rw [if_neg q, if_neg (nI_nlt (by omega) ha)]

set_option maxHeartbeats 4000000 in
set_option maxRecDepth 100000 in
theorem ct_X7_leastDigit (l : Launch) (D : va_G) (ids : Nat → ClassId) (H0 : Heap) (h : rl_H) (n : Nat) (N : Nat) (hN : N < 10 ^ 7) : rl_Met l (rl_e D ids H0) rl_BW rl_Ns yX7_leastDigit cX7_leastDigit 3 (some .int) ({ frames := 1, cells := 0, slots := 0, locals := 40 }) [.int (nI N)] h n (fun v h' n' => v = some (.int (nI (dg_least 7 N 9))) ∧ h' = h ∧ n' = n) := by
  refine rl_Met.of (by decide +kernel) (Nat.le_of_ble_eq_true rfl) ?_
  intro X hC hB
  have loop : ∀ (f R k : Nat), R < 10 ^ f → R < 2147483648 → f ≤ 7 → k + f < 1000 → dg_least 7 N 9 = dg_least f R k → rl_G X (rl_e D ids H0) 5 [some (.int (nI N)), some (.int (nI k)), some (.int (nI R))] [] h n 0 0 := by
    intro f
    induction f with
    | zero =>
      intro R k hR hR0 hk hkf hs
      have hz : R = 0 := by
        rw [Nat.pow_zero] at hR
        omega
      subst hz
      refine o_iload_n hC dX7_leastDigit_5 (by rfl) ?_
      refine o_if_le (tgt := 26) hC dX7_leastDigit_6 (by decide) (fun c_6 => ?_) (fun c_6 => ?_)
      · refine o_iload_n hC dX7_leastDigit_26 (by rfl) ?_
        refine o_iret hC hB dX7_leastDigit_27 (Nat.le_of_ble_eq_true rfl) (Nat.le_of_ble_eq_true rfl) ?_
        exact ⟨by rw [hs]; rfl, rfl, rfl⟩
      · exact absurd (by decide +kernel) c_6
    | succ f ih =>
      intro R k hR hR0 hk hkf hs
      rcases Nat.eq_zero_or_pos R with hz | hz
      · subst hz
        refine o_iload_n hC dX7_leastDigit_5 (by rfl) ?_
        refine o_if_le (tgt := 26) hC dX7_leastDigit_6 (by decide) (fun c_6 => ?_) (fun c_6 => ?_)
        · refine o_iload_n hC dX7_leastDigit_26 (by rfl) ?_
          refine o_iret hC hB dX7_leastDigit_27 (Nat.le_of_ble_eq_true rfl) (Nat.le_of_ble_eq_true rfl) ?_
          exact ⟨by rw [hs]; rfl, rfl, rfl⟩
        · exact absurd (by decide +kernel) c_6
      · have hd1 : R / 10 < 10 ^ f := by
          rw [Nat.pow_succ] at hR
          omega
        refine o_iload_n hC dX7_leastDigit_5 (by rfl) ?_
        refine o_if_le (tgt := 26) hC dX7_leastDigit_6 (by decide) (fun c_6 => ?_) (fun c_6 => ?_)
        · refine o_iload_n hC dX7_leastDigit_26 (by rfl) ?_
          refine o_iret hC hB dX7_leastDigit_27 (Nat.le_of_ble_eq_true rfl) (Nat.le_of_ble_eq_true rfl) ?_
          exact absurd (show nI R ≤ nI 0 from c_6) (nI_ge hz (by omega))
        · refine o_iload_n hC dX7_leastDigit_9 (by rfl) ?_
          refine o_iload_n hC dX7_leastDigit_10 (by rfl) ?_
          refine o_bipush (v := nI 10) hC dX7_leastDigit_11 (by decide +kernel) ?_
          refine o_irem hC dX7_leastDigit_13 (by decide +kernel) ?_
          rw [pk_rem hR0 (by decide) (by decide)]
          refine o_mmin hC (by exact hB.2.2.2.2.2) (rl_bw 302 (by decide +kernel) (by decide +kernel)) SJ9_min_7cf53 YJ9_min_7cf53.2.1 YJ9_min_7cf53.1 (by rw [hB.2.1]; first | exact Nat.le_of_ble_eq_true rfl | (dsimp only; omega)) (by rw [hB.2.1]; first | exact Nat.le_of_ble_eq_true rfl | (dsimp only; omega)) (by rw [hB.2.1]; first | exact Nat.le_of_ble_eq_true rfl | (dsimp only; omega)) (by rw [hB.2.1]; first | exact Nat.le_of_ble_eq_true rfl | (dsimp only; omega)) dX7_leastDigit_14 ?_
          rw [nI_if (by omega) (by omega)]
          refine o_istore_n hC dX7_leastDigit_17 (Nat.le_of_ble_eq_true rfl) ?_
          refine o_iload_n hC dX7_leastDigit_18 (by rfl) ?_
          refine o_bipush (v := nI 10) hC dX7_leastDigit_19 (by decide +kernel) ?_
          refine o_idiv hC dX7_leastDigit_21 (by decide +kernel) ?_
          rw [pk_div hR0 (by decide) (by decide)]
          refine o_istore_n hC dX7_leastDigit_22 (Nat.le_of_ble_eq_true rfl) ?_
          refine o_goto (tgt := 5) hC dX7_leastDigit_23 (by decide) ?_
          exact ih (R / 10) _ hd1 (by omega) (by omega) (by split <;> omega) (by rw [hs, dg_least, if_neg (by omega)])
  show rl_G X (rl_e D ids H0) 0 [some (.int (nI N)), none, none] [] h n 0 0
  refine o_bipush (v := nI 9) hC dX7_leastDigit_0 (by decide +kernel) ?_
  refine o_istore_n hC dX7_leastDigit_2 (Nat.le_of_ble_eq_true rfl) ?_
  refine o_iload_n hC dX7_leastDigit_3 (by rfl) ?_
  refine o_istore_n hC dX7_leastDigit_4 (Nat.le_of_ble_eq_true rfl) ?_
  exact loop 7 N 9 hN (by omega) (by decide) (by decide) rfl

set_option maxHeartbeats 4000000 in
set_option maxRecDepth 100000 in
theorem ct_X7_greatestDigit (l : Launch) (D : va_G) (ids : Nat → ClassId) (H0 : Heap) (h : rl_H) (n : Nat) (N : Nat) (hN : N < 10 ^ 7) : rl_Met l (rl_e D ids H0) rl_BW rl_Ns yX7_greatestDigit cX7_greatestDigit 3 (some .int) ({ frames := 1, cells := 0, slots := 0, locals := 40 }) [.int (nI N)] h n (fun v h' n' => v = some (.int (nI (dg_great 7 N 0))) ∧ h' = h ∧ n' = n) := by
  refine rl_Met.of (by decide +kernel) (Nat.le_of_ble_eq_true rfl) ?_
  intro X hC hB
  have loop : ∀ (f R k : Nat), R < 10 ^ f → R < 2147483648 → f ≤ 7 → k + f < 1000 → dg_great 7 N 0 = dg_great f R k → rl_G X (rl_e D ids H0) 4 [some (.int (nI N)), some (.int (nI k)), some (.int (nI R))] [] h n 0 0 := by
    intro f
    induction f with
    | zero =>
      intro R k hR hR0 hk hkf hs
      have hz : R = 0 := by
        rw [Nat.pow_zero] at hR
        omega
      subst hz
      refine o_iload_n hC dX7_greatestDigit_4 (by rfl) ?_
      refine o_if_le (tgt := 25) hC dX7_greatestDigit_5 (by decide) (fun c_5 => ?_) (fun c_5 => ?_)
      · refine o_iload_n hC dX7_greatestDigit_25 (by rfl) ?_
        refine o_iret hC hB dX7_greatestDigit_26 (Nat.le_of_ble_eq_true rfl) (Nat.le_of_ble_eq_true rfl) ?_
        exact ⟨by rw [hs]; rfl, rfl, rfl⟩
      · exact absurd (by decide +kernel) c_5
    | succ f ih =>
      intro R k hR hR0 hk hkf hs
      rcases Nat.eq_zero_or_pos R with hz | hz
      · subst hz
        refine o_iload_n hC dX7_greatestDigit_4 (by rfl) ?_
        refine o_if_le (tgt := 25) hC dX7_greatestDigit_5 (by decide) (fun c_5 => ?_) (fun c_5 => ?_)
        · refine o_iload_n hC dX7_greatestDigit_25 (by rfl) ?_
          refine o_iret hC hB dX7_greatestDigit_26 (Nat.le_of_ble_eq_true rfl) (Nat.le_of_ble_eq_true rfl) ?_
          exact ⟨by rw [hs]; rfl, rfl, rfl⟩
        · exact absurd (by decide +kernel) c_5
      · have hd1 : R / 10 < 10 ^ f := by
          rw [Nat.pow_succ] at hR
          omega
        refine o_iload_n hC dX7_greatestDigit_4 (by rfl) ?_
        refine o_if_le (tgt := 25) hC dX7_greatestDigit_5 (by decide) (fun c_5 => ?_) (fun c_5 => ?_)
        · refine o_iload_n hC dX7_greatestDigit_25 (by rfl) ?_
          refine o_iret hC hB dX7_greatestDigit_26 (Nat.le_of_ble_eq_true rfl) (Nat.le_of_ble_eq_true rfl) ?_
          exact absurd (show nI R ≤ nI 0 from c_5) (nI_ge hz (by omega))
        · refine o_iload_n hC dX7_greatestDigit_8 (by rfl) ?_
          refine o_iload_n hC dX7_greatestDigit_9 (by rfl) ?_
          refine o_bipush (v := nI 10) hC dX7_greatestDigit_10 (by decide +kernel) ?_
          refine o_irem hC dX7_greatestDigit_12 (by decide +kernel) ?_
          rw [pk_rem hR0 (by decide) (by decide)]
          refine o_mmax hC (by exact hB.2.2.2.2.2) (rl_bw 308 (by decide +kernel) (by decide +kernel)) SJ9_max_7cf53 YJ9_max_7cf53.2.1 YJ9_max_7cf53.1 (by rw [hB.2.1]; first | exact Nat.le_of_ble_eq_true rfl | (dsimp only; omega)) (by rw [hB.2.1]; first | exact Nat.le_of_ble_eq_true rfl | (dsimp only; omega)) (by rw [hB.2.1]; first | exact Nat.le_of_ble_eq_true rfl | (dsimp only; omega)) (by rw [hB.2.1]; first | exact Nat.le_of_ble_eq_true rfl | (dsimp only; omega)) dX7_greatestDigit_13 ?_
          rw [nI_if2 (by omega) (by omega)]
          refine o_istore_n hC dX7_greatestDigit_16 (Nat.le_of_ble_eq_true rfl) ?_
          refine o_iload_n hC dX7_greatestDigit_17 (by rfl) ?_
          refine o_bipush (v := nI 10) hC dX7_greatestDigit_18 (by decide +kernel) ?_
          refine o_idiv hC dX7_greatestDigit_20 (by decide +kernel) ?_
          rw [pk_div hR0 (by decide) (by decide)]
          refine o_istore_n hC dX7_greatestDigit_21 (Nat.le_of_ble_eq_true rfl) ?_
          refine o_goto (tgt := 4) hC dX7_greatestDigit_22 (by decide) ?_
          exact ih (R / 10) _ hd1 (by omega) (by omega) (by split <;> omega) (by rw [hs, dg_great, if_neg (by omega)])
  show rl_G X (rl_e D ids H0) 0 [some (.int (nI N)), none, none] [] h n 0 0
  refine o_iconst (v := nI 0) hC dX7_greatestDigit_0 (by decide +kernel) ?_
  refine o_istore_n hC dX7_greatestDigit_1 (Nat.le_of_ble_eq_true rfl) ?_
  refine o_iload_n hC dX7_greatestDigit_2 (by rfl) ?_
  refine o_istore_n hC dX7_greatestDigit_3 (Nat.le_of_ble_eq_true rfl) ?_
  exact loop 7 N 0 hN (by omega) (by decide) (by decide) rfl

set_option maxHeartbeats 4000000 in
set_option maxRecDepth 100000 in
theorem ct_X7_digitCount (l : Launch) (D : va_G) (ids : Nat → ClassId) (H0 : Heap) (h : rl_H) (n : Nat) (N : Nat) (hN : N < 10 ^ 7) : rl_Met l (rl_e D ids H0) rl_BW rl_Ns yX7_digitCount cX7_digitCount 3 (some .int) ({ frames := 1, cells := 0, slots := 0, locals := 40 }) [.int (nI N)] h n (fun v h' n' => v = some (.int (nI (dg_count 7 N 0))) ∧ h' = h ∧ n' = n) := by
  refine rl_Met.of (by decide +kernel) (Nat.le_of_ble_eq_true rfl) ?_
  intro X hC hB
  have loop : ∀ (f R k : Nat), R < 10 ^ f → R < 2147483648 → f ≤ 7 → k + f < 1000 → dg_count 7 N 0 = dg_count f R k → rl_G X (rl_e D ids H0) 4 [some (.int (nI N)), some (.int (nI k)), some (.int (nI R))] [] h n 0 0 := by
    intro f
    induction f with
    | zero =>
      intro R k hR hR0 hk hkf hs
      have hz : R = 0 := by
        rw [Nat.pow_zero] at hR
        omega
      subst hz
      refine o_iload_n hC dX7_digitCount_4 (by rfl) ?_
      refine o_if_le (tgt := 19) hC dX7_digitCount_5 (by decide) (fun c_5 => ?_) (fun c_5 => ?_)
      · refine o_iload_n hC dX7_digitCount_19 (by rfl) ?_
        refine o_iret hC hB dX7_digitCount_20 (Nat.le_of_ble_eq_true rfl) (Nat.le_of_ble_eq_true rfl) ?_
        exact ⟨by rw [hs]; rfl, rfl, rfl⟩
      · exact absurd (by decide +kernel) c_5
    | succ f ih =>
      intro R k hR hR0 hk hkf hs
      rcases Nat.eq_zero_or_pos R with hz | hz
      · subst hz
        refine o_iload_n hC dX7_digitCount_4 (by rfl) ?_
        refine o_if_le (tgt := 19) hC dX7_digitCount_5 (by decide) (fun c_5 => ?_) (fun c_5 => ?_)
        · refine o_iload_n hC dX7_digitCount_19 (by rfl) ?_
          refine o_iret hC hB dX7_digitCount_20 (Nat.le_of_ble_eq_true rfl) (Nat.le_of_ble_eq_true rfl) ?_
          exact ⟨by rw [hs]; rfl, rfl, rfl⟩
        · exact absurd (by decide +kernel) c_5
      · have hd1 : R / 10 < 10 ^ f := by
          rw [Nat.pow_succ] at hR
          omega
        refine o_iload_n hC dX7_digitCount_4 (by rfl) ?_
        refine o_if_le (tgt := 19) hC dX7_digitCount_5 (by decide) (fun c_5 => ?_) (fun c_5 => ?_)
        · refine o_iload_n hC dX7_digitCount_19 (by rfl) ?_
          refine o_iret hC hB dX7_digitCount_20 (Nat.le_of_ble_eq_true rfl) (Nat.le_of_ble_eq_true rfl) ?_
          exact absurd (show nI R ≤ nI 0 from c_5) (nI_ge hz (by omega))
        · refine o_iinc hC dX7_digitCount_8 (by rfl) (rl_inc _) (Nat.le_of_ble_eq_true rfl) ?_
          refine o_iload_n hC dX7_digitCount_11 (by rfl) ?_
          refine o_bipush (v := nI 10) hC dX7_digitCount_12 (by decide +kernel) ?_
          refine o_idiv hC dX7_digitCount_14 (by decide +kernel) ?_
          rw [pk_div hR0 (by decide) (by decide)]
          refine o_istore_n hC dX7_digitCount_15 (Nat.le_of_ble_eq_true rfl) ?_
          refine o_goto (tgt := 4) hC dX7_digitCount_16 (by decide) ?_
          exact ih (R / 10) _ hd1 (by omega) (by omega) (by omega) (by rw [hs, dg_count, if_neg (by omega)])
  show rl_G X (rl_e D ids H0) 0 [some (.int (nI N)), none, none] [] h n 0 0
  refine o_iconst (v := nI 0) hC dX7_digitCount_0 (by decide +kernel) ?_
  refine o_istore_n hC dX7_digitCount_1 (Nat.le_of_ble_eq_true rfl) ?_
  refine o_iload_n hC dX7_digitCount_2 (by rfl) ?_
  refine o_istore_n hC dX7_digitCount_3 (Nat.le_of_ble_eq_true rfl) ?_
  exact loop 7 N 0 hN (by omega) (by decide) (by decide) rfl

set_option maxHeartbeats 4000000 in
set_option maxRecDepth 100000 in
theorem ct_X7_setsWithNone (l : Launch) (D : va_G) (ids : Nat → ClassId) (H0 : Heap) (h : rl_H) (n : Nat) (w k : Nat) (f g : Nat → Int64) (rows : Int32) (hw : ws_at ids h w f g k) : ∀ (j fr : Nat) (a b : Int64), fr + j = k → rl_Met l (rl_e D ids H0) rl_BW rl_Ns yX7_setsWithNone cX7_setsWithNone 12 (some .int) ({ frames := 1 + j, cells := 0, slots := 0, locals := 21 + 31 * j }) [.ref w, .int (nI fr), .long a, .long b, .int rows] h n (fun v h' n' => ∃ x : Int32, v = some (.int x) ∧ h' = h ∧ n' = n) := by
  obtain ⟨w1, w2, w3, w4⟩ := id hw
  intro j
  induction j with
  | zero =>
    intro fr a b hj
    refine rl_Met.of (by decide +kernel) (Nat.le_of_ble_eq_true rfl) ?_
    intro X hC hB
    show rl_G X (rl_e D ids H0) 0 [some (.ref w), some (.int (nI fr)), some (.long a), none, some (.long b), none, some (.int rows), none, none, none, none, none] [] h n 0 0
    refine o_iload_n hC dX7_setsWithNone_0 (by rfl) ?_
    refine o_aload_n hC dX7_setsWithNone_1 (by rfl) ?_
    refine o_getf hC (fX7_163 hC rfl) dX7_setsWithNone_2 (by repeat (first | with_reducible assumption | (rw [rl_u_s]; done) | (rw [rl_u_s]; rfl) | rw [rl_u_n (by first | with_reducible assumption | omega)])) (by first | rfl | with_reducible assumption) ?_
    refine o_icmp_lt (tgt := 21) hC dX7_setsWithNone_5 (by decide) (fun c_5 => ?_) (fun c_5 => ?_)
    · exact absurd c_5 (nI_nlt (by omega) (by omega))
    · refine o_iconst (v := nI 1) hC dX7_setsWithNone_8 (by decide +kernel) ?_
      refine o_iload hC dX7_setsWithNone_9 (by rfl) ?_
      refine o_lload_n hC dX7_setsWithNone_11 (by rfl) ?_
      refine o_lload hC dX7_setsWithNone_12 (by rfl) ?_
      refine o_lor hC dX7_setsWithNone_14 ?_
      refine o_callS1 hC rl_BW_good rl_Ns_nw (by exact hB.2.2.2.2.2) YJ13_bitCount_95d88 SJ13_bitCount_95d88 (mX7_203 hC) (by rw [hB.1]; exact ct_J13_bitCount_95d88 l D ids H0 _ _ _) (Nat.le_of_ble_eq_true rfl) (by rw [hB.2.1]; first | exact Nat.le_of_ble_eq_true rfl | (dsimp only; omega)) (by rw [hB.2.1]; first | exact Nat.le_of_ble_eq_true rfl | (dsimp only; omega)) (by rw [hB.2.1]; first | exact Nat.le_of_ble_eq_true rfl | (dsimp only; omega)) (by rw [hB.2.1]; first | exact Nat.le_of_ble_eq_true rfl | (dsimp only; omega)) dX7_setsWithNone_15 (fun v h_15 n_15 p_15 => ?_)
      obtain ⟨rfl, rfl, rfl⟩ := p_15
      try dsimp only [Option.toList, List.cons_append, List.nil_append]
      refine o_isub hC dX7_setsWithNone_18 ?_
      refine o_ishl hC dX7_setsWithNone_19 ?_
      refine o_iret hC hB dX7_setsWithNone_20 (Nat.le_of_ble_eq_true rfl) (Nat.le_of_ble_eq_true rfl) ?_
      exact ⟨_, rfl, rfl, rfl⟩
  | succ j ih =>
    intro fr a b hj
    refine rl_Met.of (by decide +kernel) (Nat.le_of_ble_eq_true rfl) ?_
    intro X hC hB
    show rl_G X (rl_e D ids H0) 0 [some (.ref w), some (.int (nI fr)), some (.long a), none, some (.long b), none, some (.int rows), none, none, none, none, none] [] h n 0 0
    refine o_iload_n hC dX7_setsWithNone_0 (by rfl) ?_
    refine o_aload_n hC dX7_setsWithNone_1 (by rfl) ?_
    refine o_getf hC (fX7_163 hC rfl) dX7_setsWithNone_2 (by repeat (first | with_reducible assumption | (rw [rl_u_s]; done) | (rw [rl_u_s]; rfl) | rw [rl_u_n (by first | with_reducible assumption | omega)])) (by first | rfl | with_reducible assumption) ?_
    refine o_icmp_lt (tgt := 21) hC dX7_setsWithNone_5 (by decide) (fun c_5 => ?_) (fun c_5 => ?_)
    · refine o_aload_n hC dX7_setsWithNone_21 (by rfl) ?_
      refine o_iload_n hC dX7_setsWithNone_22 (by rfl) ?_
      refine o_iconst (v := nI 1) hC dX7_setsWithNone_23 (by decide +kernel) ?_
      refine o_iadd hC dX7_setsWithNone_24 ?_
      rw [nI_add fr 1]
      refine o_lload_n hC dX7_setsWithNone_25 (by rfl) ?_
      refine o_lload hC dX7_setsWithNone_26 (by rfl) ?_
      refine o_iload hC dX7_setsWithNone_28 (by rfl) ?_
      refine o_callS5 hC rl_BW_good rl_Ns_nw (by exact hB.2.2.2.2.2) YX7_setsWithNone SX7_setsWithNone (mX7_208 hC) (by rw [hB.1]; exact ih (fr + 1) _ _ (by omega)) (Nat.le_of_ble_eq_true rfl) (by rw [hB.2.1]; first | exact Nat.le_of_ble_eq_true rfl | (dsimp only; omega)) (by rw [hB.2.1]; first | exact Nat.le_of_ble_eq_true rfl | (dsimp only; omega)) (by rw [hB.2.1]; first | exact Nat.le_of_ble_eq_true rfl | (dsimp only; omega)) (by rw [hB.2.1]; first | exact Nat.le_of_ble_eq_true rfl | (dsimp only; omega)) dX7_setsWithNone_30 (fun v h_30 n_30 p_30 => ?_)
      obtain ⟨x30, rfl, rfl, rfl⟩ := p_30
      try dsimp only [Option.toList, List.cons_append, List.nil_append]
      refine o_istore hC dX7_setsWithNone_33 (Nat.le_of_ble_eq_true rfl) ?_
      refine o_lload_n hC dX7_setsWithNone_35 (by rfl) ?_
      refine o_aload_n hC dX7_setsWithNone_36 (by rfl) ?_
      refine o_getf hC (fX7_171 hC rfl) dX7_setsWithNone_37 (by repeat (first | with_reducible assumption | (rw [rl_u_s]; done) | (rw [rl_u_s]; rfl) | rw [rl_u_n (by first | with_reducible assumption | omega)])) (by first | rfl | with_reducible assumption) ?_
      refine o_iload_n hC dX7_setsWithNone_40 (by rfl) ?_
      refine o_laldN (t0 := 1) hC rfl dX7_setsWithNone_41 (by repeat (first | with_reducible assumption | (rw [rl_u_s]; done) | (rw [rl_u_s]; rfl) | rw [rl_u_n (by first | with_reducible assumption | omega)])) (by omega) (by decide) ?_
      refine o_lor hC dX7_setsWithNone_42 ?_
      refine o_lstore hC dX7_setsWithNone_43 (Nat.le_of_ble_eq_true rfl) ?_
      refine o_lload hC dX7_setsWithNone_45 (by rfl) ?_
      refine o_aload_n hC dX7_setsWithNone_47 (by rfl) ?_
      refine o_getf hC (fX7_175 hC rfl) dX7_setsWithNone_48 (by repeat (first | with_reducible assumption | (rw [rl_u_s]; done) | (rw [rl_u_s]; rfl) | rw [rl_u_n (by first | with_reducible assumption | omega)])) (by first | rfl | with_reducible assumption) ?_
      refine o_iload_n hC dX7_setsWithNone_51 (by rfl) ?_
      refine o_laldN (t0 := 1) hC rfl dX7_setsWithNone_52 (by repeat (first | with_reducible assumption | (rw [rl_u_s]; done) | (rw [rl_u_s]; rfl) | rw [rl_u_n (by first | with_reducible assumption | omega)])) (by omega) (by decide) ?_
      refine o_lor hC dX7_setsWithNone_53 ?_
      refine o_lstore hC dX7_setsWithNone_54 (Nat.le_of_ble_eq_true rfl) ?_
      refine o_lload hC dX7_setsWithNone_56 (by rfl) ?_
      refine o_lload hC dX7_setsWithNone_58 (by rfl) ?_
      refine o_land hC dX7_setsWithNone_60 ?_
      refine o_lconst (v := 0) hC dX7_setsWithNone_61 (by decide +kernel) ?_
      refine o_lcmp hC dX7_setsWithNone_62 ?_
      refine o_if_eq (tgt := 69) hC dX7_setsWithNone_63 (by decide) (fun c_63 => ?_) (fun c_63 => ?_)
      · refine o_iload hC dX7_setsWithNone_69 (by rfl) ?_
        refine o_aload_n hC dX7_setsWithNone_71 (by rfl) ?_
        refine o_iload_n hC dX7_setsWithNone_72 (by rfl) ?_
        refine o_iconst (v := nI 1) hC dX7_setsWithNone_73 (by decide +kernel) ?_
        refine o_iadd hC dX7_setsWithNone_74 ?_
        rw [nI_add fr 1]
        refine o_lload hC dX7_setsWithNone_75 (by rfl) ?_
        refine o_lload hC dX7_setsWithNone_77 (by rfl) ?_
        refine o_iload hC dX7_setsWithNone_79 (by rfl) ?_
        refine o_callS5 hC rl_BW_good rl_Ns_nw (by exact hB.2.2.2.2.2) YX7_setsWithNone SX7_setsWithNone (mX7_208 hC) (by rw [hB.1]; exact ih (fr + 1) _ _ (by omega)) (Nat.le_of_ble_eq_true rfl) (by rw [hB.2.1]; first | exact Nat.le_of_ble_eq_true rfl | (dsimp only; omega)) (by rw [hB.2.1]; first | exact Nat.le_of_ble_eq_true rfl | (dsimp only; omega)) (by rw [hB.2.1]; first | exact Nat.le_of_ble_eq_true rfl | (dsimp only; omega)) (by rw [hB.2.1]; first | exact Nat.le_of_ble_eq_true rfl | (dsimp only; omega)) dX7_setsWithNone_81 (fun v h_81 n_81 p_81 => ?_)
        obtain ⟨x81, rfl, rfl, rfl⟩ := p_81
        try dsimp only [Option.toList, List.cons_append, List.nil_append]
        refine o_isub hC dX7_setsWithNone_84 ?_
        refine o_iret hC hB dX7_setsWithNone_85 (Nat.le_of_ble_eq_true rfl) (Nat.le_of_ble_eq_true rfl) ?_
        exact ⟨_, rfl, rfl, rfl⟩
      · refine o_iload hC dX7_setsWithNone_66 (by rfl) ?_
        refine o_iret hC hB dX7_setsWithNone_68 (Nat.le_of_ble_eq_true rfl) (Nat.le_of_ble_eq_true rfl) ?_
        exact ⟨_, rfl, rfl, rfl⟩
    · exact absurd (nI_lt (by omega) (by omega)) c_5
