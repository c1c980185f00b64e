section
/-! RowLineage: digits, and the two that call themselves -/
def dg_least : Nat → Nat → Nat → Nat
  | 0, _, l => l
  | f + 1, r, l => if r = 0 then l else dg_least f (r / 10) (if r % 10 < l then r % 10 else l)
def dg_great : Nat → Nat → Nat → Nat
  | 0, _, l => l
  | f + 1, r, l => if r = 0 then l else dg_great f (r / 10) (if l < r % 10 then r % 10 else l)
def dg_count : Nat → Nat → Nat → Nat
  | 0, _, c => c
  | f + 1, r, c => if r = 0 then c else dg_count f (r / 10) (c + 1)
theorem nI_if {a b : Nat} (ha : a < 2147483648) (hb : b < 2147483648) : (if nI a < nI b then nI a else nI b) = nI (if a < b then a else b) := by
  by_cases q : a < b
  · rw [if_pos q, if_pos (nI_lt q hb)]
  · rw [if_neg q, if_neg (nI_nlt (by omega) ha)]
theorem nI_if2 {a b : Nat} (ha : a < 2147483648) (hb : b < 2147483648) : (if nI a < nI b then nI b else nI a) = nI (if a < b then b else a) := by
  by_cases q : a < b
  · rw [if_pos q, if_pos (nI_lt q hb)]
  · rw [if_neg q, if_neg (nI_nlt (by omega) ha)]

set_option maxHeartbeats 4000000 in
set_option maxRecDepth 100000 in
theorem ct_X7_leastDigit (l : Launch) (D : va_G) (ids : Nat → ClassId) (H0 : Heap) (h : rl_H) (n : Nat) (N : Nat) (hN : N < 10 ^ 7) : rl_Met l (rl_e D ids H0) rl_BW rl_Ns yX7_leastDigit cX7_leastDigit 3 (some .int) ({ frames := 1, cells := 0, slots := 0, locals := 40 }) [.int (nI N)] h n (fun v h' n' => v = some (.int (nI (dg_least 7 N 9))) ∧ h' = h ∧ n' = n) := by
  refine rl_Met.of (by decide +kernel) (Nat.le_of_ble_eq_true rfl) ?_
  intro X hC hB
  have loop : ∀ (f R k : Nat), R < 10 ^ f → R < 2147483648 → f ≤ 7 → k + f < 1000 → dg_least 7 N 9 = dg_least f R k → rl_G X (rl_e D ids H0) 5 [some (.int (nI N)), some (.int (nI k)), some (.int (nI R))] [] h n 0 0 := by
    intro f
    induction f with
    | zero =>
      intro R k hR hR0 hk hkf hs
      have hz : R = 0 := by
        rw [Nat.pow_zero] at hR
        omega
      subst hz
      refine o_iload_n hC dX7_leastDigit_5 (by rfl) ?_
      refine o_if_le (tgt := 26) hC dX7_leastDigit_6 (by decide) (fun c_6 => ?_) (fun c_6 => ?_)
      · refine o_iload_n hC dX7_leastDigit_26 (by rfl) ?_
        refine o_iret hC hB dX7_leastDigit_27 (Nat.le_of_ble_eq_true rfl) (Nat.le_of_ble_eq_true rfl) ?_
        exact ⟨by rw [hs]; rfl, rfl, rfl⟩
      · exact absurd (by decide +kernel) c_6
    | succ f ih =>
      intro R k hR hR0 hk hkf hs
      rcases Nat.eq_zero_or_pos R with hz | hz
      · subst hz
        refine o_iload_n hC dX7_leastDigit_5 (by rfl) ?_
        refine o_if_le (tgt := 26) hC dX7_leastDigit_6 (by decide) (fun c_6 => ?_) (fun c_6 => ?_)
        · refine o_iload_n hC dX7_leastDigit_26 (by rfl) ?_
          refine o_iret hC hB dX7_leastDigit_27 (Nat.le_of_ble_eq_true rfl) (Nat.le_of_ble_eq_true rfl) ?_
          exact ⟨by rw [hs]; rfl, rfl, rfl⟩
        · exact absurd (by decide +kernel) c_6
      · have hd1 : R / 10 < 10 ^ f := by
          rw [Nat.pow_succ] at hR
          omega
        refine o_iload_n hC dX7_leastDigit_5 (by rfl) ?_
        refine o_if_le (tgt := 26) hC dX7_leastDigit_6 (by decide) (fun c_6 => ?_) (fun c_6 => ?_)
        · refine o_iload_n hC dX7_leastDigit_26 (by rfl) ?_
          refine o_iret hC hB dX7_leastDigit_27 (Nat.le_of_ble_eq_true rfl) (Nat.le_of_ble_eq_true rfl) ?_
          exact absurd (show nI R ≤ nI 0 from c_6) (nI_ge hz (by omega))
        · refine o_iload_n hC dX7_leastDigit_9 (by rfl) ?_
          refine o_iload_n hC dX7_leastDigit_10 (by rfl) ?_
          refine o_bipush (v := nI 10) hC dX7_leastDigit_11 (by decide +kernel) ?_
          refine o_irem hC dX7_leastDigit_13 (by decide +kernel) ?_
          rw [pk_rem hR0 (by decide) (by decide)]
          refine o_mmin hC (by exact hB.2.2.2.2.2) (rl_bw 302 (by decide +kernel) (by decide +kernel)) SJ9_min_7cf53 YJ9_min_7cf53.2.1 YJ9_min_7cf53.1 (by rw [hB.2.1]; first | exact Nat.le_of_ble_eq_true rfl | (dsimp only; omega)) (by rw [hB.2.1]; first | exact Nat.le_of_ble_eq_true rfl | (dsimp only; omega)) (by rw [hB.2.1]; first | exact Nat.le_of_ble_eq_true rfl | (dsimp only; omega)) (by rw [hB.2.1]; first | exact Nat.le_of_ble_eq_true rfl | (dsimp only; omega)) dX7_leastDigit_14 ?_
          rw [nI_if (by omega) (by omega)]
          refine o_istore_n hC dX7_leastDigit_17 (Nat.le_of_ble_eq_true rfl) ?_
          refine o_iload_n hC dX7_leastDigit_18 (by rfl) ?_
          refine o_bipush (v := nI 10) hC dX7_leastDigit_19 (by decide +kernel) ?_
          refine o_idiv hC dX7_leastDigit_21 (by decide +kernel) ?_
          rw [pk_div hR0 (by decide) (by decide)]
          refine o_istore_n hC dX7_leastDigit_22 (Nat.le_of_ble_eq_true rfl) ?_
          refine o_goto (tgt := 5) hC dX7_leastDigit_23 (by decide) ?_
          exact ih (R / 10) _ hd1 (by omega) (by omega) (by split <;> omega) (by rw [hs, dg_least, if_neg (by omega)])
  show rl_G X (rl_e D ids H0) 0 [some (.int (nI N)), none, none] [] h n 0 0
  refine o_bipush (v := nI 9) hC dX7_leastDigit_0 (by decide +kernel) ?_
  refine o_istore_n hC dX7_leastDigit_2 (Nat.le_of_ble_eq_true rfl) ?_
  refine o_iload_n hC dX7_leastDigit_3 (by rfl) ?_
  refine o_istore_n hC dX7_leastDigit_4 (Nat.le_of_ble_eq_true rfl) ?_
  exact loop 7 N 9 hN (by omega) (by decide) (by decide) rfl

set_option maxHeartbeats 4000000 in
set_option maxRecDepth 100000 in
theorem ct_X7_greatestDigit (l : Launch) (D : va_G) (ids : Nat → ClassId) (H0 : Heap) (h : rl_H) (n : Nat) (N : Nat) (hN : N < 10 ^ 7) : rl_Met l (rl_e D ids H0) rl_BW rl_Ns yX7_greatestDigit cX7_greatestDigit 3 (some .int) ({ frames := 1, cells := 0, slots := 0, locals := 40 }) [.int (nI N)] h n (fun v h' n' => v = some (.int (nI (dg_great 7 N 0))) ∧ h' = h ∧ n' = n) := by
  refine rl_Met.of (by decide +kernel) (Nat.le_of_ble_eq_true rfl) ?_
  intro X hC hB
  have loop : ∀ (f R k : Nat), R < 10 ^ f → R < 2147483648 → f ≤ 7 → k + f < 1000 → dg_great 7 N 0 = dg_great f R k → rl_G X (rl_e D ids H0) 4 [some (.int (nI N)), some (.int (nI k)), some (.int (nI R))] [] h n 0 0 := by
    intro f
    induction f with
    | zero =>
      intro R k hR hR0 hk hkf hs
      have hz : R = 0 := by
        rw [Nat.pow_zero] at hR
        omega
      subst hz
      refine o_iload_n hC dX7_greatestDigit_4 (by rfl) ?_
      refine o_if_le (tgt := 25) hC dX7_greatestDigit_5 (by decide) (fun c_5 => ?_) (fun c_5 => ?_)
      · refine o_iload_n hC dX7_greatestDigit_25 (by rfl) ?_
        refine o_iret hC hB dX7_greatestDigit_26 (Nat.le_of_ble_eq_true rfl) (Nat.le_of_ble_eq_true rfl) ?_
        exact ⟨by rw [hs]; rfl, rfl, rfl⟩
      · exact absurd (by decide +kernel) c_5
    | succ f ih =>
      intro R k hR hR0 hk hkf hs
      rcases Nat.eq_zero_or_pos R with hz | hz
      · subst hz
        refine o_iload_n hC dX7_greatestDigit_4 (by rfl) ?_
        refine o_if_le (tgt := 25) hC dX7_greatestDigit_5 (by decide) (fun c_5 => ?_) (fun c_5 => ?_)
        · refine o_iload_n hC dX7_greatestDigit_25 (by rfl) ?_
          refine o_iret hC hB dX7_greatestDigit_26 (Nat.le_of_ble_eq_true rfl) (Nat.le_of_ble_eq_true rfl) ?_
          exact ⟨by rw [hs]; rfl, rfl, rfl⟩
        · exact absurd (by decide +kernel) c_5
      · have hd1 : R / 10 < 10 ^ f := by
          rw [Nat.pow_succ] at hR
          omega
        refine o_iload_n hC dX7_greatestDigit_4 (by rfl) ?_
        refine o_if_le (tgt := 25) hC dX7_greatestDigit_5 (by decide) (fun c_5 => ?_) (fun c_5 => ?_)
        · refine o_iload_n hC dX7_greatestDigit_25 (by rfl) ?_
          refine o_iret hC hB dX7_greatestDigit_26 (Nat.le_of_ble_eq_true rfl) (Nat.le_of_ble_eq_true rfl) ?_
          exact absurd (show nI R ≤ nI 0 from c_5) (nI_ge hz (by omega))
        · refine o_iload_n hC dX7_greatestDigit_8 (by rfl) ?_
          refine o_iload_n hC dX7_greatestDigit_9 (by rfl) ?_
          refine o_bipush (v := nI 10) hC dX7_greatestDigit_10 (by decide +kernel) ?_
          refine o_irem hC dX7_greatestDigit_12 (by decide +kernel) ?_
          rw [pk_rem hR0 (by decide) (by decide)]
          refine o_mmax hC (by exact hB.2.2.2.2.2) (rl_bw 308 (by decide +kernel) (by decide +kernel)) SJ9_max_7cf53 YJ9_max_7cf53.2.1 YJ9_max_7cf53.1 (by rw [hB.2.1]; first | exact Nat.le_of_ble_eq_true rfl | (dsimp only; omega)) (by rw [hB.2.1]; first | exact Nat.le_of_ble_eq_true rfl | (dsimp only; omega)) (by rw [hB.2.1]; first | exact Nat.le_of_ble_eq_true rfl | (dsimp only; omega)) (by rw [hB.2.1]; first | exact Nat.le_of_ble_eq_true rfl | (dsimp only; omega)) dX7_greatestDigit_13 ?_
          rw [nI_if2 (by omega) (by omega)]
          refine o_istore_n hC dX7_greatestDigit_16 (Nat.le_of_ble_eq_true rfl) ?_
          refine o_iload_n hC dX7_greatestDigit_17 (by rfl) ?_
          refine o_bipush (v := nI 10) hC dX7_greatestDigit_18 (by decide +kernel) ?_
          refine o_idiv hC dX7_greatestDigit_20 (by decide +kernel) ?_
          rw [pk_div hR0 (by decide) (by decide)]
          refine o_istore_n hC dX7_greatestDigit_21 (Nat.le_of_ble_eq_true rfl) ?_
          refine o_goto (tgt := 4) hC dX7_greatestDigit_22 (by decide) ?_
          exact ih (R / 10) _ hd1 (by omega) (by omega) (by split <;> omega) (by rw [hs, dg_great, if_neg (by omega)])
  show rl_G X (rl_e D ids H0) 0 [some (.int (nI N)), none, none] [] h n 0 0
  refine o_iconst (v := nI 0) hC dX7_greatestDigit_0 (by decide +kernel) ?_
  refine o_istore_n hC dX7_greatestDigit_1 (Nat.le_of_ble_eq_true rfl) ?_
  refine o_iload_n hC dX7_greatestDigit_2 (by rfl) ?_
  refine o_istore_n hC dX7_greatestDigit_3 (Nat.le_of_ble_eq_true rfl) ?_
  exact loop 7 N 0 hN (by omega) (by decide) (by decide) rfl

set_option maxHeartbeats 4000000 in
set_option maxRecDepth 100000 in
theorem ct_X7_digitCount (l : Launch) (D : va_G) (ids : Nat → ClassId) (H0 : Heap) (h : rl_H) (n : Nat) (N : Nat) (hN : N < 10 ^ 7) : rl_Met l (rl_e D ids H0) rl_BW rl_Ns yX7_digitCount cX7_digitCount 3 (some .int) ({ frames := 1, cells := 0, slots := 0, locals := 40 }) [.int (nI N)] h n (fun v h' n' => v = some (.int (nI (dg_count 7 N 0))) ∧ h' = h ∧ n' = n) := by
  refine rl_Met.of (by decide +kernel) (Nat.le_of_ble_eq_true rfl) ?_
  intro X hC hB
  have loop : ∀ (f R k : Nat), R < 10 ^ f → R < 2147483648 → f ≤ 7 → k + f < 1000 → dg_count 7 N 0 = dg_count f R k → rl_G X (rl_e D ids H0) 4 [some (.int (nI N)), some (.int (nI k)), some (.int (nI R))] [] h n 0 0 := by
    intro f
    induction f with
    | zero =>
      intro R k hR hR0 hk hkf hs
      have hz : R = 0 := by
        rw [Nat.pow_zero] at hR
        omega
      subst hz
      refine o_iload_n hC dX7_digitCount_4 (by rfl) ?_
      refine o_if_le (tgt := 19) hC dX7_digitCount_5 (by decide) (fun c_5 => ?_) (fun c_5 => ?_)
      · refine o_iload_n hC dX7_digitCount_19 (by rfl) ?_
        refine o_iret hC hB dX7_digitCount_20 (Nat.le_of_ble_eq_true rfl) (Nat.le_of_ble_eq_true rfl) ?_
        exact ⟨by rw [hs]; rfl, rfl, rfl⟩
      · exact absurd (by decide +kernel) c_5
    | succ f ih =>
      intro R k hR hR0 hk hkf hs
      rcases Nat.eq_zero_or_pos R with hz | hz
      · subst hz
        refine o_iload_n hC dX7_digitCount_4 (by rfl) ?_
        refine o_if_le (tgt := 19) hC dX7_digitCount_5 (by decide) (fun c_5 => ?_) (fun c_5 => ?_)
        · refine o_iload_n hC dX7_digitCount_19 (by rfl) ?_
          refine o_iret hC hB dX7_digitCount_20 (Nat.le_of_ble_eq_true rfl) (Nat.le_of_ble_eq_true rfl) ?_
          exact ⟨by rw [hs]; rfl, rfl, rfl⟩
        · exact absurd (by decide +kernel) c_5
      · have hd1 : R / 10 < 10 ^ f := by
          rw [Nat.pow_succ] at hR
          omega
        refine o_iload_n hC dX7_digitCount_4 (by rfl) ?_
        refine o_if_le (tgt := 19) hC dX7_digitCount_5 (by decide) (fun c_5 => ?_) (fun c_5 => ?_)
        · refine o_iload_n hC dX7_digitCount_19 (by rfl) ?_
          refine o_iret hC hB dX7_digitCount_20 (Nat.le_of_ble_eq_true rfl) (Nat.le_of_ble_eq_true rfl) ?_
          exact absurd (show nI R ≤ nI 0 from c_5) (nI_ge hz (by omega))
        · refine o_iinc hC dX7_digitCount_8 (by rfl) (rl_inc _) (Nat.le_of_ble_eq_true rfl) ?_
          refine o_iload_n hC dX7_digitCount_11 (by rfl) ?_
          refine o_bipush (v := nI 10) hC dX7_digitCount_12 (by decide +kernel) ?_
          refine o_idiv hC dX7_digitCount_14 (by decide +kernel) ?_
          rw [pk_div hR0 (by decide) (by decide)]
          refine o_istore_n hC dX7_digitCount_15 (Nat.le_of_ble_eq_true rfl) ?_
          refine o_goto (tgt := 4) hC dX7_digitCount_16 (by decide) ?_
          exact ih (R / 10) _ hd1 (by omega) (by omega) (by omega) (by rw [hs, dg_count, if_neg (by omega)])
  show rl_G X (rl_e D ids H0) 0 [some (.int (nI N)), none, none] [] h n 0 0
  refine o_iconst (v := nI 0) hC dX7_digitCount_0 (by decide +kernel) ?_
  refine o_istore_n hC dX7_digitCount_1 (Nat.le_of_ble_eq_true rfl) ?_
  refine o_iload_n hC dX7_digitCount_2 (by rfl) ?_
  refine o_istore_n hC dX7_digitCount_3 (Nat.le_of_ble_eq_true rfl) ?_
  exact loop 7 N 0 hN (by omega) (by decide) (by decide) rfl

set_option maxHeartbeats 4000000 in
set_option maxRecDepth 100000 in
theorem ct_X7_setsWithNone (l : Launch) (D : va_G) (ids : Nat → ClassId) (H0 : Heap) (h : rl_H) (n : Nat) (w k : Nat) (f g : Nat → Int64) (rows : Int32) (hw : ws_at ids h w f g k) : ∀ (j fr : Nat) (a b : Int64), fr + j = k → rl_Met l (rl_e D ids H0) rl_BW rl_Ns yX7_setsWithNone cX7_setsWithNone 12 (some .int) ({ frames := 1 + j, cells := 0, slots := 0, locals := 21 + 31 * j }) [.ref w, .int (nI fr), .long a, .long b, .int rows] h n (fun v h' n' => ∃ x : Int32, v = some (.int x) ∧ h' = h ∧ n' = n) := by
  obtain ⟨w1, w2, w3, w4⟩ := id hw
  intro j
  induction j with
  | zero =>
    intro fr a b hj
    refine rl_Met.of (by decide +kernel) (Nat.le_of_ble_eq_true rfl) ?_
    intro X hC hB
    show rl_G X (rl_e D ids H0) 0 [some (.ref w), some (.int (nI fr)), some (.long a), none, some (.long b), none, some (.int rows), none, none, none, none, none] [] h n 0 0
    refine o_iload_n hC dX7_setsWithNone_0 (by rfl) ?_
    refine o_aload_n hC dX7_setsWithNone_1 (by rfl) ?_
    refine o_getf hC (fX7_163 hC rfl) dX7_setsWithNone_2 (by repeat (first | with_reducible assumption | (rw [rl_u_s]; done) | (rw [rl_u_s]; rfl) | rw [rl_u_n (by first | with_reducible assumption | omega)])) (by first | rfl | with_reducible assumption) ?_
    refine o_icmp_lt (tgt := 21) hC dX7_setsWithNone_5 (by decide) (fun c_5 => ?_) (fun c_5 => ?_)
    · exact absurd c_5 (nI_nlt (by omega) (by omega))
    · refine o_iconst (v := nI 1) hC dX7_setsWithNone_8 (by decide +kernel) ?_
      refine o_iload hC dX7_setsWithNone_9 (by rfl) ?_
      refine o_lload_n hC dX7_setsWithNone_11 (by rfl) ?_
      refine o_lload hC dX7_setsWithNone_12 (by rfl) ?_
      refine o_lor hC dX7_setsWithNone_14 ?_
      refine o_callS1 hC rl_BW_good rl_Ns_nw (by exact hB.2.2.2.2.2) YJ13_bitCount_95d88 SJ13_bitCount_95d88 (mX7_203 hC) (by rw [hB.1]; exact ct_J13_bitCount_95d88 l D ids H0 _ _ _) (Nat.le_of_ble_eq_true rfl) (by rw [hB.2.1]; first | exact Nat.le_of_ble_eq_true rfl | (dsimp only; omega)) (by rw [hB.2.1]; first | exact Nat.le_of_ble_eq_true rfl | (dsimp only; omega)) (by rw [hB.2.1]; first | exact Nat.le_of_ble_eq_true rfl | (dsimp only; omega)) (by rw [hB.2.1]; first | exact Nat.le_of_ble_eq_true rfl | (dsimp only; omega)) dX7_setsWithNone_15 (fun v h_15 n_15 p_15 => ?_)
      obtain ⟨rfl, rfl, rfl⟩ := p_15
      try dsimp only [Option.toList, List.cons_append, List.nil_append]
      refine o_isub hC dX7_setsWithNone_18 ?_
      refine o_ishl hC dX7_setsWithNone_19 ?_
      refine o_iret hC hB dX7_setsWithNone_20 (Nat.le_of_ble_eq_true rfl) (Nat.le_of_ble_eq_true rfl) ?_
      exact ⟨_, rfl, rfl, rfl⟩
  | succ j ih =>
    intro fr a b hj
    refine rl_Met.of (by decide +kernel) (Nat.le_of_ble_eq_true rfl) ?_
    intro X hC hB
    show rl_G X (rl_e D ids H0) 0 [some (.ref w), some (.int (nI fr)), some (.long a), none, some (.long b), none, some (.int rows), none, none, none, none, none] [] h n 0 0
    refine o_iload_n hC dX7_setsWithNone_0 (by rfl) ?_
    refine o_aload_n hC dX7_setsWithNone_1 (by rfl) ?_
    refine o_getf hC (fX7_163 hC rfl) dX7_setsWithNone_2 (by repeat (first | with_reducible assumption | (rw [rl_u_s]; done) | (rw [rl_u_s]; rfl) | rw [rl_u_n (by first | with_reducible assumption | omega)])) (by first | rfl | with_reducible assumption) ?_
    refine o_icmp_lt (tgt := 21) hC dX7_setsWithNone_5 (by decide) (fun c_5 => ?_) (fun c_5 => ?_)
    · refine o_aload_n hC dX7_setsWithNone_21 (by rfl) ?_
      refine o_iload_n hC dX7_setsWithNone_22 (by rfl) ?_
      refine o_iconst (v := nI 1) hC dX7_setsWithNone_23 (by decide +kernel) ?_
      refine o_iadd hC dX7_setsWithNone_24 ?_
      rw [nI_add fr 1]
      refine o_lload_n hC dX7_setsWithNone_25 (by rfl) ?_
      refine o_lload hC dX7_setsWithNone_26 (by rfl) ?_
      refine o_iload hC dX7_setsWithNone_28 (by rfl) ?_
      refine o_callS5 hC rl_BW_good rl_Ns_nw (by exact hB.2.2.2.2.2) YX7_setsWithNone SX7_setsWithNone (mX7_208 hC) (by rw [hB.1]; exact ih (fr + 1) _ _ (by omega)) (Nat.le_of_ble_eq_true rfl) (by rw [hB.2.1]; first | exact Nat.le_of_ble_eq_true rfl | (dsimp only; omega)) (by rw [hB.2.1]; first | exact Nat.le_of_ble_eq_true rfl | (dsimp only; omega)) (by rw [hB.2.1]; first | exact Nat.le_of_ble_eq_true rfl | (dsimp only; omega)) (by rw [hB.2.1]; first | exact Nat.le_of_ble_eq_true rfl | (dsimp only; omega)) dX7_setsWithNone_30 (fun v h_30 n_30 p_30 => ?_)
      obtain ⟨x30, rfl, rfl, rfl⟩ := p_30
      try dsimp only [Option.toList, List.cons_append, List.nil_append]
      refine o_istore hC dX7_setsWithNone_33 (Nat.le_of_ble_eq_true rfl) ?_
      refine o_lload_n hC dX7_setsWithNone_35 (by rfl) ?_
      refine o_aload_n hC dX7_setsWithNone_36 (by rfl) ?_
      refine o_getf hC (fX7_171 hC rfl) dX7_setsWithNone_37 (by repeat (first | with_reducible assumption | (rw [rl_u_s]; done) | (rw [rl_u_s]; rfl) | rw [rl_u_n (by first | with_reducible assumption | omega)])) (by first | rfl | with_reducible assumption) ?_
      refine o_iload_n hC dX7_setsWithNone_40 (by rfl) ?_
      refine o_laldN (t0 := 1) hC rfl dX7_setsWithNone_41 (by repeat (first | with_reducible assumption | (rw [rl_u_s]; done) | (rw [rl_u_s]; rfl) | rw [rl_u_n (by first | with_reducible assumption | omega)])) (by omega) (by decide) ?_
      refine o_lor hC dX7_setsWithNone_42 ?_
      refine o_lstore hC dX7_setsWithNone_43 (Nat.le_of_ble_eq_true rfl) ?_
      refine o_lload hC dX7_setsWithNone_45 (by rfl) ?_
      refine o_aload_n hC dX7_setsWithNone_47 (by rfl) ?_
      refine o_getf hC (fX7_175 hC rfl) dX7_setsWithNone_48 (by repeat (first | with_reducible assumption | (rw [rl_u_s]; done) | (rw [rl_u_s]; rfl) | rw [rl_u_n (by first | with_reducible assumption | omega)])) (by first | rfl | with_reducible assumption) ?_
      refine o_iload_n hC dX7_setsWithNone_51 (by rfl) ?_
      refine o_laldN (t0 := 1) hC rfl dX7_setsWithNone_52 (by repeat (first | with_reducible assumption | (rw [rl_u_s]; done) | (rw [rl_u_s]; rfl) | rw [rl_u_n (by first | with_reducible assumption | omega)])) (by omega) (by decide) ?_
      refine o_lor hC dX7_setsWithNone_53 ?_
      refine o_lstore hC dX7_setsWithNone_54 (Nat.le_of_ble_eq_true rfl) ?_
      refine o_lload hC dX7_setsWithNone_56 (by rfl) ?_
      refine o_lload hC dX7_setsWithNone_58 (by rfl) ?_
      refine o_land hC dX7_setsWithNone_60 ?_
      refine o_lconst (v := 0) hC dX7_setsWithNone_61 (by decide +kernel) ?_
      refine o_lcmp hC dX7_setsWithNone_62 ?_
      refine o_if_eq (tgt := 69) hC dX7_setsWithNone_63 (by decide) (fun c_63 => ?_) (fun c_63 => ?_)
      · refine o_iload hC dX7_setsWithNone_69 (by rfl) ?_
        refine o_aload_n hC dX7_setsWithNone_71 (by rfl) ?_
        refine o_iload_n hC dX7_setsWithNone_72 (by rfl) ?_
        refine o_iconst (v := nI 1) hC dX7_setsWithNone_73 (by decide +kernel) ?_
        refine o_iadd hC dX7_setsWithNone_74 ?_
        rw [nI_add fr 1]
        refine o_lload hC dX7_setsWithNone_75 (by rfl) ?_
        refine o_lload hC dX7_setsWithNone_77 (by rfl) ?_
        refine o_iload hC dX7_setsWithNone_79 (by rfl) ?_
        refine o_callS5 hC rl_BW_good rl_Ns_nw (by exact hB.2.2.2.2.2) YX7_setsWithNone SX7_setsWithNone (mX7_208 hC) (by rw [hB.1]; exact ih (fr + 1) _ _ (by omega)) (Nat.le_of_ble_eq_true rfl) (by rw [hB.2.1]; first | exact Nat.le_of_ble_eq_true rfl | (dsimp only; omega)) (by rw [hB.2.1]; first | exact Nat.le_of_ble_eq_true rfl | (dsimp only; omega)) (by rw [hB.2.1]; first | exact Nat.le_of_ble_eq_true rfl | (dsimp only; omega)) (by rw [hB.2.1]; first | exact Nat.le_of_ble_eq_true rfl | (dsimp only; omega)) dX7_setsWithNone_81 (fun v h_81 n_81 p_81 => ?_)
        obtain ⟨x81, rfl, rfl, rfl⟩ := p_81
        try dsimp only [Option.toList, List.cons_append, List.nil_append]
        refine o_isub hC dX7_setsWithNone_84 ?_
        refine o_iret hC hB dX7_setsWithNone_85 (Nat.le_of_ble_eq_true rfl) (Nat.le_of_ble_eq_true rfl) ?_
        exact ⟨_, rfl, rfl, rfl⟩
      · refine o_iload hC dX7_setsWithNone_66 (by rfl) ?_
        refine o_iret hC hB dX7_setsWithNone_68 (Nat.le_of_ble_eq_true rfl) (Nat.le_of_ble_eq_true rfl) ?_
        exact ⟨_, rfl, rfl, rfl⟩
    · exact absurd (nI_lt (by omega) (by omega)) c_5
end
section
/-! RowLineage.canBreak, Ways.leastDropsToHold -/
theorem tm_first_in (f g : Nat → Int64) (x : Int64) : ∀ (m j : Nat), tm_first f g x m j = -1 ∨ ∃ i, i < j + m ∧ tm_first f g x m j = nI i
  | 0, j => Or.inl rfl
  | m + 1, j => by
    unfold tm_first
    split
    · exact Or.inr ⟨j, by omega, rfl⟩
    · rcases tm_first_in f g x m (j + 1) with q | ⟨i, q1, q2⟩
      · exact Or.inl q
      · exact Or.inr ⟨i, by omega, q2⟩

set_option maxHeartbeats 4000000 in
set_option maxRecDepth 100000 in
theorem ct_X7_canBreak (l : Launch) (D : va_G) (ids : Nat → ClassId) (H0 : Heap) (h : rl_H) (n : Nat) (w k : Nat) (f g : Nat → Int64) (hw : ws_at ids h w f g k) : ∀ (j : Nat) (x : Int64), j ≤ 12 → rl_Met l (rl_e D ids H0) rl_BW rl_Ns yX7_canBreak cX7_canBreak 8 (some .boolean) ({ frames := 1 + j, cells := 0, slots := 0, locals := 23 + 27 * j }) [.ref w, .long x, .int (nI j)] h n (fun v h' n' => ∃ x : Int32, v = some (.int x) ∧ h' = h ∧ n' = n ∧ (x = nI 0 ∨ x = nI 1)) := by
  obtain ⟨w1, w2, w3, w4⟩ := id hw
  intro j
  induction j with
  | zero =>
    intro x hj
    refine rl_Met.of (by decide +kernel) (Nat.le_of_ble_eq_true rfl) ?_
    intro X hC hB
    show rl_G X (rl_e D ids H0) 0 [some (.ref w), some (.long x), none, some (.int (nI 0)), none, none, none, none] [] h n 0 0
    refine o_aload_n hC dX7_canBreak_0 (by rfl) ?_
    refine o_lload_n hC dX7_canBreak_1 (by rfl) ?_
    refine o_callV1 hC rl_BW_good rl_Ns_nw (by exact hB.2.2.2.2.2) YX6_firstThatHolds IX6_firstThatHolds VX6_firstThatHolds (mX7_191 hC) (by rw [hB.1]; exact ct_X6_firstThatHolds l D ids H0 _ _ w k f g x hw) (by exact hw.1) rfl rfl (Nat.le_of_ble_eq_true rfl) (by rw [hB.2.1]; first | exact Nat.le_of_ble_eq_true rfl | (dsimp only; omega)) (by rw [hB.2.1]; first | exact Nat.le_of_ble_eq_true rfl | (dsimp only; omega)) (by rw [hB.2.1]; first | exact Nat.le_of_ble_eq_true rfl | (dsimp only; omega)) (by rw [hB.2.1]; first | exact Nat.le_of_ble_eq_true rfl | (dsimp only; omega)) dX7_canBreak_2 (fun v h_2 n_2 p_2 => ?_)
    obtain ⟨rfl, rfl, rfl⟩ := p_2
    have hti := tm_first_in f g x k 0
    generalize tm_first f g x k 0 = ti at hti ⊢
    try dsimp only [Option.toList, List.cons_append, List.nil_append]
    refine o_istore hC dX7_canBreak_5 (Nat.le_of_ble_eq_true rfl) ?_
    refine o_iload hC dX7_canBreak_7 (by rfl) ?_
    refine o_iconst (v := (-1 : Int32)) hC dX7_canBreak_9 (by decide +kernel) ?_
    refine o_icmp_ne (tgt := 15) hC dX7_canBreak_10 (by decide) (fun c_10 => ?_) (fun c_10 => ?_)
    · refine o_iconst (v := nI 0) hC dX7_canBreak_15 (by decide +kernel) ?_
      refine o_istore hC dX7_canBreak_16 (Nat.le_of_ble_eq_true rfl) ?_
      refine o_iload hC dX7_canBreak_18 (by rfl) ?_
      refine o_bipush (v := nI 36) hC dX7_canBreak_20 (by decide +kernel) ?_
      refine o_icmp_ge (tgt := 76) hC dX7_canBreak_22 (by decide) (fun c_22 => ?_) (fun c_22 => ?_)
      · refine o_iconst (v := nI 0) hC dX7_canBreak_76 (by decide +kernel) ?_
        refine o_zret hC hB dX7_canBreak_77 (by first | rfl | decide +kernel) (Nat.le_of_ble_eq_true rfl) (Nat.le_of_ble_eq_true rfl) ?_
        exact ⟨_, rfl, rfl, rfl, by first | exact Or.inl rfl | exact Or.inr rfl⟩
      · refine o_iload_n hC dX7_canBreak_25 (by rfl) ?_
        refine o_if_le (tgt := 76) hC dX7_canBreak_26 (by decide) (fun c_26 => ?_) (fun c_26 => ?_)
        · refine o_iconst (v := nI 0) hC dX7_canBreak_76 (by decide +kernel) ?_
          refine o_zret hC hB dX7_canBreak_77 (by first | rfl | decide +kernel) (Nat.le_of_ble_eq_true rfl) (Nat.le_of_ble_eq_true rfl) ?_
          exact ⟨_, rfl, rfl, rfl, by first | exact Or.inl rfl | exact Or.inr rfl⟩
        · exact absurd (by decide +kernel) c_26
    · refine o_iconst (v := nI 1) hC dX7_canBreak_13 (by decide +kernel) ?_
      refine o_zret hC hB dX7_canBreak_14 (by first | rfl | decide +kernel) (Nat.le_of_ble_eq_true rfl) (Nat.le_of_ble_eq_true rfl) ?_
      exact ⟨_, rfl, rfl, rfl, by first | exact Or.inl rfl | exact Or.inr rfl⟩
  | succ j ih =>
    intro x hj
    refine rl_Met.of (by decide +kernel) (Nat.le_of_ble_eq_true rfl) ?_
    intro X hC hB
    show rl_G X (rl_e D ids H0) 0 [some (.ref w), some (.long x), none, some (.int (nI (j + 1))), none, none, none, none] [] h n 0 0
    refine o_aload_n hC dX7_canBreak_0 (by rfl) ?_
    refine o_lload_n hC dX7_canBreak_1 (by rfl) ?_
    refine o_callV1 hC rl_BW_good rl_Ns_nw (by exact hB.2.2.2.2.2) YX6_firstThatHolds IX6_firstThatHolds VX6_firstThatHolds (mX7_191 hC) (by rw [hB.1]; exact ct_X6_firstThatHolds l D ids H0 _ _ w k f g x hw) (by exact hw.1) rfl rfl (Nat.le_of_ble_eq_true rfl) (by rw [hB.2.1]; first | exact Nat.le_of_ble_eq_true rfl | (dsimp only; omega)) (by rw [hB.2.1]; first | exact Nat.le_of_ble_eq_true rfl | (dsimp only; omega)) (by rw [hB.2.1]; first | exact Nat.le_of_ble_eq_true rfl | (dsimp only; omega)) (by rw [hB.2.1]; first | exact Nat.le_of_ble_eq_true rfl | (dsimp only; omega)) dX7_canBreak_2 (fun v h_2 n_2 p_2 => ?_)
    obtain ⟨rfl, rfl, rfl⟩ := p_2
    have hti := tm_first_in f g x k 0
    generalize tm_first f g x k 0 = ti at hti ⊢
    try dsimp only [Option.toList, List.cons_append, List.nil_append]
    refine o_istore hC dX7_canBreak_5 (Nat.le_of_ble_eq_true rfl) ?_
    refine o_iload hC dX7_canBreak_7 (by rfl) ?_
    refine o_iconst (v := (-1 : Int32)) hC dX7_canBreak_9 (by decide +kernel) ?_
    refine o_icmp_ne (tgt := 15) hC dX7_canBreak_10 (by decide) (fun c_10 => ?_) (fun c_10 => ?_)
    · obtain ⟨i, hi, rfl⟩ := hti.resolve_left c_10
      have loop : ∀ (m r : Nat) (o6 : Option Value), r + m = 36 → rl_G X (rl_e D ids H0) 18 [some (.ref w), some (.long x), none, some (.int (nI (j + 1))), some (.int (nI i)), some (.int (nI r)), o6, none] [] h_2 n_2 (0 + 0) (0 + 0) := by
        intro m
        induction m with
        | zero =>
          intro r o6 hm
          refine o_iload hC dX7_canBreak_18 (by rfl) ?_
          refine o_bipush (v := nI 36) hC dX7_canBreak_20 (by decide +kernel) ?_
          refine o_icmp_ge (tgt := 76) hC dX7_canBreak_22 (by decide) (fun c_22 => ?_) (fun c_22 => ?_)
          · refine o_iconst (v := nI 0) hC dX7_canBreak_76 (by decide +kernel) ?_
            refine o_zret hC hB dX7_canBreak_77 (by first | rfl | decide +kernel) (Nat.le_of_ble_eq_true rfl) (Nat.le_of_ble_eq_true rfl) ?_
            exact ⟨_, rfl, rfl, rfl, by first | exact Or.inl rfl | exact Or.inr rfl⟩
          · exact absurd (nI_le (by omega) (by omega)) c_22
        | succ m ihm =>
          intro r o6 hm
          refine o_iload hC dX7_canBreak_18 (by rfl) ?_
          refine o_bipush (v := nI 36) hC dX7_canBreak_20 (by decide +kernel) ?_
          refine o_icmp_ge (tgt := 76) hC dX7_canBreak_22 (by decide) (fun c_22 => ?_) (fun c_22 => ?_)
          · refine o_iconst (v := nI 0) hC dX7_canBreak_76 (by decide +kernel) ?_
            refine o_zret hC hB dX7_canBreak_77 (by first | rfl | decide +kernel) (Nat.le_of_ble_eq_true rfl) (Nat.le_of_ble_eq_true rfl) ?_
            exact ⟨_, rfl, rfl, rfl, by first | exact Or.inl rfl | exact Or.inr rfl⟩
          · refine o_iload_n hC dX7_canBreak_25 (by rfl) ?_
            refine o_if_le (tgt := 76) hC dX7_canBreak_26 (by decide) (fun c_26 => ?_) (fun c_26 => ?_)
            · refine o_iconst (v := nI 0) hC dX7_canBreak_76 (by decide +kernel) ?_
              refine o_zret hC hB dX7_canBreak_77 (by first | rfl | decide +kernel) (Nat.le_of_ble_eq_true rfl) (Nat.le_of_ble_eq_true rfl) ?_
              exact ⟨_, rfl, rfl, rfl, by first | exact Or.inl rfl | exact Or.inr rfl⟩
            · refine o_lconst (v := 1) hC dX7_canBreak_29 (by decide +kernel) ?_
              refine o_iload hC dX7_canBreak_30 (by rfl) ?_
              refine o_lshl hC dX7_canBreak_32 ?_
              refine o_lstore hC dX7_canBreak_33 (Nat.le_of_ble_eq_true rfl) ?_
              refine o_aload_n hC dX7_canBreak_35 (by rfl) ?_
              refine o_getf hC (fX7_171 hC rfl) dX7_canBreak_36 (by repeat (first | with_reducible assumption | (rw [rl_u_s]; done) | (rw [rl_u_s]; rfl) | rw [rl_u_n (by first | with_reducible assumption | omega)])) (by first | rfl | with_reducible assumption) ?_
              refine o_iload hC dX7_canBreak_39 (by rfl) ?_
              refine o_laldN (t0 := 1) hC rfl dX7_canBreak_41 (by repeat (first | with_reducible assumption | (rw [rl_u_s]; done) | (rw [rl_u_s]; rfl) | rw [rl_u_n (by first | with_reducible assumption | omega)])) (by omega) (by decide) ?_
              refine o_lload hC dX7_canBreak_42 (by rfl) ?_
              refine o_land hC dX7_canBreak_44 ?_
              refine o_lconst (v := 0) hC dX7_canBreak_45 (by decide +kernel) ?_
              refine o_lcmp hC dX7_canBreak_46 ?_
              refine o_if_eq (tgt := 70) hC dX7_canBreak_47 (by decide) (fun c_47 => ?_) (fun c_47 => ?_)
              · refine o_iinc hC dX7_canBreak_70 (by rfl) (rl_inc _) (Nat.le_of_ble_eq_true rfl) ?_
                refine o_goto (tgt := 18) hC dX7_canBreak_73 (by decide) ?_
                exact ihm (r + 1) _ (by omega)
              · refine o_aload_n hC dX7_canBreak_50 (by rfl) ?_
                refine o_lload_n hC dX7_canBreak_51 (by rfl) ?_
                refine o_lload hC dX7_canBreak_52 (by rfl) ?_
                refine o_ldc2 hC nX7_181 dX7_canBreak_54 ?_
                refine o_lxor hC dX7_canBreak_57 ?_
                refine o_land hC dX7_canBreak_58 ?_
                refine o_iload_n hC dX7_canBreak_59 (by rfl) ?_
                refine o_iconst (v := nI 1) hC dX7_canBreak_60 (by decide +kernel) ?_
                refine o_isub hC dX7_canBreak_61 ?_
                rw [rl_pred j]
                refine o_callS3 hC rl_BW_good rl_Ns_nw (by exact hB.2.2.2.2.2) YX7_canBreak SX7_canBreak (mX7_255 hC) (by rw [hB.1]; exact ih _ (by omega)) (Nat.le_of_ble_eq_true rfl) (by rw [hB.2.1]; first | exact Nat.le_of_ble_eq_true rfl | (dsimp only; omega)) (by rw [hB.2.1]; first | exact Nat.le_of_ble_eq_true rfl | (dsimp only; omega)) (by rw [hB.2.1]; first | exact Nat.le_of_ble_eq_true rfl | (dsimp only; omega)) (by rw [hB.2.1]; first | exact Nat.le_of_ble_eq_true rfl | (dsimp only; omega)) dX7_canBreak_62 (fun v h_62 n_62 p_62 => ?_)
                obtain ⟨x62, rfl, rfl, rfl, -⟩ := p_62
                try dsimp only [Option.toList, List.cons_append, List.nil_append]
                refine o_if_eq (tgt := 70) hC dX7_canBreak_65 (by decide) (fun c_65 => ?_) (fun c_65 => ?_)
                · refine o_iinc hC dX7_canBreak_70 (by rfl) (rl_inc _) (Nat.le_of_ble_eq_true rfl) ?_
                  refine o_goto (tgt := 18) hC dX7_canBreak_73 (by decide) ?_
                  exact ihm (r + 1) _ (by omega)
                · refine o_iconst (v := nI 1) hC dX7_canBreak_68 (by decide +kernel) ?_
                  refine o_zret hC hB dX7_canBreak_69 (by first | rfl | decide +kernel) (Nat.le_of_ble_eq_true rfl) (Nat.le_of_ble_eq_true rfl) ?_
                  exact ⟨_, rfl, rfl, rfl, by first | exact Or.inl rfl | exact Or.inr rfl⟩
      refine o_iconst (v := nI 0) hC dX7_canBreak_15 (by decide +kernel) ?_
      refine o_istore hC dX7_canBreak_16 (Nat.le_of_ble_eq_true rfl) ?_
      exact loop 36 0 _ (by omega)
    · refine o_iconst (v := nI 1) hC dX7_canBreak_13 (by decide +kernel) ?_
      refine o_zret hC hB dX7_canBreak_14 (by first | rfl | decide +kernel) (Nat.le_of_ble_eq_true rfl) (Nat.le_of_ble_eq_true rfl) ?_
      exact ⟨_, rfl, rfl, rfl, by first | exact Or.inl rfl | exact Or.inr rfl⟩

set_option maxHeartbeats 4000000 in
set_option maxRecDepth 100000 in
theorem ct_X6_leastDropsToHold (l : Launch) (D : va_G) (ids : Nat → ClassId) (H0 : Heap) (h : rl_H) (n : Nat) (w k : Nat) (f g : Nat → Int64) (x : Int64) (hw : ws_at ids h w f g k) : rl_Met l (rl_e D ids H0) rl_BW rl_Ns yX6_leastDropsToHold cX6_leastDropsToHold 6 (some .int) ({ frames := 1, cells := 0, slots := 0, locals := 21 }) [.ref w, .long x] h n (fun v h' n' => ∃ x : Int32, v = some (.int x) ∧ h' = h ∧ n' = n) := by
  obtain ⟨w1, w2, w3, w4⟩ := id hw
  refine rl_Met.of (by decide +kernel) (Nat.le_of_ble_eq_true rfl) ?_
  intro X hC hB
  have loop : ∀ (m j : Nat) (c : Int32) (o5 : Option Value), j + m = k → rl_G X (rl_e D ids H0) 5 [some (.ref w), some (.long x), none, some (.int c), some (.int (nI j)), o5] [] h n 0 0 := by
    intro m
    induction m with
    | zero =>
      intro j c o5 hm
      refine o_iload hC dX6_leastDropsToHold_5 (by rfl) ?_
      refine o_aload_n hC dX6_leastDropsToHold_7 (by rfl) ?_
      refine o_getf hC (fX6_18 hC rfl) dX6_leastDropsToHold_8 (by repeat (first | with_reducible assumption | (rw [rl_u_s]; done) | (rw [rl_u_s]; rfl) | rw [rl_u_n (by first | with_reducible assumption | omega)])) (by first | rfl | with_reducible assumption) ?_
      refine o_icmp_ge (tgt := 66) hC dX6_leastDropsToHold_11 (by decide) (fun c_11 => ?_) (fun c_11 => ?_)
      · refine o_iload_n hC dX6_leastDropsToHold_66 (by rfl) ?_
        refine o_iret hC hB dX6_leastDropsToHold_67 (Nat.le_of_ble_eq_true rfl) (Nat.le_of_ble_eq_true rfl) ?_
        exact ⟨_, rfl, rfl, rfl⟩
      · exact absurd (nI_le (by omega) (by omega)) c_11
    | succ m ih =>
      intro j c o5 hm
      refine o_iload hC dX6_leastDropsToHold_5 (by rfl) ?_
      refine o_aload_n hC dX6_leastDropsToHold_7 (by rfl) ?_
      refine o_getf hC (fX6_18 hC rfl) dX6_leastDropsToHold_8 (by repeat (first | with_reducible assumption | (rw [rl_u_s]; done) | (rw [rl_u_s]; rfl) | rw [rl_u_n (by first | with_reducible assumption | omega)])) (by first | rfl | with_reducible assumption) ?_
      refine o_icmp_ge (tgt := 66) hC dX6_leastDropsToHold_11 (by decide) (fun c_11 => ?_) (fun c_11 => ?_)
      · exact absurd c_11 (nI_ge (by omega) (by omega))
      · refine o_aload_n hC dX6_leastDropsToHold_14 (by rfl) ?_
        refine o_getf hC (fX6_15 hC rfl) dX6_leastDropsToHold_15 (by repeat (first | with_reducible assumption | (rw [rl_u_s]; done) | (rw [rl_u_s]; rfl) | rw [rl_u_n (by first | with_reducible assumption | omega)])) (by first | rfl | with_reducible assumption) ?_
        refine o_iload hC dX6_leastDropsToHold_18 (by rfl) ?_
        refine o_laldN (t0 := 1) hC rfl dX6_leastDropsToHold_20 (by repeat (first | with_reducible assumption | (rw [rl_u_s]; done) | (rw [rl_u_s]; rfl) | rw [rl_u_n (by first | with_reducible assumption | omega)])) (by omega) (by decide) ?_
        refine o_lload_n hC dX6_leastDropsToHold_21 (by rfl) ?_
        refine o_land hC dX6_leastDropsToHold_22 ?_
        refine o_callS1 hC rl_BW_good rl_Ns_nw (by exact hB.2.2.2.2.2) YJ13_bitCount_95d88 SJ13_bitCount_95d88 (mX6_32 hC) (by rw [hB.1]; exact ct_J13_bitCount_95d88 l D ids H0 _ _ _) (Nat.le_of_ble_eq_true rfl) (by rw [hB.2.1]; first | exact Nat.le_of_ble_eq_true rfl | (dsimp only; omega)) (by rw [hB.2.1]; first | exact Nat.le_of_ble_eq_true rfl | (dsimp only; omega)) (by rw [hB.2.1]; first | exact Nat.le_of_ble_eq_true rfl | (dsimp only; omega)) (by rw [hB.2.1]; first | exact Nat.le_of_ble_eq_true rfl | (dsimp only; omega)) dX6_leastDropsToHold_23 (fun v h_23 n_23 p_23 => ?_)
        obtain ⟨rfl, rfl, rfl⟩ := p_23
        try dsimp only [Option.toList, List.cons_append, List.nil_append]
        refine o_istore hC dX6_leastDropsToHold_26 (Nat.le_of_ble_eq_true rfl) ?_
        refine o_aload_n hC dX6_leastDropsToHold_28 (by rfl) ?_
        refine o_getf hC (fX6_9 hC rfl) dX6_leastDropsToHold_29 (by repeat (first | with_reducible assumption | (rw [rl_u_s]; done) | (rw [rl_u_s]; rfl) | rw [rl_u_n (by first | with_reducible assumption | omega)])) (by first | rfl | with_reducible assumption) ?_
        refine o_iload hC dX6_leastDropsToHold_32 (by rfl) ?_
        refine o_laldN (t0 := 1) hC rfl dX6_leastDropsToHold_34 (by repeat (first | with_reducible assumption | (rw [rl_u_s]; done) | (rw [rl_u_s]; rfl) | rw [rl_u_n (by first | with_reducible assumption | omega)])) (by omega) (by decide) ?_
        refine o_lload_n hC dX6_leastDropsToHold_35 (by rfl) ?_
        refine o_ldc2 hC nX6_26 dX6_leastDropsToHold_36 ?_
        refine o_lxor hC dX6_leastDropsToHold_39 ?_
        refine o_land hC dX6_leastDropsToHold_40 ?_
        refine o_lconst (v := 0) hC dX6_leastDropsToHold_41 (by decide +kernel) ?_
        refine o_lcmp hC dX6_leastDropsToHold_42 ?_
        refine o_if_ne (tgt := 60) hC dX6_leastDropsToHold_43 (by decide) (fun c_43 => ?_) (fun c_43 => ?_)
        · refine o_iinc hC dX6_leastDropsToHold_60 (by rfl) (rl_inc _) (Nat.le_of_ble_eq_true rfl) ?_
          refine o_goto (tgt := 5) hC dX6_leastDropsToHold_63 (by decide) ?_
          exact ih (j + 1) _ _ (by omega)
        · refine o_iload_n hC dX6_leastDropsToHold_46 (by rfl) ?_
          refine o_iconst (v := (-1 : Int32)) hC dX6_leastDropsToHold_47 (by decide +kernel) ?_
          refine o_icmp_eq (tgt := 57) hC dX6_leastDropsToHold_48 (by decide) (fun c_48 => ?_) (fun c_48 => ?_)
          · refine o_iload hC dX6_leastDropsToHold_57 (by rfl) ?_
            refine o_istore_n hC dX6_leastDropsToHold_59 (Nat.le_of_ble_eq_true rfl) ?_
            refine o_iinc hC dX6_leastDropsToHold_60 (by rfl) (rl_inc _) (Nat.le_of_ble_eq_true rfl) ?_
            refine o_goto (tgt := 5) hC dX6_leastDropsToHold_63 (by decide) ?_
            exact ih (j + 1) _ _ (by omega)
          · refine o_iload hC dX6_leastDropsToHold_51 (by rfl) ?_
            refine o_iload_n hC dX6_leastDropsToHold_53 (by rfl) ?_
            refine o_icmp_ge (tgt := 60) hC dX6_leastDropsToHold_54 (by decide) (fun c_54 => ?_) (fun c_54 => ?_)
            · refine o_iinc hC dX6_leastDropsToHold_60 (by rfl) (rl_inc _) (Nat.le_of_ble_eq_true rfl) ?_
              refine o_goto (tgt := 5) hC dX6_leastDropsToHold_63 (by decide) ?_
              exact ih (j + 1) _ _ (by omega)
            · refine o_iload hC dX6_leastDropsToHold_57 (by rfl) ?_
              refine o_istore_n hC dX6_leastDropsToHold_59 (Nat.le_of_ble_eq_true rfl) ?_
              refine o_iinc hC dX6_leastDropsToHold_60 (by rfl) (rl_inc _) (Nat.le_of_ble_eq_true rfl) ?_
              refine o_goto (tgt := 5) hC dX6_leastDropsToHold_63 (by decide) ?_
              exact ih (j + 1) _ _ (by omega)
  show rl_G X (rl_e D ids H0) 0 [some (.ref w), some (.long x), none, none, none, none] [] h n 0 0
  refine o_iconst (v := (-1 : Int32)) hC dX6_leastDropsToHold_0 (by decide +kernel) ?_
  refine o_istore_n hC dX6_leastDropsToHold_1 (Nat.le_of_ble_eq_true rfl) ?_
  refine o_iconst (v := nI 0) hC dX6_leastDropsToHold_2 (by decide +kernel) ?_
  refine o_istore hC dX6_leastDropsToHold_3 (Nat.le_of_ble_eq_true rfl) ?_
  exact loop k 0 _ _ (by omega)
end
section
/-! RowLineage in every state: at x; made Nodes at na k, each with its Table behind it -/
abbrev cl_S : Type := (Nat → Int32) × (Nat → Int32) × (Nat → Nat → Int32) × Nat × Nat
/-- na, made ones, nodeCount, the Nodes' numbers, result, present -/
abbrev cl_N : Type := (Nat → Nat) × Nat × Nat × (Nat → Nat → Int32) × Int32 × Int64
def cl_nd (N : Nat → Nat → Int32) (k : Nat) : va_E := .inr (1, [.int (N k 0), .int (N k 1), .int (N k 2), .int (N k 3), .int (N k 4), .int (N k 5), .int (N k 6), .int (N k 7), .int (N k 8)])
/-- the shape alone -/
def cl_at (ids : Nat → ClassId) (h : rl_H) (x : Nat) (s : cl_S) (c : cl_N) : Prop :=
  h x = some (.inr (7, [.ref (x + 1), .ref (x + 41), .ref (x + 63), .ref (x + 64), .ref (x + 65), .ref (x + 67), .int (nI c.2.2.1), .int c.2.2.2.2.1, .long c.2.2.2.2.2])) ∧ so_at ids h (x + 1) s.1 s.2.1 s.2.2.1 s.2.2.2.1 s.2.2.2.2 ∧ (∃ gp : Nat → Option Nat, op_sh ids h (x + 41) (x + 1) gp) ∧
  (∃ p : Nat → Option Nat, h (x + 63) = some (.inl (ids 5, 16, .inr (.inr (.inr (.inr p))))) ∧ ∀ k, k < 16 → p k = if k < c.2.1 then some (c.1 k) else none) ∧
  (∃ p : Nat → Option Nat, h (x + 64) = some (.inl (ids 6, 16, .inr (.inr (.inr (.inr p))))) ∧ ∀ k, k < 16 → p k = if k < c.2.1 then some (c.1 k + 1) else none) ∧
  h (x + 65) = some (.inr (4, [.ref (x + 66), .int (nI 0), .int (nI 0)])) ∧ ws_ok ids h (x + 67) ∧ c.2.2.1 ≤ c.2.1 ∧ c.2.1 ≤ 16 ∧
  (∀ k, k < c.2.1 → h (c.1 k) = some (cl_nd c.2.2.2.1 k)) ∧ (∀ k, k < c.2.1 → ∃ wd, tb_ok ids h (c.1 k + 1) wd) ∧ (∀ k, k < c.2.1 → x + 70 ≤ c.1 k) ∧ (∀ i j, i < j → j < c.2.1 → c.1 i + 403 ≤ c.1 j)
theorem nI_inj2 {a b : Nat} (ha : a < 2147483648) (hb : b < 2147483648) (h : nI a = nI b) : a = b := by
  rcases Nat.lt_trichotomy a b with q | q | q
  · exact absurd (by rw [h]; exact Int32.le_refl _) (nI_ge q hb)
  · exact q
  · exact absurd (by rw [h]; exact Int32.le_refl _) (nI_ge q ha)
theorem nI_of_lt {q : Int32} {k : Nat} (hk : k < 2147483648) (h1 : ¬ q < 0) (h2 : ¬ nI k ≤ q) : ∃ j : Nat, j < k ∧ q = nI j := by
  obtain ⟨j, hj, rfl⟩ := nI_of2 (M := nI k) (nI_toInt hk) h1 (Int32.le_of_lt (Int32.not_le.mp h2))
  refine ⟨j, ?_, rfl⟩
  rcases Nat.lt_or_ge j k with z | z
  · exact z
  · exact absurd (nI_le z (by omega)) h2

set_option maxHeartbeats 4000000 in
set_option maxRecDepth 100000 in
theorem cg_X7_isNode (l : Launch) (D : va_G) (ids : Nat → ClassId) (H0 : Heap) (h : rl_H) (n : Nat) (x : Nat) (s : cl_S) (c : cl_N) (q : Int32) (hc : cl_at ids h x s c) : rl_Met l (rl_e D ids H0) rl_BW rl_Ns yX7_isNode cX7_isNode 2 (some .boolean) ({ frames := 0, cells := 0, slots := 0, locals := 0 }) [.ref x, .int q] h n (fun v h' n' => ∃ z : Int32, v = some (.int z) ∧ h' = h ∧ n' = n ∧ ((z = nI 0 ∧ ¬ (∃ j : Nat, j < c.2.2.1 ∧ q = nI j)) ∨ (z = nI 1 ∧ (∃ j : Nat, j < c.2.2.1 ∧ q = nI j)))) := by
  obtain ⟨c1, c2, c3, ⟨pn, c4, c5⟩, ⟨pt, c6, c7⟩, c8, c9, c10, c11, c12, c13, c14, c15⟩ := id hc
  refine rl_Met.of (by decide +kernel) (Nat.le_of_ble_eq_true rfl) ?_
  intro X hC hB
  show rl_G X (rl_e D ids H0) 0 [some (.ref x), some (.int q)] [] h n 0 0
  refine o_iload_n hC dX7_isNode_0 (by rfl) ?_
  refine o_if_lt (tgt := 16) hC dX7_isNode_1 (by decide) (fun c_1 => ?_) (fun c_1 => ?_)
  · refine o_iconst (v := nI 0) hC dX7_isNode_16 (by decide +kernel) ?_
    refine o_zret hC hB dX7_isNode_17 (by first | rfl | decide +kernel) (Nat.le_of_ble_eq_true rfl) (Nat.le_of_ble_eq_true rfl) ?_
    first
    | exact ⟨_, rfl, rfl, rfl, Or.inr ⟨rfl, nI_of_lt (by omega) c_1 c_9⟩⟩
    | exact ⟨_, rfl, rfl, rfl, Or.inl ⟨rfl, fun ⟨j, hj, e⟩ => absurd c_1 (by rw [e]; exact nI_pos (by omega))⟩⟩
    | exact ⟨_, rfl, rfl, rfl, Or.inl ⟨rfl, fun ⟨j, hj, e⟩ => absurd c_9 (by rw [e]; exact nI_ge hj (by omega))⟩⟩
  · refine o_iload_n hC dX7_isNode_4 (by rfl) ?_
    refine o_aload_n hC dX7_isNode_5 (by rfl) ?_
    refine o_getf hC (fX7_78 hC rfl) dX7_isNode_6 (by repeat (first | with_reducible assumption | (rw [rl_u_s]; done) | (rw [rl_u_s]; rfl) | rw [rl_u_n (by first | with_reducible assumption | omega)])) (by first | rfl | with_reducible assumption) ?_
    refine o_icmp_ge (tgt := 16) hC dX7_isNode_9 (by decide) (fun c_9 => ?_) (fun c_9 => ?_)
    · refine o_iconst (v := nI 0) hC dX7_isNode_16 (by decide +kernel) ?_
      refine o_zret hC hB dX7_isNode_17 (by first | rfl | decide +kernel) (Nat.le_of_ble_eq_true rfl) (Nat.le_of_ble_eq_true rfl) ?_
      first
      | exact ⟨_, rfl, rfl, rfl, Or.inr ⟨rfl, nI_of_lt (by omega) c_1 c_9⟩⟩
      | exact ⟨_, rfl, rfl, rfl, Or.inl ⟨rfl, fun ⟨j, hj, e⟩ => absurd c_1 (by rw [e]; exact nI_pos (by omega))⟩⟩
      | exact ⟨_, rfl, rfl, rfl, Or.inl ⟨rfl, fun ⟨j, hj, e⟩ => absurd c_9 (by rw [e]; exact nI_ge hj (by omega))⟩⟩
    · refine o_iconst (v := nI 1) hC dX7_isNode_12 (by decide +kernel) ?_
      refine o_goto (tgt := 17) hC dX7_isNode_13 (by decide) ?_
      refine o_zret hC hB dX7_isNode_17 (by first | rfl | decide +kernel) (Nat.le_of_ble_eq_true rfl) (Nat.le_of_ble_eq_true rfl) ?_
      first
      | exact ⟨_, rfl, rfl, rfl, Or.inr ⟨rfl, nI_of_lt (by omega) c_1 c_9⟩⟩
      | exact ⟨_, rfl, rfl, rfl, Or.inl ⟨rfl, fun ⟨j, hj, e⟩ => absurd c_1 (by rw [e]; exact nI_pos (by omega))⟩⟩
      | exact ⟨_, rfl, rfl, rfl, Or.inl ⟨rfl, fun ⟨j, hj, e⟩ => absurd c_9 (by rw [e]; exact nI_ge hj (by omega))⟩⟩

set_option maxHeartbeats 4000000 in
set_option maxRecDepth 100000 in
theorem cg_X7_tableOf (l : Launch) (D : va_G) (ids : Nat → ClassId) (H0 : Heap) (h : rl_H) (n : Nat) (x : Nat) (s : cl_S) (c : cl_N) (q : Int32) (hc : cl_at ids h x s c) : rl_Met l (rl_e D ids H0) rl_BW rl_Ns yX7_tableOf cX7_tableOf 2 (some (.object "RowLineage$Table")) ({ frames := 1, cells := 0, slots := 0, locals := 21 }) [.ref x, .int q] h n (fun v h' n' => ∃ z : Nat, v = some (.ref z) ∧ h' = h ∧ n' = n ∧ ((z = x + 65 ∧ ¬ (∃ j : Nat, j < c.2.2.1 ∧ q = nI j)) ∨ ∃ j : Nat, j < c.2.2.1 ∧ q = nI j ∧ z = c.1 j + 1)) := by
  obtain ⟨c1, c2, c3, ⟨pn, c4, c5⟩, ⟨pt, c6, c7⟩, c8, c9, c10, c11, c12, c13, c14, c15⟩ := id hc
  refine rl_Met.of (by decide +kernel) (Nat.le_of_ble_eq_true rfl) ?_
  intro X hC hB
  show rl_G X (rl_e D ids H0) 0 [some (.ref x), some (.int q)] [] h n 0 0
  refine o_aload_n hC dX7_tableOf_0 (by rfl) ?_
  refine o_iload_n hC dX7_tableOf_1 (by rfl) ?_
  refine o_callV1 hC rl_BW_good rl_Ns_nw (by exact hB.2.2.2.2.2) YX7_isNode IX7_isNode VX7_isNode (mX7_100 hC) (by rw [hB.1]; exact cg_X7_isNode l D ids H0 _ _ x s c _ hc) (by exact c1) rfl rfl (Nat.le_of_ble_eq_true rfl) (by rw [hB.2.1]; first | exact Nat.le_of_ble_eq_true rfl | (dsimp only; omega)) (by rw [hB.2.1]; first | exact Nat.le_of_ble_eq_true rfl | (dsimp only; omega)) (by rw [hB.2.1]; first | exact Nat.le_of_ble_eq_true rfl | (dsimp only; omega)) (by rw [hB.2.1]; first | exact Nat.le_of_ble_eq_true rfl | (dsimp only; omega)) dX7_tableOf_2 (fun v h_2 n_2 p_2 => ?_)
  obtain ⟨z, rfl, rfl, rfl, hz⟩ := p_2
  try dsimp only [Option.toList, List.cons_append, List.nil_append]
  refine o_if_eq (tgt := 17) hC dX7_tableOf_5 (by decide) (fun c_5 => ?_) (fun c_5 => ?_)
  · refine o_aload_n hC dX7_tableOf_17 (by rfl) ?_
    refine o_getf hC (fX7_38 hC rfl) dX7_tableOf_18 (by repeat (first | with_reducible assumption | (rw [rl_u_s]; done) | (rw [rl_u_s]; rfl) | rw [rl_u_n (by first | with_reducible assumption | omega)])) (by first | rfl | with_reducible assumption) ?_
    refine o_aret hC hB (by first | exact Or.inl ⟨_, rfl⟩ | exact Or.inr ⟨_, rfl⟩) (by first | exact Or.inl rfl | exact Or.inr ⟨_, rfl⟩) dX7_tableOf_21 (Nat.le_of_ble_eq_true rfl) (Nat.le_of_ble_eq_true rfl) ?_
    first
    | exact ⟨_, rfl, rfl, rfl, Or.inr ⟨j, hj, rfl, rfl⟩⟩
    | exact ⟨_, rfl, rfl, rfl, Or.inl ⟨rfl, hz.elim (fun q => q.2) (fun q => absurd (c_5.symm.trans q.1) (by decide +kernel))⟩⟩
  · obtain ⟨j, hj, rfl⟩ : (∃ j : Nat, j < c.2.2.1 ∧ q = nI j) := hz.elim (fun q => absurd q.1 c_5) (fun q => q.2)
    refine o_aload_n hC dX7_tableOf_8 (by rfl) ?_
    refine o_getf hC (fX7_31 hC rfl) dX7_tableOf_9 (by repeat (first | with_reducible assumption | (rw [rl_u_s]; done) | (rw [rl_u_s]; rfl) | rw [rl_u_n (by first | with_reducible assumption | omega)])) (by first | rfl | with_reducible assumption) ?_
    refine o_iload_n hC dX7_tableOf_12 (by rfl) ?_
    refine o_aaldN (t0 := 6) (k := j) hC rfl dX7_tableOf_13 c6 (by omega) (by decide) ?_
    rw [c7 j (by omega), if_pos (by omega)]
    show rl_G X _ _ _ (.ref _ :: _) _ _ _ _
    refine o_goto (tgt := 21) hC dX7_tableOf_14 (by decide) ?_
    refine o_aret hC hB (by first | exact Or.inl ⟨_, rfl⟩ | exact Or.inr ⟨_, rfl⟩) (by first | exact Or.inl rfl | exact Or.inr ⟨_, rfl⟩) dX7_tableOf_21 (Nat.le_of_ble_eq_true rfl) (Nat.le_of_ble_eq_true rfl) ?_
    first
    | exact ⟨_, rfl, rfl, rfl, Or.inr ⟨j, hj, rfl, rfl⟩⟩
    | exact ⟨_, rfl, rfl, rfl, Or.inl ⟨rfl, hz.elim (fun q => q.2) (fun q => absurd (c_5.symm.trans q.1) (by decide +kernel))⟩⟩

set_option maxHeartbeats 4000000 in
set_option maxRecDepth 100000 in
theorem cg_X7_bitOfNode (l : Launch) (D : va_G) (ids : Nat → ClassId) (H0 : Heap) (h : rl_H) (n : Nat) (x : Nat) (s : cl_S) (c : cl_N) (q : Int32) (hc : cl_at ids h x s c) : rl_Met l (rl_e D ids H0) rl_BW rl_Ns yX7_bitOfNode cX7_bitOfNode 2 (some .long) ({ frames := 1, cells := 0, slots := 0, locals := 21 }) [.ref x, .int q] h n (fun v h' n' => ∃ z : Int64, v = some (.long z) ∧ h' = h ∧ n' = n) := by
  obtain ⟨c1, c2, c3, ⟨pn, c4, c5⟩, ⟨pt, c6, c7⟩, c8, c9, c10, c11, c12, c13, c14, c15⟩ := id hc
  refine rl_Met.of (by decide +kernel) (Nat.le_of_ble_eq_true rfl) ?_
  intro X hC hB
  show rl_G X (rl_e D ids H0) 0 [some (.ref x), some (.int q)] [] h n 0 0
  refine o_aload_n hC dX7_bitOfNode_0 (by rfl) ?_
  refine o_iload_n hC dX7_bitOfNode_1 (by rfl) ?_
  refine o_callV1 hC rl_BW_good rl_Ns_nw (by exact hB.2.2.2.2.2) YX7_isNode IX7_isNode VX7_isNode (mX7_100 hC) (by rw [hB.1]; exact cg_X7_isNode l D ids H0 _ _ x s c _ hc) (by exact c1) rfl rfl (Nat.le_of_ble_eq_true rfl) (by rw [hB.2.1]; first | exact Nat.le_of_ble_eq_true rfl | (dsimp only; omega)) (by rw [hB.2.1]; first | exact Nat.le_of_ble_eq_true rfl | (dsimp only; omega)) (by rw [hB.2.1]; first | exact Nat.le_of_ble_eq_true rfl | (dsimp only; omega)) (by rw [hB.2.1]; first | exact Nat.le_of_ble_eq_true rfl | (dsimp only; omega)) dX7_bitOfNode_2 (fun v h_2 n_2 p_2 => ?_)
  obtain ⟨z, rfl, rfl, rfl, hz⟩ := p_2
  try dsimp only [Option.toList, List.cons_append, List.nil_append]
  refine o_if_eq (tgt := 14) hC dX7_bitOfNode_5 (by decide) (fun c_5 => ?_) (fun c_5 => ?_)
  · refine o_lconst (v := 0) hC dX7_bitOfNode_14 (by decide +kernel) ?_
    refine o_lret hC hB dX7_bitOfNode_15 (Nat.le_of_ble_eq_true rfl) (Nat.le_of_ble_eq_true rfl) ?_
    exact ⟨_, rfl, rfl, rfl⟩
  · refine o_lconst (v := 1) hC dX7_bitOfNode_8 (by decide +kernel) ?_
    refine o_iload_n hC dX7_bitOfNode_9 (by rfl) ?_
    refine o_lshl hC dX7_bitOfNode_10 ?_
    refine o_goto (tgt := 15) hC dX7_bitOfNode_11 (by decide) ?_
    refine o_lret hC hB dX7_bitOfNode_15 (Nat.le_of_ble_eq_true rfl) (Nat.le_of_ble_eq_true rfl) ?_
    exact ⟨_, rfl, rfl, rfl⟩

set_option maxHeartbeats 4000000 in
set_option maxRecDepth 100000 in
theorem cg_X7_hasColumn (l : Launch) (D : va_G) (ids : Nat → ClassId) (H0 : Heap) (h : rl_H) (n : Nat) (x : Nat) (s : cl_S) (c : cl_N) (q k : Int32) (hc : cl_at ids h x s c) : rl_Met l (rl_e D ids H0) rl_BW rl_Ns yX7_hasColumn cX7_hasColumn 3 (some .boolean) ({ frames := 1, cells := 0, slots := 0, locals := 21 }) [.ref x, .int q, .int k] h n (fun v h' n' => ∃ z : Int32, v = some (.int z) ∧ h' = h ∧ n' = n ∧ ((z = nI 0 ∧ ¬ (∃ j : Nat, j < c.2.2.1 ∧ q = nI j ∧ ¬ k < 0 ∧ ¬ c.2.2.2.1 j 1 ≤ k)) ∨ (z = nI 1 ∧ (∃ j : Nat, j < c.2.2.1 ∧ q = nI j ∧ ¬ k < 0 ∧ ¬ c.2.2.2.1 j 1 ≤ k)))) := by
  obtain ⟨c1, c2, c3, ⟨pn, c4, c5⟩, ⟨pt, c6, c7⟩, c8, c9, c10, c11, c12, c13, c14, c15⟩ := id hc
  refine rl_Met.of (by decide +kernel) (Nat.le_of_ble_eq_true rfl) ?_
  intro X hC hB
  show rl_G X (rl_e D ids H0) 0 [some (.ref x), some (.int q), some (.int k)] [] h n 0 0
  refine o_aload_n hC dX7_hasColumn_0 (by rfl) ?_
  refine o_iload_n hC dX7_hasColumn_1 (by rfl) ?_
  refine o_callV1 hC rl_BW_good rl_Ns_nw (by exact hB.2.2.2.2.2) YX7_isNode IX7_isNode VX7_isNode (mX7_100 hC) (by rw [hB.1]; exact cg_X7_isNode l D ids H0 _ _ x s c _ hc) (by exact c1) rfl rfl (Nat.le_of_ble_eq_true rfl) (by rw [hB.2.1]; first | exact Nat.le_of_ble_eq_true rfl | (dsimp only; omega)) (by rw [hB.2.1]; first | exact Nat.le_of_ble_eq_true rfl | (dsimp only; omega)) (by rw [hB.2.1]; first | exact Nat.le_of_ble_eq_true rfl | (dsimp only; omega)) (by rw [hB.2.1]; first | exact Nat.le_of_ble_eq_true rfl | (dsimp only; omega)) dX7_hasColumn_2 (fun v h_2 n_2 p_2 => ?_)
  obtain ⟨z, rfl, rfl, rfl, hz⟩ := p_2
  try dsimp only [Option.toList, List.cons_append, List.nil_append]
  refine o_if_eq (tgt := 29) hC dX7_hasColumn_5 (by decide) (fun c_5 => ?_) (fun c_5 => ?_)
  · refine o_iconst (v := nI 0) hC dX7_hasColumn_29 (by decide +kernel) ?_
    refine o_zret hC hB dX7_hasColumn_30 (by first | rfl | decide +kernel) (Nat.le_of_ble_eq_true rfl) (Nat.le_of_ble_eq_true rfl) ?_
    first
    | exact ⟨_, rfl, rfl, rfl, Or.inr ⟨rfl, j, hj, rfl, c_9, c_22⟩⟩
    | exact ⟨_, rfl, rfl, rfl, Or.inl ⟨rfl, fun ⟨j2, hj2, e, e2, e3⟩ => absurd c_9 e2⟩⟩
    | exact ⟨_, rfl, rfl, rfl, Or.inl ⟨rfl, fun ⟨j2, hj2, e, e2, e3⟩ => absurd c_22 (by rw [nI_inj2 (by omega) (by omega) e]; exact e3)⟩⟩
    | exact ⟨_, rfl, rfl, rfl, Or.inl ⟨rfl, fun ⟨j2, hj2, e, e2, e3⟩ => hz.elim (fun q => q.2 ⟨j2, hj2, e⟩) (fun q => absurd (c_5.symm.trans q.1) (by decide +kernel))⟩⟩
  · obtain ⟨j, hj, rfl⟩ : (∃ j : Nat, j < c.2.2.1 ∧ q = nI j) := hz.elim (fun q => absurd q.1 c_5) (fun q => q.2)
    have m1 := c12 j (by omega)
    unfold cl_nd at m1
    refine o_iload_n hC dX7_hasColumn_8 (by rfl) ?_
    refine o_if_lt (tgt := 29) hC dX7_hasColumn_9 (by decide) (fun c_9 => ?_) (fun c_9 => ?_)
    · refine o_iconst (v := nI 0) hC dX7_hasColumn_29 (by decide +kernel) ?_
      refine o_zret hC hB dX7_hasColumn_30 (by first | rfl | decide +kernel) (Nat.le_of_ble_eq_true rfl) (Nat.le_of_ble_eq_true rfl) ?_
      first
      | exact ⟨_, rfl, rfl, rfl, Or.inr ⟨rfl, j, hj, rfl, c_9, c_22⟩⟩
      | exact ⟨_, rfl, rfl, rfl, Or.inl ⟨rfl, fun ⟨j2, hj2, e, e2, e3⟩ => absurd c_9 e2⟩⟩
      | exact ⟨_, rfl, rfl, rfl, Or.inl ⟨rfl, fun ⟨j2, hj2, e, e2, e3⟩ => absurd c_22 (by rw [nI_inj2 (by omega) (by omega) e]; exact e3)⟩⟩
      | exact ⟨_, rfl, rfl, rfl, Or.inl ⟨rfl, fun ⟨j2, hj2, e, e2, e3⟩ => hz.elim (fun q => q.2 ⟨j2, hj2, e⟩) (fun q => absurd (c_5.symm.trans q.1) (by decide +kernel))⟩⟩
    · refine o_iload_n hC dX7_hasColumn_12 (by rfl) ?_
      refine o_aload_n hC dX7_hasColumn_13 (by rfl) ?_
      refine o_getf hC (fX7_25 hC rfl) dX7_hasColumn_14 (by repeat (first | with_reducible assumption | (rw [rl_u_s]; done) | (rw [rl_u_s]; rfl) | rw [rl_u_n (by first | with_reducible assumption | omega)])) (by first | rfl | with_reducible assumption) ?_
      refine o_iload_n hC dX7_hasColumn_17 (by rfl) ?_
      refine o_aaldN (t0 := 5) (k := j) hC rfl dX7_hasColumn_18 c4 (by omega) (by decide) ?_
      rw [c5 j (by omega), if_pos (by omega)]
      show rl_G X _ _ _ (.ref _ :: _) _ _ _ _
      refine o_getf hC (fX7_97 hC rfl) dX7_hasColumn_19 (by repeat (first | with_reducible assumption | (rw [rl_u_s]; done) | (rw [rl_u_s]; rfl) | rw [rl_u_n (by first | with_reducible assumption | omega)])) (by first | rfl | with_reducible assumption) ?_
      refine o_icmp_ge (tgt := 29) hC dX7_hasColumn_22 (by decide) (fun c_22 => ?_) (fun c_22 => ?_)
      · refine o_iconst (v := nI 0) hC dX7_hasColumn_29 (by decide +kernel) ?_
        refine o_zret hC hB dX7_hasColumn_30 (by first | rfl | decide +kernel) (Nat.le_of_ble_eq_true rfl) (Nat.le_of_ble_eq_true rfl) ?_
        first
        | exact ⟨_, rfl, rfl, rfl, Or.inr ⟨rfl, j, hj, rfl, c_9, c_22⟩⟩
        | exact ⟨_, rfl, rfl, rfl, Or.inl ⟨rfl, fun ⟨j2, hj2, e, e2, e3⟩ => absurd c_9 e2⟩⟩
        | exact ⟨_, rfl, rfl, rfl, Or.inl ⟨rfl, fun ⟨j2, hj2, e, e2, e3⟩ => absurd c_22 (by rw [nI_inj2 (by omega) (by omega) e]; exact e3)⟩⟩
        | exact ⟨_, rfl, rfl, rfl, Or.inl ⟨rfl, fun ⟨j2, hj2, e, e2, e3⟩ => hz.elim (fun q => q.2 ⟨j2, hj2, e⟩) (fun q => absurd (c_5.symm.trans q.1) (by decide +kernel))⟩⟩
      · refine o_iconst (v := nI 1) hC dX7_hasColumn_25 (by decide +kernel) ?_
        refine o_goto (tgt := 30) hC dX7_hasColumn_26 (by decide) ?_
        refine o_zret hC hB dX7_hasColumn_30 (by first | rfl | decide +kernel) (Nat.le_of_ble_eq_true rfl) (Nat.le_of_ble_eq_true rfl) ?_
        first
        | exact ⟨_, rfl, rfl, rfl, Or.inr ⟨rfl, j, hj, rfl, c_9, c_22⟩⟩
        | exact ⟨_, rfl, rfl, rfl, Or.inl ⟨rfl, fun ⟨j2, hj2, e, e2, e3⟩ => absurd c_9 e2⟩⟩
        | exact ⟨_, rfl, rfl, rfl, Or.inl ⟨rfl, fun ⟨j2, hj2, e, e2, e3⟩ => absurd c_22 (by rw [nI_inj2 (by omega) (by omega) e]; exact e3)⟩⟩
        | exact ⟨_, rfl, rfl, rfl, Or.inl ⟨rfl, fun ⟨j2, hj2, e, e2, e3⟩ => hz.elim (fun q => q.2 ⟨j2, hj2, e⟩) (fun q => absurd (c_5.symm.trans q.1) (by decide +kernel))⟩⟩
end
section
/-! RowLineage in every state: resultTuple, forgetWhatNodesGave -/

set_option maxHeartbeats 4000000 in
set_option maxRecDepth 100000 in
theorem cg_X7_resultTuple (l : Launch) (D : va_G) (ids : Nat → ClassId) (H0 : Heap) (h : rl_H) (n : Nat) (x : Nat) (s : cl_S) (c : cl_N) (q : Int32) (hc : cl_at ids h x s c) : rl_Met l (rl_e D ids H0) rl_BW rl_Ns yX7_resultTuple cX7_resultTuple 3 (some (.object "RowLineage$Tuple")) ({ frames := 2, cells := 0, slots := 0, locals := 42 }) [.ref x, .int q] h n (fun v h' n' => ∃ z : Value, v = some z ∧ h' = h ∧ n' = n ∧ (z = .null ∨ ∃ j i : Nat, j < c.2.2.1 ∧ i < 80 ∧ c.2.2.2.2.1 = nI j ∧ z = .ref (c.1 j + 1 + 2 + 5 * i))) := by
  obtain ⟨c1, c2, c3, ⟨pn, c4, c5⟩, ⟨pt, c6, c7⟩, c8, c9, c10, c11, c12, c13, c14, c15⟩ := id hc
  refine rl_Met.of (by decide +kernel) (Nat.le_of_ble_eq_true rfl) ?_
  intro X hC hB
  show rl_G X (rl_e D ids H0) 0 [some (.ref x), some (.int q), none] [] h n 0 0
  refine o_aload_n hC dX7_resultTuple_0 (by rfl) ?_
  refine o_aload_n hC dX7_resultTuple_1 (by rfl) ?_
  refine o_getf hC (fX7_49 hC rfl) dX7_resultTuple_2 (by repeat (first | with_reducible assumption | (rw [rl_u_s]; done) | (rw [rl_u_s]; rfl) | rw [rl_u_n (by first | with_reducible assumption | omega)])) (by first | rfl | with_reducible assumption) ?_
  refine o_callV1 hC rl_BW_good rl_Ns_nw (by exact hB.2.2.2.2.2) YX7_tableOf IX7_tableOf VX7_tableOf (mX7_127 hC) (by rw [hB.1]; exact cg_X7_tableOf l D ids H0 _ _ x s c _ hc) (by exact c1) rfl rfl (Nat.le_of_ble_eq_true rfl) (by rw [hB.2.1]; first | exact Nat.le_of_ble_eq_true rfl | (dsimp only; omega)) (by rw [hB.2.1]; first | exact Nat.le_of_ble_eq_true rfl | (dsimp only; omega)) (by rw [hB.2.1]; first | exact Nat.le_of_ble_eq_true rfl | (dsimp only; omega)) (by rw [hB.2.1]; first | exact Nat.le_of_ble_eq_true rfl | (dsimp only; omega)) dX7_resultTuple_5 (fun v h_5 n_5 p_5 => ?_)
  obtain ⟨z, rfl, rfl, rfl, hz⟩ := p_5
  try dsimp only [Option.toList, List.cons_append, List.nil_append]
  rcases hz with ⟨rfl, -⟩ | ⟨j, hj, e, rfl⟩
  · try dsimp only [Option.toList, List.cons_append, List.nil_append]
    refine o_astore_n hC dX7_resultTuple_8 (Nat.le_of_ble_eq_true rfl) ?_
    refine o_iload_n hC dX7_resultTuple_9 (by rfl) ?_
    refine o_if_lt (tgt := 30) hC dX7_resultTuple_10 (by decide) (fun c_10 => ?_) (fun c_10 => ?_)
    · refine o_null hC dX7_resultTuple_30 ?_
      refine o_aret hC hB (by first | exact Or.inl ⟨_, rfl⟩ | exact Or.inr ⟨_, rfl⟩) (by first | exact Or.inl rfl | exact Or.inr ⟨_, rfl⟩) dX7_resultTuple_31 (Nat.le_of_ble_eq_true rfl) (Nat.le_of_ble_eq_true rfl) ?_
      exact ⟨_, rfl, rfl, rfl, Or.inl rfl⟩
    · refine o_iload_n hC dX7_resultTuple_13 (by rfl) ?_
      refine o_aload_n hC dX7_resultTuple_14 (by rfl) ?_
      refine o_getf hC (fX7_138 hC rfl) dX7_resultTuple_15 (by repeat (first | with_reducible assumption | (rw [rl_u_s]; done) | (rw [rl_u_s]; rfl) | rw [rl_u_n (by first | with_reducible assumption | omega)])) (by first | rfl | with_reducible assumption) ?_
      refine o_icmp_ge (tgt := 30) hC dX7_resultTuple_18 (by decide) (fun c_18 => ?_) (fun c_18 => ?_)
      · refine o_null hC dX7_resultTuple_30 ?_
        refine o_aret hC hB (by first | exact Or.inl ⟨_, rfl⟩ | exact Or.inr ⟨_, rfl⟩) (by first | exact Or.inl rfl | exact Or.inr ⟨_, rfl⟩) dX7_resultTuple_31 (Nat.le_of_ble_eq_true rfl) (Nat.le_of_ble_eq_true rfl) ?_
        exact ⟨_, rfl, rfl, rfl, Or.inl rfl⟩
      · exact absurd (nI_of_lt (by decide) c_10 c_18) (fun ⟨j, hj, _⟩ => absurd hj (by omega))
  · try dsimp only [Option.toList, List.cons_append, List.nil_append]
    obtain ⟨wd, sz, P, S, t1, ⟨tf, t2, t3⟩, t4, t5, t6, t7⟩ := c13 j (by omega)
    refine o_astore_n hC dX7_resultTuple_8 (Nat.le_of_ble_eq_true rfl) ?_
    refine o_iload_n hC dX7_resultTuple_9 (by rfl) ?_
    refine o_if_lt (tgt := 30) hC dX7_resultTuple_10 (by decide) (fun c_10 => ?_) (fun c_10 => ?_)
    · refine o_null hC dX7_resultTuple_30 ?_
      refine o_aret hC hB (by first | exact Or.inl ⟨_, rfl⟩ | exact Or.inr ⟨_, rfl⟩) (by first | exact Or.inl rfl | exact Or.inr ⟨_, rfl⟩) dX7_resultTuple_31 (Nat.le_of_ble_eq_true rfl) (Nat.le_of_ble_eq_true rfl) ?_
      first
      | exact ⟨_, rfl, rfl, rfl, Or.inr ⟨j, P u, hj, t4 u (by omega), e, rfl⟩⟩
      | exact ⟨_, rfl, rfl, rfl, Or.inl rfl⟩
    · refine o_iload_n hC dX7_resultTuple_13 (by rfl) ?_
      refine o_aload_n hC dX7_resultTuple_14 (by rfl) ?_
      refine o_getf hC (fX7_138 hC rfl) dX7_resultTuple_15 (by repeat (first | with_reducible assumption | (rw [rl_u_s]; done) | (rw [rl_u_s]; rfl) | rw [rl_u_n (by first | with_reducible assumption | omega)])) (by first | rfl | with_reducible assumption) ?_
      refine o_icmp_ge (tgt := 30) hC dX7_resultTuple_18 (by decide) (fun c_18 => ?_) (fun c_18 => ?_)
      · refine o_null hC dX7_resultTuple_30 ?_
        refine o_aret hC hB (by first | exact Or.inl ⟨_, rfl⟩ | exact Or.inr ⟨_, rfl⟩) (by first | exact Or.inl rfl | exact Or.inr ⟨_, rfl⟩) dX7_resultTuple_31 (Nat.le_of_ble_eq_true rfl) (Nat.le_of_ble_eq_true rfl) ?_
        first
        | exact ⟨_, rfl, rfl, rfl, Or.inr ⟨j, P u, hj, t4 u (by omega), e, rfl⟩⟩
        | exact ⟨_, rfl, rfl, rfl, Or.inl rfl⟩
      · obtain ⟨u, hu, rfl⟩ := nI_of_lt (k := sz) (by omega) c_10 c_18
        refine o_aload_n hC dX7_resultTuple_21 (by rfl) ?_
        refine o_getf hC (fX7_195 hC rfl) dX7_resultTuple_22 (by repeat (first | with_reducible assumption | (rw [rl_u_s]; done) | (rw [rl_u_s]; rfl) | rw [rl_u_n (by first | with_reducible assumption | omega)])) (by first | rfl | with_reducible assumption) ?_
        refine o_iload_n hC dX7_resultTuple_25 (by rfl) ?_
        refine o_aaldN (t0 := 3) (k := u) hC rfl dX7_resultTuple_26 t2 (by omega) (by decide) ?_
        rw [t3 u (by omega)]
        show rl_G X _ _ _ (.ref _ :: _) _ _ _ _
        refine o_goto (tgt := 31) hC dX7_resultTuple_27 (by decide) ?_
        refine o_aret hC hB (by first | exact Or.inl ⟨_, rfl⟩ | exact Or.inr ⟨_, rfl⟩) (by first | exact Or.inl rfl | exact Or.inr ⟨_, rfl⟩) dX7_resultTuple_31 (Nat.le_of_ble_eq_true rfl) (Nat.le_of_ble_eq_true rfl) ?_
        first
        | exact ⟨_, rfl, rfl, rfl, Or.inr ⟨j, P u, hj, t4 u (by omega), e, rfl⟩⟩
        | exact ⟨_, rfl, rfl, rfl, Or.inl rfl⟩

/-- the first of the Nodes are UNKNOWN again -/
def cl_un (N : Nat → Nat → Int32) (t : Nat) : Nat → Nat → Int32 := fun k i => if k < t ∧ i = 8 then nI 0 else N k i

set_option maxHeartbeats 4000000 in
set_option maxRecDepth 100000 in
theorem cg_X7_forgetWhatNodesGave (l : Launch) (D : va_G) (ids : Nat → ClassId) (H0 : Heap) (h : rl_H) (n : Nat) (x : Nat) (s : cl_S) (c : cl_N) (hc : cl_at ids h x s c) : rl_Met l (rl_e D ids H0) rl_BW rl_Ns yX7_forgetWhatNodesGave cX7_forgetWhatNodesGave 2 none ({ frames := 0, cells := 0, slots := 0, locals := 0 }) [.ref x] h n (fun v h' n' => v = none ∧ n' = n ∧ cl_at ids h' x s (c.1, c.2.1, c.2.2.1, cl_un c.2.2.2.1 c.2.2.1, -1, c.2.2.2.2.2) ∧ ∀ q, (∀ k, k < c.2.2.1 → q ≠ c.1 k) → q ≠ x → h' q = h q) := by
  obtain ⟨c1, c2, c3, ⟨pn, c4, c5⟩, ⟨pt, c6, c7⟩, c8, c9, c10, c11, c12, c13, c14, c15⟩ := id hc
  refine rl_Met.of (by decide +kernel) (Nat.le_of_ble_eq_true rfl) ?_
  intro X hC hB
  have loop : ∀ (m t : Nat) (h1 : rl_H), t + m = c.2.2.1 → (∀ q, (∀ k, k < t → q ≠ c.1 k) → h1 q = h q) → (∀ k, k < t → h1 (c.1 k) = some (cl_nd (cl_un c.2.2.2.1 c.2.2.1) k)) → rl_G X (rl_e D ids H0) 2 [some (.ref x), some (.int (nI t))] [] h1 n 0 0 := by
    intro m
    induction m with
    | zero =>
      intro t h1 hm hf hd
      have f0 : ∀ q, q < x + 70 → h1 q = h q := fun q hq => hf q (fun k hk e => by have := c14 k (by omega); omega)
      have g1 := (f0 x (by omega)).trans c1
      have g4 := (f0 (x + 63) (by omega)).trans c4
      refine o_iload_n hC dX7_forgetWhatNodesGave_2 (by rfl) ?_
      refine o_aload_n hC dX7_forgetWhatNodesGave_3 (by rfl) ?_
      refine o_getf hC (fX7_78 hC rfl) dX7_forgetWhatNodesGave_4 (by repeat (first | with_reducible assumption | (rw [rl_u_s]; done) | (rw [rl_u_s]; rfl) | rw [rl_u_n (by first | with_reducible assumption | omega)])) (by first | rfl | with_reducible assumption) ?_
      refine o_icmp_ge (tgt := 26) hC dX7_forgetWhatNodesGave_7 (by decide) (fun c_7 => ?_) (fun c_7 => ?_)
      · refine o_aload_n hC dX7_forgetWhatNodesGave_26 (by rfl) ?_
        refine o_iconst (v := (-1 : Int32)) hC dX7_forgetWhatNodesGave_27 (by decide +kernel) ?_
        refine o_putf hC (fX7_49 hC rfl) (fwX7 rfl rfl rfl (Or.inl rfl)) dX7_forgetWhatNodesGave_28 (by repeat (first | with_reducible assumption | (rw [rl_u_s]; done) | (rw [rl_u_s]; rfl) | rw [rl_u_n (by first | with_reducible assumption | omega)])) (Nat.le_of_ble_eq_true rfl) ?_
        try simp only [List.set_cons_zero, List.set_cons_succ]
        refine o_vret hC hB dX7_forgetWhatNodesGave_31 (Nat.le_of_ble_eq_true rfl) (Nat.le_of_ble_eq_true rfl) ?_
        have e : t = c.2.2.1 := by omega
        subst e
        have F : ∀ q, (∀ k, k < c.2.2.1 → q ≠ c.1 k) → q ≠ x → rl_u h1 x (.inr (7, [.ref (x + 1), .ref (x + 41), .ref (x + 63), .ref (x + 64), .ref (x + 65), .ref (x + 67), .int (nI c.2.2.1), .int (-1), .long c.2.2.2.2.2])) q = h q := fun q a1 a2 => (rl_u_n a2).trans (hf q a1)
        have F1 : ∀ q, x < q → q < x + 70 → rl_u h1 x (.inr (7, [.ref (x + 1), .ref (x + 41), .ref (x + 63), .ref (x + 64), .ref (x + 65), .ref (x + 67), .int (nI c.2.2.1), .int (-1), .long c.2.2.2.2.2])) q = h q := fun q a1 a2 => F q (fun k hk e => by have := c14 k (by omega); omega) (by omega)
        have F2 : ∀ k q, k < c.2.1 → c.1 k + 1 ≤ q → q < c.1 k + 403 → rl_u h1 x (.inr (7, [.ref (x + 1), .ref (x + 41), .ref (x + 63), .ref (x + 64), .ref (x + 65), .ref (x + 67), .int (nI c.2.2.1), .int (-1), .long c.2.2.2.2.2])) q = h q := fun k q hk a1 a2 => F q (fun i hi e => by
          rcases Nat.lt_trichotomy i k with z | z | z
          · have := c15 i k z hk
            omega
          · subst z
            omega
          · have := c15 k i z (by omega)
            omega) (by have := c14 k hk; omega)
        refine ⟨rfl, rfl, ⟨rl_u_s, c2.eqv (fun q a1 a2 => F1 q (by omega) (by omega)), ⟨c3.choose, c3.choose_spec.eqv (fun q a1 a2 => F1 q (by omega) (by omega))⟩, ⟨pn, (F1 _ (by omega) (by omega)).trans c4, c5⟩, ⟨pt, (F1 _ (by omega) (by omega)).trans c6, c7⟩, (F1 _ (by omega) (by omega)).trans c8, c9.eqv (fun q a1 a2 => F1 q (by omega) (by omega)), c10, c11, fun k hk => ?_, fun k hk => ?_, c14, c15⟩, F⟩
        · have hk : k < c.2.1 := hk
          show rl_u h1 x _ (c.1 k) = some (cl_nd (cl_un c.2.2.2.1 c.2.2.1) k)
          rcases Nat.lt_or_ge k c.2.2.1 with z | z
          · rw [rl_u_n (by have := c14 k hk; omega)]
            exact hd k z
          · refine (F _ (fun i hi e => ?_) (by have := c14 k hk; omega)).trans ((c12 k hk).trans ?_)
            · have := c15 i k (by omega) hk
              omega
            · show some (cl_nd c.2.2.2.1 k) = some (cl_nd (cl_un c.2.2.2.1 c.2.2.1) k)
              unfold cl_nd cl_un
              simp only [Nat.not_lt.mpr z, false_and, if_false]
        · obtain ⟨wd, hw⟩ := c13 k hk
          exact ⟨wd, hw.eqv (fun q a1 a2 => F2 k q hk (by omega) (by omega))⟩
      · exact absurd (nI_le (by omega) (by omega)) c_7
    | succ m ih =>
      intro t h1 hm hf hd
      have f0 : ∀ q, q < x + 70 → h1 q = h q := fun q hq => hf q (fun k hk e => by have := c14 k (by omega); omega)
      have g1 := (f0 x (by omega)).trans c1
      have g4 := (f0 (x + 63) (by omega)).trans c4
      have g5 : h1 (c.1 t) = some (cl_nd c.2.2.2.1 t) := (hf _ (fun k hk e => by have := c15 k t hk (by omega); omega)).trans (c12 t (by omega))
      unfold cl_nd at g5
      refine o_iload_n hC dX7_forgetWhatNodesGave_2 (by rfl) ?_
      refine o_aload_n hC dX7_forgetWhatNodesGave_3 (by rfl) ?_
      refine o_getf hC (fX7_78 hC rfl) dX7_forgetWhatNodesGave_4 (by repeat (first | with_reducible assumption | (rw [rl_u_s]; done) | (rw [rl_u_s]; rfl) | rw [rl_u_n (by first | with_reducible assumption | omega)])) (by first | rfl | with_reducible assumption) ?_
      refine o_icmp_ge (tgt := 26) hC dX7_forgetWhatNodesGave_7 (by decide) (fun c_7 => ?_) (fun c_7 => ?_)
      · exact absurd c_7 (nI_ge (by omega) (by omega))
      · refine o_aload_n hC dX7_forgetWhatNodesGave_10 (by rfl) ?_
        refine o_getf hC (fX7_25 hC rfl) dX7_forgetWhatNodesGave_11 (by repeat (first | with_reducible assumption | (rw [rl_u_s]; done) | (rw [rl_u_s]; rfl) | rw [rl_u_n (by first | with_reducible assumption | omega)])) (by first | rfl | with_reducible assumption) ?_
        refine o_iload_n hC dX7_forgetWhatNodesGave_14 (by rfl) ?_
        refine o_aaldN (t0 := 5) (k := t) hC rfl dX7_forgetWhatNodesGave_15 g4 (by omega) (by decide) ?_
        rw [c5 t (by omega), if_pos (by omega)]
        show rl_G X _ _ _ (.ref _ :: _) _ _ _ _
        refine o_iconst (v := nI 0) hC dX7_forgetWhatNodesGave_16 (by decide +kernel) ?_
        refine o_putf hC (fX7_121 hC rfl) (fwX1 rfl rfl rfl (Or.inl rfl)) dX7_forgetWhatNodesGave_17 (by repeat (first | with_reducible assumption | (rw [rl_u_s]; done) | (rw [rl_u_s]; rfl) | rw [rl_u_n (by first | with_reducible assumption | omega)])) (Nat.le_of_ble_eq_true rfl) ?_
        try simp only [List.set_cons_zero, List.set_cons_succ]
        refine o_iinc hC dX7_forgetWhatNodesGave_20 (by rfl) (rl_inc _) (Nat.le_of_ble_eq_true rfl) ?_
        refine o_goto (tgt := 2) hC dX7_forgetWhatNodesGave_23 (by decide) ?_
        refine ih (t + 1) _ (by omega) (fun q hq => ?_) (fun k hk => ?_)
        · rw [rl_u_n (hq t (by omega))]
          exact hf q (fun k hk => hq k (by omega))
        · by_cases z : k = t
          · subst z
            rw [rl_u_s]
            unfold cl_nd cl_un
            simp only [show k < c.2.2.1 by omega, true_and, if_true]
            rfl
          · rw [rl_u_n (by
              intro e
              rcases Nat.lt_or_ge k t with w | w
              · have := c15 k t w (by omega)
                omega
              · omega)]
            exact hd k (by omega)
  show rl_G X (rl_e D ids H0) 0 [some (.ref x), none] [] h n 0 0
  refine o_iconst (v := nI 0) hC dX7_forgetWhatNodesGave_0 (by decide +kernel) ?_
  refine o_istore_n hC dX7_forgetWhatNodesGave_1 (Nat.le_of_ble_eq_true rfl) ?_
  exact loop c.2.2.1 0 h (by omega) (fun q _ => rfl) (fun k hk => absurd hk (by omega))
end
section
/-! RowLineage in every state: source, columns -/
/-- the sources are others -/
theorem cl_at.so {ids : Nat → ClassId} {h h' : rl_H} {x : Nat} {s s' : cl_S} {c : cl_N} (H : cl_at ids h x s c) (hs : so_at ids h' (x + 1) s'.1 s'.2.1 s'.2.2.1 s'.2.2.2.1 s'.2.2.2.2) (hf : rl_fr h h' (x + 1) (x + 41)) : cl_at ids h' x s' c := by
  obtain ⟨c1, c2, ⟨gp, c3⟩, ⟨pn, c4, c5⟩, ⟨pt, c6, c7⟩, c8, c9, c10, c11, c12, c13, c14, c15⟩ := H
  refine ⟨(hf x (by omega)).trans c1, hs, ⟨gp, c3.eqv (fun q a b => hf q (by omega))⟩, ⟨pn, (hf _ (by omega)).trans c4, c5⟩, ⟨pt, (hf _ (by omega)).trans c6, c7⟩, (hf _ (by omega)).trans c8, c9.eqv (fun q a b => hf q (by omega)), c10, c11, fun k hk => (hf _ (by have := c14 k hk; omega)).trans (c12 k hk), fun k hk => ?_, c14, c15⟩
  obtain ⟨wd, hw⟩ := c13 k hk
  exact ⟨wd, hw.eqv (fun q a b => hf q (by have := c14 k hk; omega))⟩

set_option maxHeartbeats 4000000 in
set_option maxRecDepth 100000 in
theorem cg_X7_source (l : Launch) (D : va_G) (ids : Nat → ClassId) (H0 : Heap) (h : rl_H) (n : Nat) (x : Nat) (s : cl_S) (c : cl_N) (q : Int32) (hc : cl_at ids h x s c) : rl_Met l (rl_e D ids H0) rl_BW rl_Ns yX7_source cX7_source 2 (some .int) ({ frames := 1, cells := 0, slots := 0, locals := 21 }) [.ref x, .int q] h n (fun v h' n' => ∃ z : Int32, v = some (.int z) ∧ n' = n ∧ (((q < nI 1 ∨ ¬ q ≤ nI 4) ∧ z = -2 ∧ h' = h) ∨ (¬ (q < nI 1 ∨ ¬ q ≤ nI 4) ∧ 4 ≤ s.2.2.2.1 ∧ z = -4 ∧ h' = h) ∨ (¬ (q < nI 1 ∨ ¬ q ≤ nI 4) ∧ s.2.2.2.1 < 4 ∧ z = nI s.2.2.2.1 ∧ cl_at ids h' x (upd s.1 s.2.2.2.1 q, s.2.1, s.2.2.1, s.2.2.2.1 + 1, s.2.2.2.2) c ∧ rl_fr h h' (x + 1) (x + 41)))) := by
  obtain ⟨c1, c2, c3, ⟨pn, c4, c5⟩, ⟨pt, c6, c7⟩, c8, c9, c10, c11, c12, c13, c14, c15⟩ := id hc
  obtain ⟨s1, s2, s3, s4, s5, s6, s7⟩ := id c2
  refine rl_Met.of (by decide +kernel) (Nat.le_of_ble_eq_true rfl) ?_
  intro X hC hB
  show rl_G X (rl_e D ids H0) 0 [some (.ref x), some (.int q)] [] h n 0 0
  refine o_iload_n hC dX7_source_0 (by rfl) ?_
  refine o_iconst (v := nI 1) hC dX7_source_1 (by decide +kernel) ?_
  refine o_icmp_lt (tgt := 10) hC dX7_source_2 (by decide) (fun c_2 => ?_) (fun c_2 => ?_)
  · refine o_bipush (v := (-2 : Int32)) hC dX7_source_10 (by decide +kernel) ?_
    refine o_iret hC hB dX7_source_12 (Nat.le_of_ble_eq_true rfl) (Nat.le_of_ble_eq_true rfl) ?_
    first
    | exact ⟨_, rfl, rfl, Or.inl ⟨Or.inl c_2, rfl, rfl⟩⟩
    | exact ⟨_, rfl, rfl, Or.inl ⟨Or.inr c_7, rfl, rfl⟩⟩
    | exact ⟨_, rfl, rfl, Or.inr (Or.inr ⟨fun z => z.elim c_2 (fun z => z c_7), h4, rfl, hc.so (s' := (upd s.1 s.2.2.2.1 q, s.2.1, s.2.2.1, s.2.2.2.1 + 1, s.2.2.2.2)) p1 (p2.wd (by omega) (by omega)), p2.wd (by omega) (by omega)⟩)⟩
    | exact ⟨_, rfl, rfl, Or.inr (Or.inl ⟨fun z => z.elim c_2 (fun z => z c_7), (by rcases Nat.lt_or_ge s.2.2.2.1 4 with z | z; exact absurd (nI_lt z (by decide)) c_21; exact z), rfl, rfl⟩)⟩
  · refine o_iload_n hC dX7_source_5 (by rfl) ?_
    refine o_iconst (v := nI 4) hC dX7_source_6 (by decide +kernel) ?_
    refine o_icmp_le (tgt := 13) hC dX7_source_7 (by decide) (fun c_7 => ?_) (fun c_7 => ?_)
    · refine o_aload_n hC dX7_source_13 (by rfl) ?_
      refine o_getf hC (fX7_10 hC rfl) dX7_source_14 (by repeat (first | with_reducible assumption | (rw [rl_u_s]; done) | (rw [rl_u_s]; rfl) | rw [rl_u_n (by first | with_reducible assumption | omega)])) (by first | rfl | with_reducible assumption) ?_
      refine o_getf hC (fX7_53 hC rfl) dX7_source_17 (by repeat (first | with_reducible assumption | (rw [rl_u_s]; done) | (rw [rl_u_s]; rfl) | rw [rl_u_n (by first | with_reducible assumption | omega)])) (by first | rfl | with_reducible assumption) ?_
      refine o_iconst (v := nI 4) hC dX7_source_20 (by decide +kernel) ?_
      refine o_icmp_lt (tgt := 29) hC dX7_source_21 (by decide) (fun c_21 => ?_) (fun c_21 => ?_)
      · have h4 : s.2.2.2.1 < 4 := by
          rcases Nat.lt_or_ge s.2.2.2.1 4 with z | z
          · exact z
          · exact absurd c_21 (nI_nlt z (by omega))
        refine o_aload_n hC dX7_source_29 (by rfl) ?_
        refine o_getf hC (fX7_10 hC rfl) dX7_source_30 (by repeat (first | with_reducible assumption | (rw [rl_u_s]; done) | (rw [rl_u_s]; rfl) | rw [rl_u_n (by first | with_reducible assumption | omega)])) (by first | rfl | with_reducible assumption) ?_
        refine o_iload_n hC dX7_source_33 (by rfl) ?_
        refine o_callV1 hC rl_BW_good rl_Ns_nw (by exact hB.2.2.2.2.2) YX3_addSource IX3_addSource VX3_addSource (mX7_56 hC) (by rw [hB.1]; exact ct_X3_addSource l D ids H0 _ _ (x + 1) _ _ _ _ _ _ c2 h4) (by exact c2.1) rfl rfl (Nat.le_of_ble_eq_true rfl) (by rw [hB.2.1]; first | exact Nat.le_of_ble_eq_true rfl | (dsimp only; omega)) (by rw [hB.2.1]; first | exact Nat.le_of_ble_eq_true rfl | (dsimp only; omega)) (by rw [hB.2.1]; first | exact Nat.le_of_ble_eq_true rfl | (dsimp only; omega)) (by rw [hB.2.1]; first | exact Nat.le_of_ble_eq_true rfl | (dsimp only; omega)) dX7_source_34 (fun v h_34 n_34 p_34 => ?_)
        obtain ⟨rfl, rfl, p1, p2⟩ := p_34
        try dsimp only [Option.toList, List.cons_append, List.nil_append]
        refine o_iret hC hB dX7_source_37 (Nat.le_of_ble_eq_true rfl) (Nat.le_of_ble_eq_true rfl) ?_
        first
        | exact ⟨_, rfl, rfl, Or.inl ⟨Or.inl c_2, rfl, rfl⟩⟩
        | exact ⟨_, rfl, rfl, Or.inl ⟨Or.inr c_7, rfl, rfl⟩⟩
        | exact ⟨_, rfl, rfl, Or.inr (Or.inr ⟨fun z => z.elim c_2 (fun z => z c_7), h4, rfl, hc.so (s' := (upd s.1 s.2.2.2.1 q, s.2.1, s.2.2.1, s.2.2.2.1 + 1, s.2.2.2.2)) p1 (p2.wd (by omega) (by omega)), p2.wd (by omega) (by omega)⟩)⟩
        | exact ⟨_, rfl, rfl, Or.inr (Or.inl ⟨fun z => z.elim c_2 (fun z => z c_7), (by rcases Nat.lt_or_ge s.2.2.2.1 4 with z | z; exact absurd (nI_lt z (by decide)) c_21; exact z), rfl, rfl⟩)⟩
      · refine o_bipush (v := (-4 : Int32)) hC dX7_source_24 (by decide +kernel) ?_
        refine o_goto (tgt := 37) hC dX7_source_26 (by decide) ?_
        refine o_iret hC hB dX7_source_37 (Nat.le_of_ble_eq_true rfl) (Nat.le_of_ble_eq_true rfl) ?_
        first
        | exact ⟨_, rfl, rfl, Or.inl ⟨Or.inl c_2, rfl, rfl⟩⟩
        | exact ⟨_, rfl, rfl, Or.inl ⟨Or.inr c_7, rfl, rfl⟩⟩
        | exact ⟨_, rfl, rfl, Or.inr (Or.inr ⟨fun z => z.elim c_2 (fun z => z c_7), h4, rfl, hc.so (s' := (upd s.1 s.2.2.2.1 q, s.2.1, s.2.2.1, s.2.2.2.1 + 1, s.2.2.2.2)) p1 (p2.wd (by omega) (by omega)), p2.wd (by omega) (by omega)⟩)⟩
        | exact ⟨_, rfl, rfl, Or.inr (Or.inl ⟨fun z => z.elim c_2 (fun z => z c_7), (by rcases Nat.lt_or_ge s.2.2.2.1 4 with z | z; exact absurd (nI_lt z (by decide)) c_21; exact z), rfl, rfl⟩)⟩
    · refine o_bipush (v := (-2 : Int32)) hC dX7_source_10 (by decide +kernel) ?_
      refine o_iret hC hB dX7_source_12 (Nat.le_of_ble_eq_true rfl) (Nat.le_of_ble_eq_true rfl) ?_
      first
      | exact ⟨_, rfl, rfl, Or.inl ⟨Or.inl c_2, rfl, rfl⟩⟩
      | exact ⟨_, rfl, rfl, Or.inl ⟨Or.inr c_7, rfl, rfl⟩⟩
      | exact ⟨_, rfl, rfl, Or.inr (Or.inr ⟨fun z => z.elim c_2 (fun z => z c_7), h4, rfl, hc.so (s' := (upd s.1 s.2.2.2.1 q, s.2.1, s.2.2.1, s.2.2.2.1 + 1, s.2.2.2.2)) p1 (p2.wd (by omega) (by omega)), p2.wd (by omega) (by omega)⟩)⟩
      | exact ⟨_, rfl, rfl, Or.inr (Or.inl ⟨fun z => z.elim c_2 (fun z => z c_7), (by rcases Nat.lt_or_ge s.2.2.2.1 4 with z | z; exact absurd (nI_lt z (by decide)) c_21; exact z), rfl, rfl⟩)⟩

set_option maxHeartbeats 4000000 in
set_option maxRecDepth 100000 in
theorem cg_X7_columns (l : Launch) (D : va_G) (ids : Nat → ClassId) (H0 : Heap) (h : rl_H) (n : Nat) (x : Nat) (s : cl_S) (c : cl_N) (q : Int32) (hc : cl_at ids h x s c) : rl_Met l (rl_e D ids H0) rl_BW rl_Ns yX7_columns cX7_columns 2 (some .int) ({ frames := 1, cells := 0, slots := 0, locals := 21 }) [.ref x, .int q] h n (fun v h' n' => ∃ z : Int32, v = some (.int z) ∧ h' = h ∧ n' = n ∧ ((z = -1 ∧ ¬ (∃ j : Nat, j < c.2.2.1 ∧ q = nI j)) ∨ ∃ j : Nat, j < c.2.2.1 ∧ q = nI j ∧ z = c.2.2.2.1 j 1)) := by
  obtain ⟨c1, c2, c3, ⟨pn, c4, c5⟩, ⟨pt, c6, c7⟩, c8, c9, c10, c11, c12, c13, c14, c15⟩ := id hc
  refine rl_Met.of (by decide +kernel) (Nat.le_of_ble_eq_true rfl) ?_
  intro X hC hB
  show rl_G X (rl_e D ids H0) 0 [some (.ref x), some (.int q)] [] h n 0 0
  refine o_aload_n hC dX7_columns_0 (by rfl) ?_
  refine o_iload_n hC dX7_columns_1 (by rfl) ?_
  refine o_callV1 hC rl_BW_good rl_Ns_nw (by exact hB.2.2.2.2.2) YX7_isNode IX7_isNode VX7_isNode (mX7_100 hC) (by rw [hB.1]; exact cg_X7_isNode l D ids H0 _ _ x s c _ hc) (by exact c1) rfl rfl (Nat.le_of_ble_eq_true rfl) (by rw [hB.2.1]; first | exact Nat.le_of_ble_eq_true rfl | (dsimp only; omega)) (by rw [hB.2.1]; first | exact Nat.le_of_ble_eq_true rfl | (dsimp only; omega)) (by rw [hB.2.1]; first | exact Nat.le_of_ble_eq_true rfl | (dsimp only; omega)) (by rw [hB.2.1]; first | exact Nat.le_of_ble_eq_true rfl | (dsimp only; omega)) dX7_columns_2 (fun v h_2 n_2 p_2 => ?_)
  obtain ⟨z, rfl, rfl, rfl, hz⟩ := p_2
  try dsimp only [Option.toList, List.cons_append, List.nil_append]
  refine o_if_eq (tgt := 20) hC dX7_columns_5 (by decide) (fun c_5 => ?_) (fun c_5 => ?_)
  · refine o_iconst (v := (-1 : Int32)) hC dX7_columns_20 (by decide +kernel) ?_
    refine o_iret hC hB dX7_columns_21 (Nat.le_of_ble_eq_true rfl) (Nat.le_of_ble_eq_true rfl) ?_
    first
    | exact ⟨_, rfl, rfl, rfl, Or.inr ⟨j, hj, rfl, rfl⟩⟩
    | exact ⟨_, rfl, rfl, rfl, Or.inl ⟨rfl, hz.elim (fun q => q.2) (fun q => absurd (c_5.symm.trans q.1) (by decide +kernel))⟩⟩
  · obtain ⟨j, hj, rfl⟩ : (∃ j : Nat, j < c.2.2.1 ∧ q = nI j) := hz.elim (fun q => absurd q.1 c_5) (fun q => q.2)
    have m1 := c12 j (by omega)
    unfold cl_nd at m1
    refine o_aload_n hC dX7_columns_8 (by rfl) ?_
    refine o_getf hC (fX7_25 hC rfl) dX7_columns_9 (by repeat (first | with_reducible assumption | (rw [rl_u_s]; done) | (rw [rl_u_s]; rfl) | rw [rl_u_n (by first | with_reducible assumption | omega)])) (by first | rfl | with_reducible assumption) ?_
    refine o_iload_n hC dX7_columns_12 (by rfl) ?_
    refine o_aaldN (t0 := 5) (k := j) hC rfl dX7_columns_13 c4 (by omega) (by decide) ?_
    rw [c5 j (by omega), if_pos (by omega)]
    show rl_G X _ _ _ (.ref _ :: _) _ _ _ _
    refine o_getf hC (fX7_97 hC rfl) dX7_columns_14 (by repeat (first | with_reducible assumption | (rw [rl_u_s]; done) | (rw [rl_u_s]; rfl) | rw [rl_u_n (by first | with_reducible assumption | omega)])) (by first | rfl | with_reducible assumption) ?_
    refine o_goto (tgt := 21) hC dX7_columns_17 (by decide) ?_
    refine o_iret hC hB dX7_columns_21 (Nat.le_of_ble_eq_true rfl) (Nat.le_of_ble_eq_true rfl) ?_
    first
    | exact ⟨_, rfl, rfl, rfl, Or.inr ⟨j, hj, rfl, rfl⟩⟩
    | exact ⟨_, rfl, rfl, rfl, Or.inl ⟨rfl, hz.elim (fun q => q.2) (fun q => absurd (c_5.symm.trans q.1) (by decide +kernel))⟩⟩
end
section
/-! RowLineage in every state: drop -/
/-- result and present are others -/
theorem cl_at.rp {ids : Nat → ClassId} {h : rl_H} {x : Nat} {s : cl_S} {c : cl_N} (H : cl_at ids h x s c) (rs : Int32) (pr : Int64) : cl_at ids (rl_u h x (.inr (7, [.ref (x + 1), .ref (x + 41), .ref (x + 63), .ref (x + 64), .ref (x + 65), .ref (x + 67), .int (nI c.2.2.1), .int rs, .long pr]))) x s (c.1, c.2.1, c.2.2.1, c.2.2.2.1, rs, pr) := by
  obtain ⟨c1, c2, ⟨gp, c3⟩, ⟨pn, c4, c5⟩, ⟨pt, c6, c7⟩, c8, c9, c10, c11, c12, c13, c14, c15⟩ := H
  refine ⟨rl_u_s, c2.eqv (fun q a b => rl_u_n (by omega)), ⟨gp, c3.eqv (fun q a b => rl_u_n (by omega))⟩, ⟨pn, (rl_u_n (by omega)).trans c4, c5⟩, ⟨pt, (rl_u_n (by omega)).trans c6, c7⟩, (rl_u_n (by omega)).trans c8, c9.eqv (fun q a b => rl_u_n (by omega)), c10, c11, fun k hk => (rl_u_n (show c.1 k ≠ x by have := c14 k hk; omega)).trans (c12 k hk), fun k hk => ?_, c14, c15⟩
  obtain ⟨wd, hw⟩ := c13 k hk
  exact ⟨wd, hw.eqv (fun q a b => rl_u_n (by have := c14 k hk; have a : c.1 k + 1 ≤ q := a; omega))⟩
/-- what present is behind a drop -/
def dp_pr (pr : Int64) (q on : Int32) : Int64 := if on = 0 then pr ||| (1 : Int64) <<< (q.toInt64 &&& 63) else pr &&& (((1 : Int64) <<< (q.toInt64 &&& 63)) ^^^ (-1))

set_option maxHeartbeats 4000000 in
set_option maxRecDepth 100000 in
theorem cg_X7_drop (l : Launch) (D : va_G) (ids : Nat → ClassId) (H0 : Heap) (h : rl_H) (n : Nat) (x : Nat) (s : cl_S) (c : cl_N) (q on : Int32) (hc : cl_at ids h x s c) : rl_Met l (rl_e D ids H0) rl_BW rl_Ns yX7_drop cX7_drop 5 (some .int) ({ frames := 1, cells := 0, slots := 0, locals := 21 }) [.ref x, .int q, .int on] h n (fun v h' n' => ∃ z : Int32, v = some (.int z) ∧ n' = n ∧ (((q < 0 ∨ nI s.2.2.2.2 ≤ q) ∧ z = -1 ∧ h' = h) ∨ (¬ (q < 0 ∨ nI s.2.2.2.2 ≤ q) ∧ z = (if (dp_pr c.2.2.2.2.2 q on) = c.2.2.2.2.2 then nI 0 else nI 1) ∧ cl_at ids h' x s (c.1, c.2.1, c.2.2.1, c.2.2.2.1, c.2.2.2.2.1, (dp_pr c.2.2.2.2.2 q on)) ∧ ∀ k, k ≠ x → h' k = h k))) := by
  obtain ⟨c1, c2, c3, ⟨pn, c4, c5⟩, ⟨pt, c6, c7⟩, c8, c9, c10, c11, c12, c13, c14, c15⟩ := id hc
  refine rl_Met.of (by decide +kernel) (Nat.le_of_ble_eq_true rfl) ?_
  intro X hC hB
  show rl_G X (rl_e D ids H0) 0 [some (.ref x), some (.int q), some (.int on), none, none] [] h n 0 0
  refine o_aload_n hC dX7_drop_0 (by rfl) ?_
  refine o_getf hC (fX7_10 hC rfl) dX7_drop_1 (by repeat (first | with_reducible assumption | (rw [rl_u_s]; done) | (rw [rl_u_s]; rfl) | rw [rl_u_n (by first | with_reducible assumption | omega)])) (by first | rfl | with_reducible assumption) ?_
  refine o_iload_n hC dX7_drop_4 (by rfl) ?_
  refine o_callV1 hC rl_BW_good rl_Ns_nw (by exact hB.2.2.2.2.2) YX3_isRow IX3_isRow VX3_isRow (mX7_178 hC) (by rw [hB.1]; exact ct_X3_isRow l D ids H0 _ _ (x + 1) _ _ _ _ _ _ c2) (by exact c2.1) rfl rfl (Nat.le_of_ble_eq_true rfl) (by rw [hB.2.1]; first | exact Nat.le_of_ble_eq_true rfl | (dsimp only; omega)) (by rw [hB.2.1]; first | exact Nat.le_of_ble_eq_true rfl | (dsimp only; omega)) (by rw [hB.2.1]; first | exact Nat.le_of_ble_eq_true rfl | (dsimp only; omega)) (by rw [hB.2.1]; first | exact Nat.le_of_ble_eq_true rfl | (dsimp only; omega)) dX7_drop_5 (fun v h_5 n_5 p_5 => ?_)
  obtain ⟨rfl, rfl, rfl⟩ := p_5
  try dsimp only [Option.toList, List.cons_append, List.nil_append]
  by_cases hr : q < 0 ∨ nI s.2.2.2.2 ≤ q
  · rw [if_pos hr]
    refine o_if_ne (tgt := 13) hC dX7_drop_8 (by decide) (fun c_8 => ?_) (fun c_8 => ?_)
    · exact absurd rfl c_8
    · refine o_iconst (v := (-1 : Int32)) hC dX7_drop_11 (by decide +kernel) ?_
      refine o_iret hC hB dX7_drop_12 (Nat.le_of_ble_eq_true rfl) (Nat.le_of_ble_eq_true rfl) ?_
      exact ⟨_, rfl, rfl, Or.inl ⟨hr, rfl, rfl⟩⟩
  · rw [if_neg hr]
    refine o_if_ne (tgt := 13) hC dX7_drop_8 (by decide) (fun c_8 => ?_) (fun c_8 => ?_)
    · refine o_aload_n hC dX7_drop_13 (by rfl) ?_
      refine o_getf hC (fX7_71 hC rfl) dX7_drop_14 (by repeat (first | with_reducible assumption | (rw [rl_u_s]; done) | (rw [rl_u_s]; rfl) | rw [rl_u_n (by first | with_reducible assumption | omega)])) (by first | rfl | with_reducible assumption) ?_
      refine o_lstore_n hC dX7_drop_17 (Nat.le_of_ble_eq_true rfl) ?_
      refine o_aload_n hC dX7_drop_18 (by rfl) ?_
      refine o_iload_n hC dX7_drop_19 (by rfl) ?_
      refine o_if_eq (tgt := 38) hC dX7_drop_20 (by decide) (fun c_20 => ?_) (fun c_20 => ?_)
      · refine o_aload_n hC dX7_drop_38 (by rfl) ?_
        refine o_getf hC (fX7_71 hC rfl) dX7_drop_39 (by repeat (first | with_reducible assumption | (rw [rl_u_s]; done) | (rw [rl_u_s]; rfl) | rw [rl_u_n (by first | with_reducible assumption | omega)])) (by first | rfl | with_reducible assumption) ?_
        refine o_lconst (v := 1) hC dX7_drop_42 (by decide +kernel) ?_
        refine o_iload_n hC dX7_drop_43 (by rfl) ?_
        refine o_lshl hC dX7_drop_44 ?_
        refine o_lor hC dX7_drop_45 ?_
        refine o_putf hC (fX7_71 hC rfl) (fwX7 rfl rfl rfl (Or.inl rfl)) dX7_drop_46 (by repeat (first | with_reducible assumption | (rw [rl_u_s]; done) | (rw [rl_u_s]; rfl) | rw [rl_u_n (by first | with_reducible assumption | omega)])) (Nat.le_of_ble_eq_true rfl) ?_
        try simp only [List.set_cons_zero, List.set_cons_succ]
        refine o_aload_n hC dX7_drop_49 (by rfl) ?_
        refine o_getf hC (fX7_71 hC rfl) dX7_drop_50 (by repeat (first | with_reducible assumption | (rw [rl_u_s]; done) | (rw [rl_u_s]; rfl) | rw [rl_u_n (by first | with_reducible assumption | omega)])) (by first | rfl | with_reducible assumption) ?_
        refine o_lload_n hC dX7_drop_53 (by rfl) ?_
        refine o_lcmp hC dX7_drop_54 ?_
        refine o_if_ne (tgt := 62) hC dX7_drop_55 (by decide) (fun c_55 => ?_) (fun c_55 => ?_)
        · refine o_iconst (v := nI 1) hC dX7_drop_62 (by decide +kernel) ?_
          refine o_iret hC hB dX7_drop_63 (Nat.le_of_ble_eq_true rfl) (Nat.le_of_ble_eq_true rfl) ?_
          first
          | (have e : (dp_pr c.2.2.2.2.2 q on) = _ := if_pos c_20
             refine ⟨_, rfl, rfl, Or.inr ⟨hr, ?_, ?_, fun k hk => rl_u_n hk⟩⟩
             · rw [e]
               first | rw [if_pos ((lg_cmp_eq _ _).mp c_55)] | rw [if_neg (fun z => c_55 ((lg_cmp_eq _ _).mpr z))]
             · rw [e]
               exact hc.rp _ _)
          | (have e : (dp_pr c.2.2.2.2.2 q on) = _ := if_neg c_20
             refine ⟨_, rfl, rfl, Or.inr ⟨hr, ?_, ?_, fun k hk => rl_u_n hk⟩⟩
             · rw [e]
               first | rw [if_pos ((lg_cmp_eq _ _).mp c_55)] | rw [if_neg (fun z => c_55 ((lg_cmp_eq _ _).mpr z))]
             · rw [e]
               exact hc.rp _ _)
        · refine o_iconst (v := nI 0) hC dX7_drop_58 (by decide +kernel) ?_
          refine o_goto (tgt := 63) hC dX7_drop_59 (by decide) ?_
          refine o_iret hC hB dX7_drop_63 (Nat.le_of_ble_eq_true rfl) (Nat.le_of_ble_eq_true rfl) ?_
          first
          | (have e : (dp_pr c.2.2.2.2.2 q on) = _ := if_pos c_20
             refine ⟨_, rfl, rfl, Or.inr ⟨hr, ?_, ?_, fun k hk => rl_u_n hk⟩⟩
             · rw [e]
               first | rw [if_pos ((lg_cmp_eq _ _).mp c_55)] | rw [if_neg (fun z => c_55 ((lg_cmp_eq _ _).mpr z))]
             · rw [e]
               exact hc.rp _ _)
          | (have e : (dp_pr c.2.2.2.2.2 q on) = _ := if_neg c_20
             refine ⟨_, rfl, rfl, Or.inr ⟨hr, ?_, ?_, fun k hk => rl_u_n hk⟩⟩
             · rw [e]
               first | rw [if_pos ((lg_cmp_eq _ _).mp c_55)] | rw [if_neg (fun z => c_55 ((lg_cmp_eq _ _).mpr z))]
             · rw [e]
               exact hc.rp _ _)
      · refine o_aload_n hC dX7_drop_23 (by rfl) ?_
        refine o_getf hC (fX7_71 hC rfl) dX7_drop_24 (by repeat (first | with_reducible assumption | (rw [rl_u_s]; done) | (rw [rl_u_s]; rfl) | rw [rl_u_n (by first | with_reducible assumption | omega)])) (by first | rfl | with_reducible assumption) ?_
        refine o_lconst (v := 1) hC dX7_drop_27 (by decide +kernel) ?_
        refine o_iload_n hC dX7_drop_28 (by rfl) ?_
        refine o_lshl hC dX7_drop_29 ?_
        refine o_ldc2 hC nX7_181 dX7_drop_30 ?_
        refine o_lxor hC dX7_drop_33 ?_
        refine o_land hC dX7_drop_34 ?_
        refine o_goto (tgt := 46) hC dX7_drop_35 (by decide) ?_
        refine o_putf hC (fX7_71 hC rfl) (fwX7 rfl rfl rfl (Or.inl rfl)) dX7_drop_46 (by repeat (first | with_reducible assumption | (rw [rl_u_s]; done) | (rw [rl_u_s]; rfl) | rw [rl_u_n (by first | with_reducible assumption | omega)])) (Nat.le_of_ble_eq_true rfl) ?_
        try simp only [List.set_cons_zero, List.set_cons_succ]
        refine o_aload_n hC dX7_drop_49 (by rfl) ?_
        refine o_getf hC (fX7_71 hC rfl) dX7_drop_50 (by repeat (first | with_reducible assumption | (rw [rl_u_s]; done) | (rw [rl_u_s]; rfl) | rw [rl_u_n (by first | with_reducible assumption | omega)])) (by first | rfl | with_reducible assumption) ?_
        refine o_lload_n hC dX7_drop_53 (by rfl) ?_
        refine o_lcmp hC dX7_drop_54 ?_
        refine o_if_ne (tgt := 62) hC dX7_drop_55 (by decide) (fun c_55 => ?_) (fun c_55 => ?_)
        · refine o_iconst (v := nI 1) hC dX7_drop_62 (by decide +kernel) ?_
          refine o_iret hC hB dX7_drop_63 (Nat.le_of_ble_eq_true rfl) (Nat.le_of_ble_eq_true rfl) ?_
          first
          | (have e : (dp_pr c.2.2.2.2.2 q on) = _ := if_pos c_20
             refine ⟨_, rfl, rfl, Or.inr ⟨hr, ?_, ?_, fun k hk => rl_u_n hk⟩⟩
             · rw [e]
               first | rw [if_pos ((lg_cmp_eq _ _).mp c_55)] | rw [if_neg (fun z => c_55 ((lg_cmp_eq _ _).mpr z))]
             · rw [e]
               exact hc.rp _ _)
          | (have e : (dp_pr c.2.2.2.2.2 q on) = _ := if_neg c_20
             refine ⟨_, rfl, rfl, Or.inr ⟨hr, ?_, ?_, fun k hk => rl_u_n hk⟩⟩
             · rw [e]
               first | rw [if_pos ((lg_cmp_eq _ _).mp c_55)] | rw [if_neg (fun z => c_55 ((lg_cmp_eq _ _).mpr z))]
             · rw [e]
               exact hc.rp _ _)
        · refine o_iconst (v := nI 0) hC dX7_drop_58 (by decide +kernel) ?_
          refine o_goto (tgt := 63) hC dX7_drop_59 (by decide) ?_
          refine o_iret hC hB dX7_drop_63 (Nat.le_of_ble_eq_true rfl) (Nat.le_of_ble_eq_true rfl) ?_
          first
          | (have e : (dp_pr c.2.2.2.2.2 q on) = _ := if_pos c_20
             refine ⟨_, rfl, rfl, Or.inr ⟨hr, ?_, ?_, fun k hk => rl_u_n hk⟩⟩
             · rw [e]
               first | rw [if_pos ((lg_cmp_eq _ _).mp c_55)] | rw [if_neg (fun z => c_55 ((lg_cmp_eq _ _).mpr z))]
             · rw [e]
               exact hc.rp _ _)
          | (have e : (dp_pr c.2.2.2.2.2 q on) = _ := if_neg c_20
             refine ⟨_, rfl, rfl, Or.inr ⟨hr, ?_, ?_, fun k hk => rl_u_n hk⟩⟩
             · rw [e]
               first | rw [if_pos ((lg_cmp_eq _ _).mp c_55)] | rw [if_neg (fun z => c_55 ((lg_cmp_eq _ _).mpr z))]
             · rw [e]
               exact hc.rp _ _)
    · exact absurd c_8 (by decide +kernel)
end
section
/-! RowLineage in every state: row -/

set_option maxHeartbeats 4000000 in
set_option maxRecDepth 100000 in
theorem cg_X7_row (l : Launch) (D : va_G) (ids : Nat → ClassId) (H0 : Heap) (h : rl_H) (n : Nat) (x : Nat) (s : cl_S) (c : cl_N) (q a b e d : Int32) (hc : cl_at ids h x s c) : rl_Met l (rl_e D ids H0) rl_BW rl_Ns yX7_row cX7_row 7 (some .int) ({ frames := 1, cells := 0, slots := 0, locals := 26 }) [.ref x, .int q, .int a, .int b, .int e, .int d] h n (fun v h' n' => ∃ z : Int32, v = some (.int z) ∧ n' = n ∧ (((q < 0 ∨ nI s.2.2.2.1 ≤ q) ∧ z = -1 ∧ h' = h) ∨ (¬ (q < 0 ∨ nI s.2.2.2.1 ≤ q) ∧ 36 ≤ s.2.2.2.2 ∧ z = -4 ∧ h' = h) ∨ (¬ (q < 0 ∨ nI s.2.2.2.1 ≤ q) ∧ s.2.2.2.2 < 36 ∧ z = nI s.2.2.2.2 ∧ cl_at ids h' x (s.1, upd s.2.1 s.2.2.2.2 q, (fun r => if r = s.2.2.2.2 then upd (upd (upd (upd (s.2.2.1 s.2.2.2.2) 0 a) 1 b) 2 e) 3 d else s.2.2.1 r), s.2.2.2.1, s.2.2.2.2 + 1) (c.1, c.2.1, c.2.2.1, cl_un c.2.2.2.1 c.2.2.1, -1, (c.2.2.2.2.2 ||| (1 : Int64) <<< ((nI s.2.2.2.2).toInt64 &&& 63))) ∧ ∀ k, (k < x ∨ x + 41 ≤ k) → (∀ i, i < c.2.2.1 → k ≠ c.1 i) → h' k = h k))) := by
  obtain ⟨c1, c2, c3, ⟨pn, c4, c5⟩, ⟨pt, c6, c7⟩, c8, c9, c10, c11, c12, c13, c14, c15⟩ := id hc
  obtain ⟨s1, s2, s3, s4, s5, s6, s7⟩ := id c2
  refine rl_Met.of (by decide +kernel) (Nat.le_of_ble_eq_true rfl) ?_
  intro X hC hB
  show rl_G X (rl_e D ids H0) 0 [some (.ref x), some (.int q), some (.int a), some (.int b), some (.int e), some (.int d), none] [] h n 0 0
  refine o_aload_n hC dX7_row_0 (by rfl) ?_
  refine o_getf hC (fX7_10 hC rfl) dX7_row_1 (by repeat (first | with_reducible assumption | (rw [rl_u_s]; done) | (rw [rl_u_s]; rfl) | rw [rl_u_n (by first | with_reducible assumption | omega)])) (by first | rfl | with_reducible assumption) ?_
  refine o_iload_n hC dX7_row_4 (by rfl) ?_
  refine o_callV1 hC rl_BW_good rl_Ns_nw (by exact hB.2.2.2.2.2) YX3_isSource IX3_isSource VX3_isSource (mX7_60 hC) (by rw [hB.1]; exact ct_X3_isSource l D ids H0 _ _ (x + 1) _ _ _ _ _ _ c2) (by exact c2.1) rfl rfl (Nat.le_of_ble_eq_true rfl) (by rw [hB.2.1]; first | exact Nat.le_of_ble_eq_true rfl | (dsimp only; omega)) (by rw [hB.2.1]; first | exact Nat.le_of_ble_eq_true rfl | (dsimp only; omega)) (by rw [hB.2.1]; first | exact Nat.le_of_ble_eq_true rfl | (dsimp only; omega)) (by rw [hB.2.1]; first | exact Nat.le_of_ble_eq_true rfl | (dsimp only; omega)) dX7_row_5 (fun v h_5 n_5 p_5 => ?_)
  obtain ⟨rfl, rfl, rfl⟩ := p_5
  try dsimp only [Option.toList, List.cons_append, List.nil_append]
  by_cases hr : (q < 0 ∨ nI s.2.2.2.1 ≤ q)
  · rw [if_pos hr]
    refine o_if_ne (tgt := 13) hC dX7_row_8 (by decide) (fun c_8 => ?_) (fun c_8 => ?_)
    · exact absurd rfl c_8
    · refine o_iconst (v := (-1 : Int32)) hC dX7_row_11 (by decide +kernel) ?_
      refine o_iret hC hB dX7_row_12 (Nat.le_of_ble_eq_true rfl) (Nat.le_of_ble_eq_true rfl) ?_
      exact ⟨_, rfl, rfl, Or.inl ⟨hr, rfl, rfl⟩⟩
  · rw [if_neg hr]
    refine o_if_ne (tgt := 13) hC dX7_row_8 (by decide) (fun c_8 => ?_) (fun c_8 => ?_)
    · refine o_aload_n hC dX7_row_13 (by rfl) ?_
      refine o_getf hC (fX7_10 hC rfl) dX7_row_14 (by repeat (first | with_reducible assumption | (rw [rl_u_s]; done) | (rw [rl_u_s]; rfl) | rw [rl_u_n (by first | with_reducible assumption | omega)])) (by first | rfl | with_reducible assumption) ?_
      refine o_getf hC (fX7_64 hC rfl) dX7_row_17 (by repeat (first | with_reducible assumption | (rw [rl_u_s]; done) | (rw [rl_u_s]; rfl) | rw [rl_u_n (by first | with_reducible assumption | omega)])) (by first | rfl | with_reducible assumption) ?_
      refine o_bipush (v := nI 36) hC dX7_row_20 (by decide +kernel) ?_
      refine o_icmp_lt (tgt := 28) hC dX7_row_22 (by decide) (fun c_22 => ?_) (fun c_22 => ?_)
      · have h36 : s.2.2.2.2 < 36 := by
          rcases Nat.lt_or_ge s.2.2.2.2 36 with z | z
          · exact z
          · exact absurd c_22 (nI_nlt z (by omega))
        refine o_aload_n hC dX7_row_28 (by rfl) ?_
        refine o_getf hC (fX7_10 hC rfl) dX7_row_29 (by repeat (first | with_reducible assumption | (rw [rl_u_s]; done) | (rw [rl_u_s]; rfl) | rw [rl_u_n (by first | with_reducible assumption | omega)])) (by first | rfl | with_reducible assumption) ?_
        refine o_iload_n hC dX7_row_32 (by rfl) ?_
        refine o_iload_n hC dX7_row_33 (by rfl) ?_
        refine o_iload_n hC dX7_row_34 (by rfl) ?_
        refine o_iload hC dX7_row_35 (by rfl) ?_
        refine o_iload hC dX7_row_37 (by rfl) ?_
        refine o_callV5 hC rl_BW_good rl_Ns_nw (by exact hB.2.2.2.2.2) YX3_addRow IX3_addRow VX3_addRow (mX7_67 hC) (by rw [hB.1]; exact ct_X3_addRow l D ids H0 _ _ (x + 1) _ _ _ _ _ q a b e d c2 h36) (by exact c2.1) rfl rfl (Nat.le_of_ble_eq_true rfl) (by rw [hB.2.1]; first | exact Nat.le_of_ble_eq_true rfl | (dsimp only; omega)) (by rw [hB.2.1]; first | exact Nat.le_of_ble_eq_true rfl | (dsimp only; omega)) (by rw [hB.2.1]; first | exact Nat.le_of_ble_eq_true rfl | (dsimp only; omega)) (by rw [hB.2.1]; first | exact Nat.le_of_ble_eq_true rfl | (dsimp only; omega)) dX7_row_39 (fun v h_39 n_39 p_39 => ?_)
        obtain ⟨rfl, rfl, p1, p2⟩ := p_39
        have k1 : cl_at ids h_39 x (s.1, upd s.2.1 s.2.2.2.2 q, (fun r => if r = s.2.2.2.2 then upd (upd (upd (upd (s.2.2.1 s.2.2.2.2) 0 a) 1 b) 2 e) 3 d else s.2.2.1 r), s.2.2.2.1, s.2.2.2.2 + 1) c := hc.so (s' := (s.1, upd s.2.1 s.2.2.2.2 q, (fun r => if r = s.2.2.2.2 then upd (upd (upd (upd (s.2.2.1 s.2.2.2.2) 0 a) 1 b) 2 e) 3 d else s.2.2.1 r), s.2.2.2.1, s.2.2.2.2 + 1)) p1 (p2.wd (by omega) (by omega))
        have k0 := k1.1
        try dsimp only [Option.toList, List.cons_append, List.nil_append]
        refine o_istore hC dX7_row_42 (Nat.le_of_ble_eq_true rfl) ?_
        refine o_aload_n hC dX7_row_44 (by rfl) ?_
        refine o_dup hC dX7_row_45 rfl ?_
        refine o_getf hC (fX7_71 hC rfl) dX7_row_46 (by repeat (first | with_reducible assumption | (rw [rl_u_s]; done) | (rw [rl_u_s]; rfl) | rw [rl_u_n (by first | with_reducible assumption | omega)])) (by first | rfl | with_reducible assumption) ?_
        refine o_lconst (v := 1) hC dX7_row_49 (by decide +kernel) ?_
        refine o_iload hC dX7_row_50 (by rfl) ?_
        refine o_lshl hC dX7_row_52 ?_
        refine o_lor hC dX7_row_53 ?_
        refine o_putf hC (fX7_71 hC rfl) (fwX7 rfl rfl rfl (Or.inl rfl)) dX7_row_54 (by repeat (first | with_reducible assumption | (rw [rl_u_s]; done) | (rw [rl_u_s]; rfl) | rw [rl_u_n (by first | with_reducible assumption | omega)])) (Nat.le_of_ble_eq_true rfl) ?_
        try simp only [List.set_cons_zero, List.set_cons_succ]
        refine o_aload_n hC dX7_row_57 (by rfl) ?_
        refine o_callV0 hC rl_BW_good rl_Ns_nw (by exact hB.2.2.2.2.2) YX7_forgetWhatNodesGave IX7_forgetWhatNodesGave VX7_forgetWhatNodesGave (mX7_75 hC) (by rw [hB.1]; exact cg_X7_forgetWhatNodesGave l D ids H0 _ _ x _ _ (k1.rp c.2.2.2.2.1 (c.2.2.2.2.2 ||| (1 : Int64) <<< ((nI s.2.2.2.2).toInt64 &&& 63)))) (by exact rl_u_s) rfl rfl (Nat.le_of_ble_eq_true rfl) (by rw [hB.2.1]; first | exact Nat.le_of_ble_eq_true rfl | (dsimp only; omega)) (by rw [hB.2.1]; first | exact Nat.le_of_ble_eq_true rfl | (dsimp only; omega)) (by rw [hB.2.1]; first | exact Nat.le_of_ble_eq_true rfl | (dsimp only; omega)) (by rw [hB.2.1]; first | exact Nat.le_of_ble_eq_true rfl | (dsimp only; omega)) dX7_row_58 (fun v h_58 n_58 p_58 => ?_)
        obtain ⟨rfl, rfl, k3, k4⟩ := p_58
        try dsimp only [Option.toList, List.cons_append, List.nil_append]
        refine o_iload hC dX7_row_61 (by rfl) ?_
        refine o_iret hC hB dX7_row_63 (Nat.le_of_ble_eq_true rfl) (Nat.le_of_ble_eq_true rfl) ?_
        first
        | exact ⟨_, rfl, rfl, Or.inr (Or.inr ⟨hr, h36, rfl, k3, fun k z1 z2 => by rw [k4 k z2 (by omega), rl_u_n (by omega)]; exact p2 k (by omega)⟩)⟩
        | exact ⟨_, rfl, rfl, Or.inr (Or.inl ⟨hr, (by rcases Nat.lt_or_ge s.2.2.2.2 36 with z | z; exact absurd (nI_lt z (by decide)) c_22; exact z), rfl, rfl⟩)⟩
      · refine o_bipush (v := (-4 : Int32)) hC dX7_row_25 (by decide +kernel) ?_
        refine o_iret hC hB dX7_row_27 (Nat.le_of_ble_eq_true rfl) (Nat.le_of_ble_eq_true rfl) ?_
        first
        | exact ⟨_, rfl, rfl, Or.inr (Or.inr ⟨hr, h36, rfl, k3, fun k z1 z2 => by rw [k4 k z2 (by omega), rl_u_n (by omega)]; exact p2 k (by omega)⟩)⟩
        | exact ⟨_, rfl, rfl, Or.inr (Or.inl ⟨hr, (by rcases Nat.lt_or_ge s.2.2.2.2 36 with z | z; exact absurd (nI_lt z (by decide)) c_22; exact z), rfl, rfl⟩)⟩
    · exact absurd c_8 (by decide +kernel)
end
section
/-! RowLineage in every state: clear -/
/-- nodeCount, result and present are others -/
theorem cl_at.nc {ids : Nat → ClassId} {h : rl_H} {x : Nat} {s : cl_S} {c : cl_N} (H : cl_at ids h x s c) (nc : Nat) (hnc : nc ≤ c.2.1) (rs : Int32) (pr : Int64) : cl_at ids (rl_u h x (.inr (7, [.ref (x + 1), .ref (x + 41), .ref (x + 63), .ref (x + 64), .ref (x + 65), .ref (x + 67), .int (nI nc), .int rs, .long pr]))) x s (c.1, c.2.1, nc, c.2.2.2.1, rs, pr) := by
  obtain ⟨c1, c2, ⟨gp, c3⟩, ⟨pn, c4, c5⟩, ⟨pt, c6, c7⟩, c8, c9, c10, c11, c12, c13, c14, c15⟩ := H
  refine ⟨rl_u_s, c2.eqv (fun q a b => rl_u_n (by omega)), ⟨gp, c3.eqv (fun q a b => rl_u_n (by omega))⟩, ⟨pn, (rl_u_n (by omega)).trans c4, c5⟩, ⟨pt, (rl_u_n (by omega)).trans c6, c7⟩, (rl_u_n (by omega)).trans c8, c9.eqv (fun q a b => rl_u_n (by omega)), hnc, c11, fun k hk => (rl_u_n (show c.1 k ≠ x by have := c14 k hk; omega)).trans (c12 k hk), fun k hk => ?_, c14, c15⟩
  obtain ⟨wd, hw⟩ := c13 k hk
  exact ⟨wd, hw.eqv (fun q a b => rl_u_n (by have := c14 k hk; have a : c.1 k + 1 ≤ q := a; omega))⟩

set_option maxHeartbeats 4000000 in
set_option maxRecDepth 100000 in
theorem cg_X7_clear (l : Launch) (D : va_G) (ids : Nat → ClassId) (H0 : Heap) (h : rl_H) (n : Nat) (x : Nat) (s : cl_S) (c : cl_N) (hc : cl_at ids h x s c) : rl_Met l (rl_e D ids H0) rl_BW rl_Ns yX7_clear cX7_clear 1 none ({ frames := 1, cells := 0, slots := 0, locals := 21 }) [.ref x] h n (fun v h' n' => v = none ∧ n' = n ∧ cl_at ids h' x (s.1, s.2.1, s.2.2.1, 0, 0) (c.1, c.2.1, 0, cl_un c.2.2.2.1 c.2.2.1, -1, 0) ∧ ∀ k, (k < x ∨ x + 41 ≤ k) → (∀ i, i < c.2.2.1 → k ≠ c.1 i) → h' k = h k) := by
  obtain ⟨c1, c2, c3, ⟨pn, c4, c5⟩, ⟨pt, c6, c7⟩, c8, c9, c10, c11, c12, c13, c14, c15⟩ := id hc
  obtain ⟨s1, s2, s3, s4, s5, s6, s7⟩ := id c2
  refine rl_Met.of (by decide +kernel) (Nat.le_of_ble_eq_true rfl) ?_
  intro X hC hB
  show rl_G X (rl_e D ids H0) 0 [some (.ref x)] [] h n 0 0
  refine o_aload_n hC dX7_clear_0 (by rfl) ?_
  refine o_getf hC (fX7_10 hC rfl) dX7_clear_1 (by repeat (first | with_reducible assumption | (rw [rl_u_s]; done) | (rw [rl_u_s]; rfl) | rw [rl_u_n (by first | with_reducible assumption | omega)])) (by first | rfl | with_reducible assumption) ?_
  refine o_callV0 hC rl_BW_good rl_Ns_nw (by exact hB.2.2.2.2.2) YX3_forgetAll IX3_forgetAll VX3_forgetAll (mX7_226 hC) (by rw [hB.1]; exact ct_X3_forgetAll l D ids H0 _ _ (x + 1) _ _ _ _ _ c2) (by exact c2.1) rfl rfl (Nat.le_of_ble_eq_true rfl) (by rw [hB.2.1]; first | exact Nat.le_of_ble_eq_true rfl | (dsimp only; omega)) (by rw [hB.2.1]; first | exact Nat.le_of_ble_eq_true rfl | (dsimp only; omega)) (by rw [hB.2.1]; first | exact Nat.le_of_ble_eq_true rfl | (dsimp only; omega)) (by rw [hB.2.1]; first | exact Nat.le_of_ble_eq_true rfl | (dsimp only; omega)) dX7_clear_4 (fun v h_4 n_4 p_4 => ?_)
  obtain ⟨rfl, rfl, p1, p2⟩ := p_4
  have k1 : cl_at ids h_4 x (s.1, s.2.1, s.2.2.1, 0, 0) c := hc.so (s' := (s.1, s.2.1, s.2.2.1, 0, 0)) p1 (p2.wd (by omega) (by omega))
  have k0 := k1.1
  try dsimp only [Option.toList, List.cons_append, List.nil_append]
  refine o_aload_n hC dX7_clear_7 (by rfl) ?_
  refine o_callV0 hC rl_BW_good rl_Ns_nw (by exact hB.2.2.2.2.2) YX7_forgetWhatNodesGave IX7_forgetWhatNodesGave VX7_forgetWhatNodesGave (mX7_75 hC) (by rw [hB.1]; exact cg_X7_forgetWhatNodesGave l D ids H0 _ _ x _ _ k1) (by exact k0) rfl rfl (Nat.le_of_ble_eq_true rfl) (by rw [hB.2.1]; first | exact Nat.le_of_ble_eq_true rfl | (dsimp only; omega)) (by rw [hB.2.1]; first | exact Nat.le_of_ble_eq_true rfl | (dsimp only; omega)) (by rw [hB.2.1]; first | exact Nat.le_of_ble_eq_true rfl | (dsimp only; omega)) (by rw [hB.2.1]; first | exact Nat.le_of_ble_eq_true rfl | (dsimp only; omega)) dX7_clear_8 (fun v h_8 n_8 p_8 => ?_)
  obtain ⟨rfl, rfl, k3, k4⟩ := p_8
  have k5 := k3.1
  try dsimp only [Option.toList, List.cons_append, List.nil_append]
  refine o_aload_n hC dX7_clear_11 (by rfl) ?_
  refine o_iconst (v := nI 0) hC dX7_clear_12 (by decide +kernel) ?_
  refine o_putf hC (fX7_78 hC rfl) (fwX7 rfl rfl rfl (Or.inl rfl)) dX7_clear_13 (by repeat (first | with_reducible assumption | (rw [rl_u_s]; done) | (rw [rl_u_s]; rfl) | rw [rl_u_n (by first | with_reducible assumption | omega)])) (Nat.le_of_ble_eq_true rfl) ?_
  try simp only [List.set_cons_zero, List.set_cons_succ]
  refine o_aload_n hC dX7_clear_16 (by rfl) ?_
  refine o_lconst (v := 0) hC dX7_clear_17 (by decide +kernel) ?_
  refine o_putf hC (fX7_71 hC rfl) (fwX7 rfl rfl rfl (Or.inl rfl)) dX7_clear_18 (by repeat (first | with_reducible assumption | (rw [rl_u_s]; done) | (rw [rl_u_s]; rfl) | rw [rl_u_n (by first | with_reducible assumption | omega)])) (Nat.le_of_ble_eq_true rfl) ?_
  try simp only [List.set_cons_zero, List.set_cons_succ]
  refine o_vret hC hB dX7_clear_21 (Nat.le_of_ble_eq_true rfl) (Nat.le_of_ble_eq_true rfl) ?_
  refine ⟨rfl, rfl, ?_, fun k z1 z2 => by rw [rl_u_n (by omega), rl_u_n (by omega), k4 k z2 (by omega)]; exact p2 k (by omega)⟩
  exact (k3.nc 0 (Nat.zero_le _) (-1) c.2.2.2.2.2).nc 0 (Nat.zero_le _) (-1) 0
end
