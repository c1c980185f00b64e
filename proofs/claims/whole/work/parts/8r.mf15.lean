/-! THE MODEL, functionally: under, forward, ones, told -/
theorem oi1 : Int32.ofInt 1 = nI 1 := by decide +kernel
theorem ad0 (c : Int32) : c + nI 0 = c := by rw [nI_0, Int32.add_zero]
/-- how many of the first 36 bits are 1 -/
def mon (x : Int64) : Nat → Nat → Int32 → Int32
  | 0, _, c => c
  | m + 1, i, c => mon x m (i + 1) (if (x >>> ((nI i).toInt64 &&& 63)) &&& 1 = 1 then c + nI 1 else c)
theorem mon_s (x : Int64) (m i : Nat) (c : Int32) : mon x (m + 1) i c = mon x m (i + 1) (if (x >>> ((nI i).toInt64 &&& 63)) &&& 1 = 1 then c + nI 1 else c) := rfl

set_option maxHeartbeats 4000000 in
set_option maxRecDepth 100000 in
theorem cf_X8_under (l : Launch) (D : va_G) (ids : Nat → ClassId) (H0 : Heap) (h : rl_H) (n : Nat) (m : Nat) (T : md_T) (fu : Int32) (k : Nat) (A : md_D) (S : md_A) (z : sh_S) (res : List arow) (rw : Nat) (q : Int32) (st : Int64) (hq : mf ids h h m T fu k A) (hu : md_un ids h m T fu k S z) (hr : mrs A T res rw)  : rl_Met l (rl_e D ids H0) rl_BW rl_Ns yX8_under cX8_under 4 (some .int) ({ frames := 2, cells := 0, slots := 0, locals := 48 }) [.ref m, .int q, .long st] h n (fun v h' n' => ∃ r : Int32, v = some (.int r) ∧ n' = n ∧ mf ids h h' m (nI 0, T.2) fu k A ∧ ((¬ (∃ t : Nat, t < res.length ∧ q = nI t) ∧ r = -1) ∨ ∃ t : Nat, t < res.length ∧ q = nI t ∧ r = (if (st < 0 ∨ ¬ st >>> (T.2.2.1.toInt64 &&& 63) = 0) then (-2 : Int32) else (if wfh st (ark res t).2 0 = -1 then nI 0 else nI 1)))) := by
  obtain ⟨hm0, g12, g13, g14, g15, g16, g17, g18, g19, g20, g21, g22⟩ := id hq
  have g0 := hm0.1
  have gk := hm0.2.1
  have b13 := hq.b13
  have b15 := hq.b15
  have b21 := hq.b21
  have hq0 := hq.ob (nI 0, T.2) fu k gk
  have r80 := hr.2.1.2.2
  have h16 := hr.1.1
  refine rl_Met.of (by decide +kernel) (Nat.le_of_ble_eq_true rfl) ?_
  intro X hC hB
  show rl_G X (rl_e D ids H0) 0 [some (.ref m), some (.int q), some (.long st), none] [] h n 0 0
  refine o_aload_n hC dX8_under_0 (by rfl) ?_
  refine o_iconst (v := nI 0) hC dX8_under_1 (by decide +kernel) ?_
  refine o_putf hC (fX8_78 hC rfl) (fwX8 rfl rfl rfl (Or.inl rfl)) dX8_under_2 (by repeat (first | with_reducible assumption | (rw [rl_u_s]; done) | (rw [rl_u_s]; rfl) | rw [rl_u_n (by first | with_reducible assumption | omega)])) (Nat.le_of_ble_eq_true rfl) ?_
  try simp only [List.set_cons_zero, List.set_cons_succ]
  refine o_aload_n hC dX8_under_5 (by rfl) ?_
  refine o_iload_n hC dX8_under_6 (by rfl) ?_
  refine o_callV1 hC rl_BW_good rl_Ns_nw (by exact hB.2.2.2.2.2) YX8_isTuple IX8_isTuple VX8_isTuple (mX8_199 hC) (by rw [hB.1]; exact ct_X8_isTuple l D ids H0 _ _ m (m + 13) _ _ A.2.1 (by repeat (first | with_reducible assumption | (rw [rl_u_s]; done) | (rw [rl_u_s]; rfl) | rw [rl_u_n (by first | with_reducible assumption | omega)])) rfl (by repeat (first | with_reducible assumption | (rw [rl_u_s]; done) | (rw [rl_u_s]; rfl) | rw [rl_u_n (by first | with_reducible assumption | omega)]))) (by repeat (first | with_reducible assumption | (rw [rl_u_s]; done) | (rw [rl_u_s]; rfl) | rw [rl_u_n (by first | with_reducible assumption | omega)])) rfl rfl (Nat.le_of_ble_eq_true rfl) (by rw [hB.2.1]; first | exact Nat.le_of_ble_eq_true rfl | (dsimp only; omega)) (by rw [hB.2.1]; first | exact Nat.le_of_ble_eq_true rfl | (dsimp only; omega)) (by rw [hB.2.1]; first | exact Nat.le_of_ble_eq_true rfl | (dsimp only; omega)) (by rw [hB.2.1]; first | exact Nat.le_of_ble_eq_true rfl | (dsimp only; omega)) dX8_under_7 (fun v h_7 n_7 p_7 => ?_)
  obtain ⟨rfl, rfl, rfl⟩ := p_7
  try dsimp only [Option.toList, List.cons_append, List.nil_append]
  by_cases hr9 : q < 0 ∨ A.2.1 16 ≤ q
  · rw [if_pos hr9]
    have nin : ¬ (∃ t : Nat, t < res.length ∧ q = nI t) := fun ⟨t, ht, e⟩ => hr9.elim (fun u => absurd u (by rw [e]; exact nI_pos (by omega))) (fun u => absurd u (by rw [h16, e]; exact nI_ge ht (by omega)))
    refine o_if_ne (tgt := 15) hC dX8_under_10 (by decide) (fun c_10 => ?_) (fun c_10 => ?_)
    · exact absurd rfl c_10
    · refine o_iconst (v := (-1 : Int32)) hC dX8_under_13 (by decide +kernel) ?_
      refine o_iret hC hB dX8_under_14 (Nat.le_of_ble_eq_true rfl) (Nat.le_of_ble_eq_true rfl) ?_
      exact ⟨_, rfl, rfl, hq0, Or.inl ⟨nin, rfl⟩⟩
  · rw [if_neg hr9]
    obtain ⟨t, htl, rfl⟩ := nI_of_lt (k := res.length) (by omega) (fun e => hr9 (Or.inl e)) (fun e => hr9 (Or.inr (by rw [h16]; exact e)))
    have ht : t < 80 := by omega
    have hrw := hr.1.2 t htl
    have hws : mws A (1280 + t) (ark res t).2 := hrw.2
    have g00 := hq0.1.1
    refine o_if_ne (tgt := 15) hC dX8_under_10 (by decide) (fun c_10 => ?_) (fun c_10 => ?_)
    · refine o_lload_n hC dX8_under_15 (by rfl) ?_
      refine o_lconst (v := 0) hC dX8_under_16 (by decide +kernel) ?_
      refine o_lcmp hC dX8_under_17 ?_
      refine o_if_lt (tgt := 32) hC dX8_under_18 (by decide) (fun c_18 => ?_) (fun c_18 => ?_)
      · refine o_bipush (v := (-2 : Int32)) hC dX8_under_32 (by decide +kernel) ?_
        refine o_iret hC hB dX8_under_34 (Nat.le_of_ble_eq_true rfl) (Nat.le_of_ble_eq_true rfl) ?_
        first
        | exact ⟨_, rfl, rfl, hq0, Or.inr ⟨t, htl, rfl, (if_pos (Or.inl ((lg_cmp_lt _ _).mp c_18))).symm⟩⟩
        | exact ⟨_, rfl, rfl, hq0, Or.inr ⟨t, htl, rfl, (if_pos (Or.inr (fun w => c_29 ((lg_cmp_eq _ _).mpr w)))).symm⟩⟩
        | (have hno : ¬ (st < 0 ∨ ¬ st >>> (T.2.2.1.toInt64 &&& 63) = 0) := fun w => w.elim (fun u => c_18 ((lg_cmp_lt _ _).mpr u)) (fun u => u ((lg_cmp_eq _ _).mp c_29))
           by_cases e9 : wfh st (ark res t).2 0 = -1
           · rw [if_pos e9] at c_41
             first
             | exact absurd rfl c_41
             | exact ⟨_, rfl, rfl, hq0, Or.inr ⟨t, htl, rfl, by rw [if_neg hno, if_pos e9]⟩⟩
           · rw [if_neg e9] at c_41
             first
             | exact absurd c_41 (by decide +kernel)
             | exact ⟨_, rfl, rfl, hq0, Or.inr ⟨t, htl, rfl, by rw [if_neg hno, if_neg e9]⟩⟩)
      · refine o_lload_n hC dX8_under_21 (by rfl) ?_
        refine o_aload_n hC dX8_under_22 (by rfl) ?_
        refine o_getf hC (fX8_112 hC rfl) dX8_under_23 (by repeat (first | with_reducible assumption | (rw [rl_u_s]; done) | (rw [rl_u_s]; rfl) | rw [rl_u_n (by first | with_reducible assumption | omega)])) (by first | rfl | with_reducible assumption) ?_
        refine o_lshr hC dX8_under_26 ?_
        refine o_lconst (v := 0) hC dX8_under_27 (by decide +kernel) ?_
        refine o_lcmp hC dX8_under_28 ?_
        refine o_if_eq (tgt := 35) hC dX8_under_29 (by decide) (fun c_29 => ?_) (fun c_29 => ?_)
        · refine o_aload_n hC dX8_under_35 (by rfl) ?_
          refine o_iload_n hC dX8_under_36 (by rfl) ?_
          refine o_lload_n hC dX8_under_37 (by rfl) ?_
          refine o_callV2 hC rl_BW_good rl_Ns_nw (by exact hB.2.2.2.2.2) YX8_isSo IX8_isSo VX8_isSo (mX8_206 hC) (by rw [hB.1]; exact cf_X8_isSo l D ids H0 _ _ m _ _ _ _ t _ _ hq0.rf ht hws) (by exact hq0.1.1) rfl rfl (Nat.le_of_ble_eq_true rfl) (by rw [hB.2.1]; first | exact Nat.le_of_ble_eq_true rfl | (dsimp only; omega)) (by rw [hB.2.1]; first | exact Nat.le_of_ble_eq_true rfl | (dsimp only; omega)) (by rw [hB.2.1]; first | exact Nat.le_of_ble_eq_true rfl | (dsimp only; omega)) (by rw [hB.2.1]; first | exact Nat.le_of_ble_eq_true rfl | (dsimp only; omega)) dX8_under_38 (fun v h_38 n_38 p_38 => ?_)
          obtain ⟨rfl, rfl, rfl⟩ := p_38
          try dsimp only [Option.toList, List.cons_append, List.nil_append]
          refine o_if_eq (tgt := 48) hC dX8_under_41 (by decide) (fun c_41 => ?_) (fun c_41 => ?_)
          · refine o_iconst (v := nI 0) hC dX8_under_48 (by decide +kernel) ?_
            refine o_iret hC hB dX8_under_49 (Nat.le_of_ble_eq_true rfl) (Nat.le_of_ble_eq_true rfl) ?_
            first
            | exact ⟨_, rfl, rfl, hq0, Or.inr ⟨t, htl, rfl, (if_pos (Or.inl ((lg_cmp_lt _ _).mp c_18))).symm⟩⟩
            | exact ⟨_, rfl, rfl, hq0, Or.inr ⟨t, htl, rfl, (if_pos (Or.inr (fun w => c_29 ((lg_cmp_eq _ _).mpr w)))).symm⟩⟩
            | (have hno : ¬ (st < 0 ∨ ¬ st >>> (T.2.2.1.toInt64 &&& 63) = 0) := fun w => w.elim (fun u => c_18 ((lg_cmp_lt _ _).mpr u)) (fun u => u ((lg_cmp_eq _ _).mp c_29))
               by_cases e9 : wfh st (ark res t).2 0 = -1
               · rw [if_pos e9] at c_41
                 first
                 | exact absurd rfl c_41
                 | exact ⟨_, rfl, rfl, hq0, Or.inr ⟨t, htl, rfl, by rw [if_neg hno, if_pos e9]⟩⟩
               · rw [if_neg e9] at c_41
                 first
                 | exact absurd c_41 (by decide +kernel)
                 | exact ⟨_, rfl, rfl, hq0, Or.inr ⟨t, htl, rfl, by rw [if_neg hno, if_neg e9]⟩⟩)
          · refine o_iconst (v := nI 1) hC dX8_under_44 (by decide +kernel) ?_
            refine o_goto (tgt := 49) hC dX8_under_45 (by decide) ?_
            refine o_iret hC hB dX8_under_49 (Nat.le_of_ble_eq_true rfl) (Nat.le_of_ble_eq_true rfl) ?_
            first
            | exact ⟨_, rfl, rfl, hq0, Or.inr ⟨t, htl, rfl, (if_pos (Or.inl ((lg_cmp_lt _ _).mp c_18))).symm⟩⟩
            | exact ⟨_, rfl, rfl, hq0, Or.inr ⟨t, htl, rfl, (if_pos (Or.inr (fun w => c_29 ((lg_cmp_eq _ _).mpr w)))).symm⟩⟩
            | (have hno : ¬ (st < 0 ∨ ¬ st >>> (T.2.2.1.toInt64 &&& 63) = 0) := fun w => w.elim (fun u => c_18 ((lg_cmp_lt _ _).mpr u)) (fun u => u ((lg_cmp_eq _ _).mp c_29))
               by_cases e9 : wfh st (ark res t).2 0 = -1
               · rw [if_pos e9] at c_41
                 first
                 | exact absurd rfl c_41
                 | exact ⟨_, rfl, rfl, hq0, Or.inr ⟨t, htl, rfl, by rw [if_neg hno, if_pos e9]⟩⟩
               · rw [if_neg e9] at c_41
                 first
                 | exact absurd c_41 (by decide +kernel)
                 | exact ⟨_, rfl, rfl, hq0, Or.inr ⟨t, htl, rfl, by rw [if_neg hno, if_neg e9]⟩⟩)
        · refine o_bipush (v := (-2 : Int32)) hC dX8_under_32 (by decide +kernel) ?_
          refine o_iret hC hB dX8_under_34 (Nat.le_of_ble_eq_true rfl) (Nat.le_of_ble_eq_true rfl) ?_
          first
          | exact ⟨_, rfl, rfl, hq0, Or.inr ⟨t, htl, rfl, (if_pos (Or.inl ((lg_cmp_lt _ _).mp c_18))).symm⟩⟩
          | exact ⟨_, rfl, rfl, hq0, Or.inr ⟨t, htl, rfl, (if_pos (Or.inr (fun w => c_29 ((lg_cmp_eq _ _).mpr w)))).symm⟩⟩
          | (have hno : ¬ (st < 0 ∨ ¬ st >>> (T.2.2.1.toInt64 &&& 63) = 0) := fun w => w.elim (fun u => c_18 ((lg_cmp_lt _ _).mpr u)) (fun u => u ((lg_cmp_eq _ _).mp c_29))
             by_cases e9 : wfh st (ark res t).2 0 = -1
             · rw [if_pos e9] at c_41
               first
               | exact absurd rfl c_41
               | exact ⟨_, rfl, rfl, hq0, Or.inr ⟨t, htl, rfl, by rw [if_neg hno, if_pos e9]⟩⟩
             · rw [if_neg e9] at c_41
               first
               | exact absurd c_41 (by decide +kernel)
               | exact ⟨_, rfl, rfl, hq0, Or.inr ⟨t, htl, rfl, by rw [if_neg hno, if_neg e9]⟩⟩)
    · exact absurd c_10 (by decide +kernel)

set_option maxHeartbeats 4000000 in
set_option maxRecDepth 100000 in
theorem cf_X8_forward (l : Launch) (D : va_G) (ids : Nat → ClassId) (H0 : Heap) (h : rl_H) (n : Nat) (m : Nat) (T : md_T) (fu : Int32) (k : Nat) (A : md_D) (S : md_A) (z : sh_S) (res : List arow) (rw : Nat) (q : Int32) (hq : mf ids h h m T fu k A) (hu : md_un ids h m T fu k S z) (hr : mrs A T res rw)  : rl_Met l (rl_e D ids H0) rl_BW rl_Ns yX8_forward cX8_forward 4 (some .int) ({ frames := 2, cells := 0, slots := 0, locals := 48 }) [.ref m, .int q] h n (fun v h' n' => ∃ r : Int32, v = some (.int r) ∧ n' = n ∧ mf ids h h' m (nI 0, T.2) fu k A ∧ (((q < 0 ∨ nI z.2.2.1 ≤ q) ∧ r = -1) ∨ (¬ (q < 0 ∨ nI z.2.2.1 ≤ q) ∧ r = fwo T.2.2.2.1 (T.2.2.2.1 ^^^ (1 : Int64) <<< (q.toInt64 &&& 63)) res (nI 0)))) := by
  obtain ⟨hm0, g12, g13, g14, g15, g16, g17, g18, g19, g20, g21, g22⟩ := id hq
  have g0 := hm0.1
  have gk := hm0.2.1
  have b13 := hq.b13
  have b15 := hq.b15
  have b21 := hq.b21
  have hq0 := hq.ob (nI 0, T.2) fu k gk
  have r80 := hr.2.1.2.2
  have h16 := hr.1.1
  obtain ⟨-, hs, ⟨hsc, hsc4⟩, hwf, ⟨hrr, hr36⟩, ⟨hnc, hn16⟩, hnw, hpr, -, hwv, wrc, hrc6, hrc⟩ := id hu
  refine rl_Met.of (by decide +kernel) (Nat.le_of_ble_eq_true rfl) ?_
  intro X hC hB
  show rl_G X (rl_e D ids H0) 0 [some (.ref m), some (.int q), none, none] [] h n 0 0
  refine o_aload_n hC dX8_forward_0 (by rfl) ?_
  refine o_iconst (v := nI 0) hC dX8_forward_1 (by decide +kernel) ?_
  refine o_putf hC (fX8_78 hC rfl) (fwX8 rfl rfl rfl (Or.inl rfl)) dX8_forward_2 (by repeat (first | with_reducible assumption | (rw [rl_u_s]; done) | (rw [rl_u_s]; rfl) | rw [rl_u_n (by first | with_reducible assumption | omega)])) (Nat.le_of_ble_eq_true rfl) ?_
  try simp only [List.set_cons_zero, List.set_cons_succ]
  refine o_iload_n hC dX8_forward_5 (by rfl) ?_
  refine o_if_lt (tgt := 17) hC dX8_forward_6 (by decide) (fun c_6 => ?_) (fun c_6 => ?_)
  · refine o_iconst (v := (-1 : Int32)) hC dX8_forward_17 (by decide +kernel) ?_
    refine o_iret hC hB dX8_forward_18 (Nat.le_of_ble_eq_true rfl) (Nat.le_of_ble_eq_true rfl) ?_
    first
    | exact ⟨_, rfl, rfl, hq0, Or.inl ⟨Or.inl c_6, rfl⟩⟩
    | exact ⟨_, rfl, rfl, hq0, Or.inl ⟨Or.inr (by rw [← hrr]; exact Int32.not_lt.mp c_14), rfl⟩⟩
  · refine o_iload_n hC dX8_forward_9 (by rfl) ?_
    refine o_aload_n hC dX8_forward_10 (by rfl) ?_
    refine o_getf hC (fX8_112 hC rfl) dX8_forward_11 (by repeat (first | with_reducible assumption | (rw [rl_u_s]; done) | (rw [rl_u_s]; rfl) | rw [rl_u_n (by first | with_reducible assumption | omega)])) (by first | rfl | with_reducible assumption) ?_
    refine o_icmp_lt (tgt := 19) hC dX8_forward_14 (by decide) (fun c_14 => ?_) (fun c_14 => ?_)
    · refine o_iconst (v := nI 0) hC dX8_forward_19 (by decide +kernel) ?_
      refine o_istore_n hC dX8_forward_20 (Nat.le_of_ble_eq_true rfl) ?_
      refine o_iconst (v := nI 0) hC dX8_forward_21 (by decide +kernel) ?_
      refine o_istore_n hC dX8_forward_22 (Nat.le_of_ble_eq_true rfl) ?_
      have hr9 : ¬ (q < 0 ∨ nI z.2.2.1 ≤ q) := fun w => w.elim c_6 (fun u => absurd u (Int32.not_le.mpr (by rw [← hrr]; exact c_14)))
      have loop : ∀ (mm t : Nat) (c : Int32), t + mm = res.length → fwo T.2.2.2.1 (T.2.2.2.1 ^^^ (1 : Int64) <<< (q.toInt64 &&& 63)) (res.drop t) c = fwo T.2.2.2.1 (T.2.2.2.1 ^^^ (1 : Int64) <<< (q.toInt64 &&& 63)) res (nI 0) → rl_G X (rl_e D ids H0) 23 [some (.ref m), some (.int q), some (.int c), some (.int (nI t))] [] (rl_u h m (md_ob m (nI 0, T.2) fu k)) n 0 0 := by
        intro mm
        induction mm with
        | zero =>
          intro t c hm hi
          refine o_iload_n hC dX8_forward_23 (by rfl) ?_
          refine o_aload_n hC dX8_forward_24 (by rfl) ?_
          refine o_getf hC (fX8_46 hC rfl) dX8_forward_25 (by repeat (first | with_reducible assumption | (rw [rl_u_s]; done) | (rw [rl_u_s]; rfl) | rw [rl_u_n (by first | with_reducible assumption | omega)])) (by first | rfl | with_reducible assumption) ?_
          refine o_bipush (v := nI 16) hC dX8_forward_28 (by decide +kernel) ?_
          refine o_ialdN (t0 := 0) (k := 16) hC rfl dX8_forward_30 (by repeat (first | with_reducible assumption | (rw [rl_u_s]; done) | (rw [rl_u_s]; rfl) | rw [rl_u_n (by first | with_reducible assumption | omega)])) (by decide) (by decide) ?_
          rw [h16]
          refine o_icmp_ge (tgt := 73) hC dX8_forward_31 (by decide) (fun c_31 => ?_) (fun c_31 => ?_)
          · refine o_iload_n hC dX8_forward_73 (by rfl) ?_
            refine o_iret hC hB dX8_forward_74 (Nat.le_of_ble_eq_true rfl) (Nat.le_of_ble_eq_true rfl) ?_
            exact ⟨_, rfl, rfl, hq0, Or.inr ⟨hr9, by rw [← hi, List.drop_eq_nil_of_le (by omega)]; rfl⟩⟩
          · exact absurd (nI_le (by omega) (by omega)) c_31
        | succ mm ih =>
          intro t c hm hi
          have ht : t < 80 := by omega
          have hws : mws A (1280 + t) (ark res t).2 := (hr.1.2 t (by omega)).2
          rw [ark_dropp (show t < res.length by omega)] at hi
          rw [fwo_c] at hi
          rw [oi1] at hi
          refine o_iload_n hC dX8_forward_23 (by rfl) ?_
          refine o_aload_n hC dX8_forward_24 (by rfl) ?_
          refine o_getf hC (fX8_46 hC rfl) dX8_forward_25 (by repeat (first | with_reducible assumption | (rw [rl_u_s]; done) | (rw [rl_u_s]; rfl) | rw [rl_u_n (by first | with_reducible assumption | omega)])) (by first | rfl | with_reducible assumption) ?_
          refine o_bipush (v := nI 16) hC dX8_forward_28 (by decide +kernel) ?_
          refine o_ialdN (t0 := 0) (k := 16) hC rfl dX8_forward_30 (by repeat (first | with_reducible assumption | (rw [rl_u_s]; done) | (rw [rl_u_s]; rfl) | rw [rl_u_n (by first | with_reducible assumption | omega)])) (by decide) (by decide) ?_
          rw [h16]
          refine o_icmp_ge (tgt := 73) hC dX8_forward_31 (by decide) (fun c_31 => ?_) (fun c_31 => ?_)
          · exact absurd c_31 (nI_ge (by omega) (by omega))
          · refine o_iload_n hC dX8_forward_34 (by rfl) ?_
            refine o_aload_n hC dX8_forward_35 (by rfl) ?_
            refine o_iload_n hC dX8_forward_36 (by rfl) ?_
            refine o_aload_n hC dX8_forward_37 (by rfl) ?_
            refine o_getf hC (fX8_115 hC rfl) dX8_forward_38 (by repeat (first | with_reducible assumption | (rw [rl_u_s]; done) | (rw [rl_u_s]; rfl) | rw [rl_u_n (by first | with_reducible assumption | omega)])) (by first | rfl | with_reducible assumption) ?_
            refine o_callV2 hC rl_BW_good rl_Ns_nw (by exact hB.2.2.2.2.2) YX8_isSo IX8_isSo VX8_isSo (mX8_206 hC) (by rw [hB.1]; exact cf_X8_isSo l D ids H0 _ _ m _ _ _ _ t _ _ hq0.rf ht hws) (by exact hq0.1.1) rfl rfl (Nat.le_of_ble_eq_true rfl) (by rw [hB.2.1]; first | exact Nat.le_of_ble_eq_true rfl | (dsimp only; omega)) (by rw [hB.2.1]; first | exact Nat.le_of_ble_eq_true rfl | (dsimp only; omega)) (by rw [hB.2.1]; first | exact Nat.le_of_ble_eq_true rfl | (dsimp only; omega)) (by rw [hB.2.1]; first | exact Nat.le_of_ble_eq_true rfl | (dsimp only; omega)) dX8_forward_41 (fun v h_41 n_41 p_41 => ?_)
            obtain ⟨rfl, rfl, rfl⟩ := p_41
            try dsimp only [Option.toList, List.cons_append, List.nil_append]
            refine o_aload_n hC dX8_forward_44 (by rfl) ?_
            refine o_iload_n hC dX8_forward_45 (by rfl) ?_
            refine o_aload_n hC dX8_forward_46 (by rfl) ?_
            refine o_getf hC (fX8_115 hC rfl) dX8_forward_47 (by repeat (first | with_reducible assumption | (rw [rl_u_s]; done) | (rw [rl_u_s]; rfl) | rw [rl_u_n (by first | with_reducible assumption | omega)])) (by first | rfl | with_reducible assumption) ?_
            refine o_lconst (v := 1) hC dX8_forward_50 (by decide +kernel) ?_
            refine o_iload_n hC dX8_forward_51 (by rfl) ?_
            refine o_lshl hC dX8_forward_52 ?_
            refine o_lxor hC dX8_forward_53 ?_
            refine o_callV2 hC rl_BW_good rl_Ns_nw (by exact hB.2.2.2.2.2) YX8_isSo IX8_isSo VX8_isSo (mX8_206 hC) (by rw [hB.1]; exact cf_X8_isSo l D ids H0 _ _ m _ _ _ _ t _ _ hq0.rf ht hws) (by exact hq0.1.1) rfl rfl (Nat.le_of_ble_eq_true rfl) (by rw [hB.2.1]; first | exact Nat.le_of_ble_eq_true rfl | (dsimp only; omega)) (by rw [hB.2.1]; first | exact Nat.le_of_ble_eq_true rfl | (dsimp only; omega)) (by rw [hB.2.1]; first | exact Nat.le_of_ble_eq_true rfl | (dsimp only; omega)) (by rw [hB.2.1]; first | exact Nat.le_of_ble_eq_true rfl | (dsimp only; omega)) dX8_forward_54 (fun v h_54 n_54 p_54 => ?_)
            obtain ⟨rfl, rfl, rfl⟩ := p_54
            try dsimp only [Option.toList, List.cons_append, List.nil_append]
            refine o_icmp_eq (tgt := 64) hC dX8_forward_57 (by decide) (fun c_57 => ?_) (fun c_57 => ?_)
            · refine o_iconst (v := nI 0) hC dX8_forward_64 (by decide +kernel) ?_
              refine o_iadd hC dX8_forward_65 ?_
              refine o_istore_n hC dX8_forward_66 (Nat.le_of_ble_eq_true rfl) ?_
              refine o_iinc hC dX8_forward_67 (by rfl) (rl_inc _) (Nat.le_of_ble_eq_true rfl) ?_
              refine o_goto (tgt := 23) hC dX8_forward_70 (by decide) ?_
              first
              | (rw [if_pos ((tf_iff _ _).mp c_57)] at hi; exact ih (t + 1) _ (by omega) (by rw [ad0]; exact hi))
              | (rw [if_neg (fun w => c_57 ((tf_iff _ _).mpr w))] at hi; exact ih (t + 1) _ (by omega) hi)
            · refine o_iconst (v := nI 1) hC dX8_forward_60 (by decide +kernel) ?_
              refine o_goto (tgt := 65) hC dX8_forward_61 (by decide) ?_
              refine o_iadd hC dX8_forward_65 ?_
              refine o_istore_n hC dX8_forward_66 (Nat.le_of_ble_eq_true rfl) ?_
              refine o_iinc hC dX8_forward_67 (by rfl) (rl_inc _) (Nat.le_of_ble_eq_true rfl) ?_
              refine o_goto (tgt := 23) hC dX8_forward_70 (by decide) ?_
              first
              | (rw [if_pos ((tf_iff _ _).mp c_57)] at hi; exact ih (t + 1) _ (by omega) (by rw [ad0]; exact hi))
              | (rw [if_neg (fun w => c_57 ((tf_iff _ _).mpr w))] at hi; exact ih (t + 1) _ (by omega) hi)
      exact loop res.length 0 _ (by omega) rfl
    · refine o_iconst (v := (-1 : Int32)) hC dX8_forward_17 (by decide +kernel) ?_
      refine o_iret hC hB dX8_forward_18 (Nat.le_of_ble_eq_true rfl) (Nat.le_of_ble_eq_true rfl) ?_
      first
      | exact ⟨_, rfl, rfl, hq0, Or.inl ⟨Or.inl c_6, rfl⟩⟩
      | exact ⟨_, rfl, rfl, hq0, Or.inl ⟨Or.inr (by rw [← hrr]; exact Int32.not_lt.mp c_14), rfl⟩⟩

set_option maxHeartbeats 4000000 in
set_option maxRecDepth 100000 in
theorem cf_X8_ones (l : Launch) (D : va_G) (ids : Nat → ClassId) (H0 : Heap) (h : rl_H) (n : Nat) (x : Int64)  : rl_Met l (rl_e D ids H0) rl_BW rl_Ns yX8_ones cX8_ones 4 (some .int) ({ frames := 0, cells := 0, slots := 0, locals := 0 }) [.long x] h n (fun v h' n' => v = some (.int (mon x 36 0 (nI 0))) ∧ h' = h ∧ n' = n) := by
  refine rl_Met.of (by decide +kernel) (Nat.le_of_ble_eq_true rfl) ?_
  intro X hC hB
  have loop : ∀ (mm i : Nat) (c : Int32), i + mm = 36 → mon x mm i c = mon x 36 0 (nI 0) → rl_G X (rl_e D ids H0) 4 [some (.long x), none, some (.int c), some (.int (nI i))] [] h n 0 0 := by
    intro mm
    induction mm with
    | zero =>
      intro i c hm hi
      refine o_iload_n hC dX8_ones_4 (by rfl) ?_
      refine o_bipush (v := nI 36) hC dX8_ones_5 (by decide +kernel) ?_
      refine o_icmp_ge (tgt := 34) hC dX8_ones_7 (by decide) (fun c_7 => ?_) (fun c_7 => ?_)
      · refine o_iload_n hC dX8_ones_34 (by rfl) ?_
        refine o_iret hC hB dX8_ones_35 (Nat.le_of_ble_eq_true rfl) (Nat.le_of_ble_eq_true rfl) ?_
        exact ⟨by rw [← hi]; rfl, rfl, rfl⟩
      · exact absurd (nI_le (by omega) (by omega)) c_7
    | succ mm ih =>
      intro i c hm hi
      rw [mon_s x mm i c] at hi
      refine o_iload_n hC dX8_ones_4 (by rfl) ?_
      refine o_bipush (v := nI 36) hC dX8_ones_5 (by decide +kernel) ?_
      refine o_icmp_ge (tgt := 34) hC dX8_ones_7 (by decide) (fun c_7 => ?_) (fun c_7 => ?_)
      · exact absurd c_7 (nI_ge (by omega) (by omega))
      · refine o_iload_n hC dX8_ones_10 (by rfl) ?_
        refine o_lload_n hC dX8_ones_11 (by rfl) ?_
        refine o_iload_n hC dX8_ones_12 (by rfl) ?_
        refine o_lshr hC dX8_ones_13 ?_
        refine o_lconst (v := 1) hC dX8_ones_14 (by decide +kernel) ?_
        refine o_land hC dX8_ones_15 ?_
        refine o_lconst (v := 1) hC dX8_ones_16 (by decide +kernel) ?_
        refine o_lcmp hC dX8_ones_17 ?_
        refine o_if_ne (tgt := 25) hC dX8_ones_18 (by decide) (fun c_18 => ?_) (fun c_18 => ?_)
        · refine o_iconst (v := nI 0) hC dX8_ones_25 (by decide +kernel) ?_
          refine o_iadd hC dX8_ones_26 ?_
          refine o_istore_n hC dX8_ones_27 (Nat.le_of_ble_eq_true rfl) ?_
          refine o_iinc hC dX8_ones_28 (by rfl) (rl_inc _) (Nat.le_of_ble_eq_true rfl) ?_
          refine o_goto (tgt := 4) hC dX8_ones_31 (by decide) ?_
          first
          | (rw [if_pos ((lg_cmp_eq _ _).mp (by first | exact c_18 | exact Classical.not_not.mp c_18))] at hi; exact ih (i + 1) _ (by omega) hi)
          | (rw [if_neg (fun w => c_18 ((lg_cmp_eq _ _).mpr w))] at hi; exact ih (i + 1) _ (by omega) (by rw [ad0]; exact hi))
        · refine o_iconst (v := nI 1) hC dX8_ones_21 (by decide +kernel) ?_
          refine o_goto (tgt := 26) hC dX8_ones_22 (by decide) ?_
          refine o_iadd hC dX8_ones_26 ?_
          refine o_istore_n hC dX8_ones_27 (Nat.le_of_ble_eq_true rfl) ?_
          refine o_iinc hC dX8_ones_28 (by rfl) (rl_inc _) (Nat.le_of_ble_eq_true rfl) ?_
          refine o_goto (tgt := 4) hC dX8_ones_31 (by decide) ?_
          first
          | (rw [if_pos ((lg_cmp_eq _ _).mp (by first | exact c_18 | exact Classical.not_not.mp c_18))] at hi; exact ih (i + 1) _ (by omega) hi)
          | (rw [if_neg (fun w => c_18 ((lg_cmp_eq _ _).mpr w))] at hi; exact ih (i + 1) _ (by omega) (by rw [ad0]; exact hi))
  show rl_G X (rl_e D ids H0) 0 [some (.long x), none, none, none] [] h n 0 0
  refine o_iconst (v := nI 0) hC dX8_ones_0 (by decide +kernel) ?_
  refine o_istore_n hC dX8_ones_1 (Nat.le_of_ble_eq_true rfl) ?_
  refine o_iconst (v := nI 0) hC dX8_ones_2 (by decide +kernel) ?_
  refine o_istore_n hC dX8_ones_3 (Nat.le_of_ble_eq_true rfl) ?_
  exact loop 36 0 _ (by omega) rfl

set_option maxHeartbeats 4000000 in
set_option maxRecDepth 100000 in
theorem cf_X8_told (l : Launch) (D : va_G) (ids : Nat → ClassId) (H0 : Heap) (h : rl_H) (n : Nat) (m : Nat) (T : md_T) (fu : Int32) (k : Nat) (A : md_D) (S : md_A) (z : sh_S) (res : List arow) (rw : Nat) (w : Int32) (hq : mf ids h h m T fu k A) (hu : md_un ids h m T fu k S z) (hr : mrs A T res rw)  : rl_Met l (rl_e D ids H0) rl_BW rl_Ns yX8_told cX8_told 4 (some .int) ({ frames := 2, cells := 0, slots := 0, locals := 48 }) [.ref m, .int w] h n (fun v h' n' => ∃ r : Int32, v = some (.int r) ∧ n' = n ∧ mf ids h h' m (nI 0, T.2) fu k A ∧ (((w < 0 ∨ nI 5 < w) ∧ r = -2) ∨ (w = nI 0 ∧ r = nI z.1) ∨ (w = nI 1 ∧ r = nI z.2.2.1) ∨ (w = nI 2 ∧ r = nI z.2.2.2.1) ∨ (w = nI 3 ∧ r = nI res.length) ∨ (w = nI 4 ∧ r = hgo T.2.2.2.1 res (nI 0)) ∨ (w = nI 5 ∧ r = mon T.2.2.2.1 36 0 (nI 0)))) := by
  obtain ⟨hm0, g12, g13, g14, g15, g16, g17, g18, g19, g20, g21, g22⟩ := id hq
  have g0 := hm0.1
  have gk := hm0.2.1
  have b13 := hq.b13
  have b15 := hq.b15
  have b21 := hq.b21
  have hq0 := hq.ob (nI 0, T.2) fu k gk
  have r80 := hr.2.1.2.2
  have h16 := hr.1.1
  obtain ⟨-, hs, ⟨hsc, hsc4⟩, hwf, ⟨hrr, hr36⟩, ⟨hnc, hn16⟩, hnw, hpr, -, hwv, wrc, hrc6, hrc⟩ := id hu
  refine rl_Met.of (by decide +kernel) (Nat.le_of_ble_eq_true rfl) ?_
  intro X hC hB
  show rl_G X (rl_e D ids H0) 0 [some (.ref m), some (.int w), none, none] [] h n 0 0
  refine o_aload_n hC dX8_told_0 (by rfl) ?_
  refine o_iconst (v := nI 0) hC dX8_told_1 (by decide +kernel) ?_
  refine o_putf hC (fX8_78 hC rfl) (fwX8 rfl rfl rfl (Or.inl rfl)) dX8_told_2 (by repeat (first | with_reducible assumption | (rw [rl_u_s]; done) | (rw [rl_u_s]; rfl) | rw [rl_u_n (by first | with_reducible assumption | omega)])) (Nat.le_of_ble_eq_true rfl) ?_
  try simp only [List.set_cons_zero, List.set_cons_succ]
  refine o_iconst (v := nI 0) hC dX8_told_5 (by decide +kernel) ?_
  refine o_istore_n hC dX8_told_6 (Nat.le_of_ble_eq_true rfl) ?_
  refine o_iload_n hC dX8_told_7 (by rfl) ?_
  by_cases hw : w < 0 ∨ nI 5 < w
  · refine o_tableOut (tgt := 120) hC dX8_told_8 (rl_out (by decide) hw) (by decide) ?_
    refine o_bipush (v := (-2 : Int32)) hC dX8_told_120 (by decide +kernel) ?_
    refine o_iret hC hB dX8_told_122 (Nat.le_of_ble_eq_true rfl) (Nat.le_of_ble_eq_true rfl) ?_
    first
    | exact ⟨_, rfl, rfl, hq0, Or.inl ⟨hw, rfl⟩⟩
    | exact ⟨_, rfl, rfl, hq0, Or.inr (Or.inl ⟨rfl, hsc⟩)⟩
    | exact ⟨_, rfl, rfl, hq0, Or.inr (Or.inr (Or.inl ⟨rfl, hrr⟩))⟩
    | exact ⟨_, rfl, rfl, hq0, Or.inr (Or.inr (Or.inr (Or.inl ⟨rfl, hnc⟩)))⟩
    | exact ⟨_, rfl, rfl, hq0, Or.inr (Or.inr (Or.inr (Or.inr (Or.inl ⟨rfl, rfl⟩))))⟩
    | exact ⟨_, rfl, rfl, hq0, Or.inr (Or.inr (Or.inr (Or.inr (Or.inr (Or.inr ⟨rfl, rfl⟩)))))⟩
  · obtain ⟨j, hj, rfl⟩ := rl_inn (by decide) hw
    rcases (show j = 0 ∨ j = 1 ∨ j = 2 ∨ j = 3 ∨ j = 4 ∨ j = 5 by omega) with rfl | rfl | rfl | rfl | rfl | rfl
    · refine o_tableIn (off := 40) (tgt := 48) hC dX8_told_8 (by decide +kernel) (by decide +kernel) (by decide +kernel) (by decide) ?_
      refine o_aload_n hC dX8_told_48 (by rfl) ?_
      refine o_getf hC (fX8_109 hC rfl) dX8_told_49 (by repeat (first | with_reducible assumption | (rw [rl_u_s]; done) | (rw [rl_u_s]; rfl) | rw [rl_u_n (by first | with_reducible assumption | omega)])) (by first | rfl | with_reducible assumption) ?_
      refine o_iret hC hB dX8_told_52 (Nat.le_of_ble_eq_true rfl) (Nat.le_of_ble_eq_true rfl) ?_
      first
      | exact ⟨_, rfl, rfl, hq0, Or.inl ⟨hw, rfl⟩⟩
      | exact ⟨_, rfl, rfl, hq0, Or.inr (Or.inl ⟨rfl, hsc⟩)⟩
      | exact ⟨_, rfl, rfl, hq0, Or.inr (Or.inr (Or.inl ⟨rfl, hrr⟩))⟩
      | exact ⟨_, rfl, rfl, hq0, Or.inr (Or.inr (Or.inr (Or.inl ⟨rfl, hnc⟩)))⟩
      | exact ⟨_, rfl, rfl, hq0, Or.inr (Or.inr (Or.inr (Or.inr (Or.inl ⟨rfl, rfl⟩))))⟩
      | exact ⟨_, rfl, rfl, hq0, Or.inr (Or.inr (Or.inr (Or.inr (Or.inr (Or.inr ⟨rfl, rfl⟩)))))⟩
    · refine o_tableIn (off := 45) (tgt := 53) hC dX8_told_8 (by decide +kernel) (by decide +kernel) (by decide +kernel) (by decide) ?_
      refine o_aload_n hC dX8_told_53 (by rfl) ?_
      refine o_getf hC (fX8_112 hC rfl) dX8_told_54 (by repeat (first | with_reducible assumption | (rw [rl_u_s]; done) | (rw [rl_u_s]; rfl) | rw [rl_u_n (by first | with_reducible assumption | omega)])) (by first | rfl | with_reducible assumption) ?_
      refine o_iret hC hB dX8_told_57 (Nat.le_of_ble_eq_true rfl) (Nat.le_of_ble_eq_true rfl) ?_
      first
      | exact ⟨_, rfl, rfl, hq0, Or.inl ⟨hw, rfl⟩⟩
      | exact ⟨_, rfl, rfl, hq0, Or.inr (Or.inl ⟨rfl, hsc⟩)⟩
      | exact ⟨_, rfl, rfl, hq0, Or.inr (Or.inr (Or.inl ⟨rfl, hrr⟩))⟩
      | exact ⟨_, rfl, rfl, hq0, Or.inr (Or.inr (Or.inr (Or.inl ⟨rfl, hnc⟩)))⟩
      | exact ⟨_, rfl, rfl, hq0, Or.inr (Or.inr (Or.inr (Or.inr (Or.inl ⟨rfl, rfl⟩))))⟩
      | exact ⟨_, rfl, rfl, hq0, Or.inr (Or.inr (Or.inr (Or.inr (Or.inr (Or.inr ⟨rfl, rfl⟩)))))⟩
    · refine o_tableIn (off := 50) (tgt := 58) hC dX8_told_8 (by decide +kernel) (by decide +kernel) (by decide +kernel) (by decide) ?_
      refine o_aload_n hC dX8_told_58 (by rfl) ?_
      refine o_getf hC (fX8_119 hC rfl) dX8_told_59 (by repeat (first | with_reducible assumption | (rw [rl_u_s]; done) | (rw [rl_u_s]; rfl) | rw [rl_u_n (by first | with_reducible assumption | omega)])) (by first | rfl | with_reducible assumption) ?_
      refine o_iret hC hB dX8_told_62 (Nat.le_of_ble_eq_true rfl) (Nat.le_of_ble_eq_true rfl) ?_
      first
      | exact ⟨_, rfl, rfl, hq0, Or.inl ⟨hw, rfl⟩⟩
      | exact ⟨_, rfl, rfl, hq0, Or.inr (Or.inl ⟨rfl, hsc⟩)⟩
      | exact ⟨_, rfl, rfl, hq0, Or.inr (Or.inr (Or.inl ⟨rfl, hrr⟩))⟩
      | exact ⟨_, rfl, rfl, hq0, Or.inr (Or.inr (Or.inr (Or.inl ⟨rfl, hnc⟩)))⟩
      | exact ⟨_, rfl, rfl, hq0, Or.inr (Or.inr (Or.inr (Or.inr (Or.inl ⟨rfl, rfl⟩))))⟩
      | exact ⟨_, rfl, rfl, hq0, Or.inr (Or.inr (Or.inr (Or.inr (Or.inr (Or.inr ⟨rfl, rfl⟩)))))⟩
    · refine o_tableIn (off := 55) (tgt := 63) hC dX8_told_8 (by decide +kernel) (by decide +kernel) (by decide +kernel) (by decide) ?_
      refine o_aload_n hC dX8_told_63 (by rfl) ?_
      refine o_getf hC (fX8_46 hC rfl) dX8_told_64 (by repeat (first | with_reducible assumption | (rw [rl_u_s]; done) | (rw [rl_u_s]; rfl) | rw [rl_u_n (by first | with_reducible assumption | omega)])) (by first | rfl | with_reducible assumption) ?_
      refine o_bipush (v := nI 16) hC dX8_told_67 (by decide +kernel) ?_
      refine o_ialdN (t0 := 0) (k := 16) hC rfl dX8_told_69 (by repeat (first | with_reducible assumption | (rw [rl_u_s]; done) | (rw [rl_u_s]; rfl) | rw [rl_u_n (by first | with_reducible assumption | omega)])) (by decide) (by decide) ?_
      rw [h16]
      refine o_iret hC hB dX8_told_70 (Nat.le_of_ble_eq_true rfl) (Nat.le_of_ble_eq_true rfl) ?_
      first
      | exact ⟨_, rfl, rfl, hq0, Or.inl ⟨hw, rfl⟩⟩
      | exact ⟨_, rfl, rfl, hq0, Or.inr (Or.inl ⟨rfl, hsc⟩)⟩
      | exact ⟨_, rfl, rfl, hq0, Or.inr (Or.inr (Or.inl ⟨rfl, hrr⟩))⟩
      | exact ⟨_, rfl, rfl, hq0, Or.inr (Or.inr (Or.inr (Or.inl ⟨rfl, hnc⟩)))⟩
      | exact ⟨_, rfl, rfl, hq0, Or.inr (Or.inr (Or.inr (Or.inr (Or.inl ⟨rfl, rfl⟩))))⟩
      | exact ⟨_, rfl, rfl, hq0, Or.inr (Or.inr (Or.inr (Or.inr (Or.inr (Or.inr ⟨rfl, rfl⟩)))))⟩
    · refine o_tableIn (off := 63) (tgt := 71) hC dX8_told_8 (by decide +kernel) (by decide +kernel) (by decide +kernel) (by decide) ?_
      refine o_iconst (v := nI 0) hC dX8_told_71 (by decide +kernel) ?_
      refine o_istore_n hC dX8_told_72 (Nat.le_of_ble_eq_true rfl) ?_
      have loop : ∀ (mm t : Nat) (c : Int32), t + mm = res.length → hgo T.2.2.2.1 (res.drop t) c = hgo T.2.2.2.1 res (nI 0) → rl_G X (rl_e D ids H0) 73 [some (.ref m), some (.int (nI 4)), some (.int c), some (.int (nI t))] [] (rl_u h m (md_ob m (nI 0, T.2) fu k)) n 0 0 := by
        intro mm
        induction mm with
        | zero =>
          intro t c hm hi
          refine o_iload_n hC dX8_told_73 (by rfl) ?_
          refine o_aload_n hC dX8_told_74 (by rfl) ?_
          refine o_getf hC (fX8_46 hC rfl) dX8_told_75 (by repeat (first | with_reducible assumption | (rw [rl_u_s]; done) | (rw [rl_u_s]; rfl) | rw [rl_u_n (by first | with_reducible assumption | omega)])) (by first | rfl | with_reducible assumption) ?_
          refine o_bipush (v := nI 16) hC dX8_told_78 (by decide +kernel) ?_
          refine o_ialdN (t0 := 0) (k := 16) hC rfl dX8_told_80 (by repeat (first | with_reducible assumption | (rw [rl_u_s]; done) | (rw [rl_u_s]; rfl) | rw [rl_u_n (by first | with_reducible assumption | omega)])) (by decide) (by decide) ?_
          rw [h16]
          refine o_icmp_ge (tgt := 110) hC dX8_told_81 (by decide) (fun c_81 => ?_) (fun c_81 => ?_)
          · refine o_iload_n hC dX8_told_110 (by rfl) ?_
            refine o_iret hC hB dX8_told_111 (Nat.le_of_ble_eq_true rfl) (Nat.le_of_ble_eq_true rfl) ?_
            exact ⟨_, rfl, rfl, hq0, Or.inr (Or.inr (Or.inr (Or.inr (Or.inr (Or.inl ⟨rfl, by rw [← hi, List.drop_eq_nil_of_le (by omega)]; rfl⟩)))))⟩
          · exact absurd (nI_le (by omega) (by omega)) c_81
        | succ mm ih =>
          intro t c hm hi
          have ht : t < 80 := by omega
          have hws : mws A (1280 + t) (ark res t).2 := (hr.1.2 t (by omega)).2
          rw [ark_dropp (show t < res.length by omega)] at hi
          rw [hgo_c] at hi
          rw [oi1] at hi
          refine o_iload_n hC dX8_told_73 (by rfl) ?_
          refine o_aload_n hC dX8_told_74 (by rfl) ?_
          refine o_getf hC (fX8_46 hC rfl) dX8_told_75 (by repeat (first | with_reducible assumption | (rw [rl_u_s]; done) | (rw [rl_u_s]; rfl) | rw [rl_u_n (by first | with_reducible assumption | omega)])) (by first | rfl | with_reducible assumption) ?_
          refine o_bipush (v := nI 16) hC dX8_told_78 (by decide +kernel) ?_
          refine o_ialdN (t0 := 0) (k := 16) hC rfl dX8_told_80 (by repeat (first | with_reducible assumption | (rw [rl_u_s]; done) | (rw [rl_u_s]; rfl) | rw [rl_u_n (by first | with_reducible assumption | omega)])) (by decide) (by decide) ?_
          rw [h16]
          refine o_icmp_ge (tgt := 110) hC dX8_told_81 (by decide) (fun c_81 => ?_) (fun c_81 => ?_)
          · exact absurd c_81 (nI_ge (by omega) (by omega))
          · refine o_iload_n hC dX8_told_84 (by rfl) ?_
            refine o_aload_n hC dX8_told_85 (by rfl) ?_
            refine o_iload_n hC dX8_told_86 (by rfl) ?_
            refine o_aload_n hC dX8_told_87 (by rfl) ?_
            refine o_getf hC (fX8_115 hC rfl) dX8_told_88 (by repeat (first | with_reducible assumption | (rw [rl_u_s]; done) | (rw [rl_u_s]; rfl) | rw [rl_u_n (by first | with_reducible assumption | omega)])) (by first | rfl | with_reducible assumption) ?_
            refine o_callV2 hC rl_BW_good rl_Ns_nw (by exact hB.2.2.2.2.2) YX8_isSo IX8_isSo VX8_isSo (mX8_206 hC) (by rw [hB.1]; exact cf_X8_isSo l D ids H0 _ _ m _ _ _ _ t _ _ hq0.rf ht hws) (by exact hq0.1.1) rfl rfl (Nat.le_of_ble_eq_true rfl) (by rw [hB.2.1]; first | exact Nat.le_of_ble_eq_true rfl | (dsimp only; omega)) (by rw [hB.2.1]; first | exact Nat.le_of_ble_eq_true rfl | (dsimp only; omega)) (by rw [hB.2.1]; first | exact Nat.le_of_ble_eq_true rfl | (dsimp only; omega)) (by rw [hB.2.1]; first | exact Nat.le_of_ble_eq_true rfl | (dsimp only; omega)) dX8_told_91 (fun v h_91 n_91 p_91 => ?_)
            obtain ⟨rfl, rfl, rfl⟩ := p_91
            try dsimp only [Option.toList, List.cons_append, List.nil_append]
            refine o_if_eq (tgt := 101) hC dX8_told_94 (by decide) (fun c_94 => ?_) (fun c_94 => ?_)
            · refine o_iconst (v := nI 0) hC dX8_told_101 (by decide +kernel) ?_
              refine o_iadd hC dX8_told_102 ?_
              refine o_istore_n hC dX8_told_103 (Nat.le_of_ble_eq_true rfl) ?_
              refine o_iinc hC dX8_told_104 (by rfl) (rl_inc _) (Nat.le_of_ble_eq_true rfl) ?_
              refine o_goto (tgt := 73) hC dX8_told_107 (by decide) ?_
              by_cases e9 : wfh T.2.2.2.1 (ark res t).2 0 = -1
              · rw [if_pos e9] at c_94 hi
                first
                | exact absurd rfl c_94
                | exact ih (t + 1) _ (by omega) (by rw [ad0]; exact hi)
              · rw [if_neg e9] at c_94 hi
                first
                | exact absurd c_94 (by decide +kernel)
                | exact ih (t + 1) _ (by omega) hi
            · refine o_iconst (v := nI 1) hC dX8_told_97 (by decide +kernel) ?_
              refine o_goto (tgt := 102) hC dX8_told_98 (by decide) ?_
              refine o_iadd hC dX8_told_102 ?_
              refine o_istore_n hC dX8_told_103 (Nat.le_of_ble_eq_true rfl) ?_
              refine o_iinc hC dX8_told_104 (by rfl) (rl_inc _) (Nat.le_of_ble_eq_true rfl) ?_
              refine o_goto (tgt := 73) hC dX8_told_107 (by decide) ?_
              by_cases e9 : wfh T.2.2.2.1 (ark res t).2 0 = -1
              · rw [if_pos e9] at c_94 hi
                first
                | exact absurd rfl c_94
                | exact ih (t + 1) _ (by omega) (by rw [ad0]; exact hi)
              · rw [if_neg e9] at c_94 hi
                first
                | exact absurd c_94 (by decide +kernel)
                | exact ih (t + 1) _ (by omega) hi
      exact loop res.length 0 _ (by omega) rfl
    · refine o_tableIn (off := 104) (tgt := 112) hC dX8_told_8 (by decide +kernel) (by decide +kernel) (by decide +kernel) (by decide) ?_
      refine o_aload_n hC dX8_told_112 (by rfl) ?_
      refine o_getf hC (fX8_115 hC rfl) dX8_told_113 (by repeat (first | with_reducible assumption | (rw [rl_u_s]; done) | (rw [rl_u_s]; rfl) | rw [rl_u_n (by first | with_reducible assumption | omega)])) (by first | rfl | with_reducible assumption) ?_
      refine o_callS1 hC rl_BW_good rl_Ns_nw (by exact hB.2.2.2.2.2) YX8_ones SX8_ones (mX8_220 hC) (by rw [hB.1]; exact cf_X8_ones l D ids H0 _ _ _) (Nat.le_of_ble_eq_true rfl) (by rw [hB.2.1]; first | exact Nat.le_of_ble_eq_true rfl | (dsimp only; omega)) (by rw [hB.2.1]; first | exact Nat.le_of_ble_eq_true rfl | (dsimp only; omega)) (by rw [hB.2.1]; first | exact Nat.le_of_ble_eq_true rfl | (dsimp only; omega)) (by rw [hB.2.1]; first | exact Nat.le_of_ble_eq_true rfl | (dsimp only; omega)) dX8_told_116 (fun v h_116 n_116 p_116 => ?_)
      obtain ⟨rfl, rfl, rfl⟩ := p_116
      try dsimp only [Option.toList, List.cons_append, List.nil_append]
      refine o_iret hC hB dX8_told_119 (Nat.le_of_ble_eq_true rfl) (Nat.le_of_ble_eq_true rfl) ?_
      first
      | exact ⟨_, rfl, rfl, hq0, Or.inl ⟨hw, rfl⟩⟩
      | exact ⟨_, rfl, rfl, hq0, Or.inr (Or.inl ⟨rfl, hsc⟩)⟩
      | exact ⟨_, rfl, rfl, hq0, Or.inr (Or.inr (Or.inl ⟨rfl, hrr⟩))⟩
      | exact ⟨_, rfl, rfl, hq0, Or.inr (Or.inr (Or.inr (Or.inl ⟨rfl, hnc⟩)))⟩
      | exact ⟨_, rfl, rfl, hq0, Or.inr (Or.inr (Or.inr (Or.inr (Or.inl ⟨rfl, rfl⟩))))⟩
      | exact ⟨_, rfl, rfl, hq0, Or.inr (Or.inr (Or.inr (Or.inr (Or.inr (Or.inr ⟨rfl, rfl⟩)))))⟩
