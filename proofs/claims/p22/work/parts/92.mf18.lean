/-! THE MODEL, functionally: matters -/

set_option maxHeartbeats 4000000 in
set_option maxRecDepth 100000 in
theorem cf_X8_matters (l : Launch) (D : va_G) (ids : Nat → ClassId) (H0 : Heap) (h : rl_H) (n : Nat) (m : Nat) (T : md_T) (fu : Int32) (k : Nat) (A : md_D) (S : md_A) (z : sh_S) (res : List arow) (rw : Nat) (q r : Int32) (hq : mf ids h h m T fu k A) (hu : md_un ids h m T fu k S z) (hr : mrs A T res rw) (hal : ∀ t : Nat, t < res.length → l64 (trw (ark res t).2) < 2 ^ 36) : rl_Met l (rl_e D ids H0) rl_BW rl_Ns yX8_matters cX8_matters 6 (some .int) ({ frames := 2, cells := 0, slots := 0, locals := 48 }) [.ref m, .int q, .int r] h n (fun v h' n' => ∃ r2 : Int32, v = some (.int r2) ∧ n' = n ∧ mdx ids h' m T z (fun S' => S' = S) (∀ q : Nat, m + 12 ≤ q → q < m + 22 → h' q = h q) ∧ rl_fr h h' m (m + 23) ∧ (((¬ (∃ t : Nat, t < res.length ∧ q = nI t) ∨ (r < 0 ∨ nI z.2.2.1 ≤ r)) ∧ r2 = -1) ∨ ∃ t : Nat, t < res.length ∧ q = nI t ∧ ¬ (r < 0 ∨ nI z.2.2.1 ≤ r) ∧ r2 = (if (rin (trw (ark res t).2) z.2.2.1).length ≤ 16 then mma (ark res t).2 ((1 : Int64) <<< (r.toInt64 &&& 63)) (rin (trw (ark res t).2) z.2.2.1) (2 ^ (rin (trw (ark res t).2) z.2.2.1).length) 0 else (-4 : Int32)))) := by
  obtain ⟨hm0, g12, g13, g14, g15, g16, g17, g18, g19, g20, g21, g22⟩ := id hq
  have g0 := hm0.1
  have gk := hm0.2.1
  have b13 := hq.b13
  have b15 := hq.b15
  have b21 := hq.b21
  have hq0 := hq.ob (nI 0, T.2) fu k gk
  have r80 := hr.2.1.2.2
  have h16 := hr.1.1
  obtain ⟨-, hs, ⟨hsc, hsc4⟩, hwf, ⟨hrr, hr36⟩, ⟨hnc, hn16⟩, hnw, hpr, -, hwv, wrc, hrc6, hrc⟩ := id hu
  refine rl_Met.of (by decide +kernel) (Nat.le_of_ble_eq_true rfl) ?_
  intro X hC hB
  show rl_G X (rl_e D ids H0) 0 [some (.ref m), some (.int q), some (.int r), none, none, none] [] h n 0 0
  refine o_aload_n hC dX8_matters_0 (by rfl) ?_
  refine o_iconst (v := nI 0) hC dX8_matters_1 (by decide +kernel) ?_
  refine o_putf hC (fX8_78 hC rfl) (fwX8 rfl rfl rfl (Or.inl rfl)) dX8_matters_2 (by repeat (first | with_reducible assumption | (rw [rl_u_s]; done) | (rw [rl_u_s]; rfl) | rw [rl_u_n (by first | with_reducible assumption | omega)])) (Nat.le_of_ble_eq_true rfl) ?_
  try simp only [List.set_cons_zero, List.set_cons_succ]
  refine o_aload_n hC dX8_matters_5 (by rfl) ?_
  refine o_iload_n hC dX8_matters_6 (by rfl) ?_
  refine o_callV1 hC rl_BW_good rl_Ns_nw (by exact hB.2.2.2.2.2) YX8_isTuple IX8_isTuple VX8_isTuple (mX8_199 hC) (by rw [hB.1]; exact ct_X8_isTuple l D ids H0 _ _ m (m + 13) _ _ A.2.1 (by repeat (first | with_reducible assumption | (rw [rl_u_s]; done) | (rw [rl_u_s]; rfl) | rw [rl_u_n (by first | with_reducible assumption | omega)])) rfl (by repeat (first | with_reducible assumption | (rw [rl_u_s]; done) | (rw [rl_u_s]; rfl) | rw [rl_u_n (by first | with_reducible assumption | omega)]))) (by repeat (first | with_reducible assumption | (rw [rl_u_s]; done) | (rw [rl_u_s]; rfl) | rw [rl_u_n (by first | with_reducible assumption | omega)])) rfl rfl (Nat.le_of_ble_eq_true rfl) (by rw [hB.2.1]; first | exact Nat.le_of_ble_eq_true rfl | (dsimp only; omega)) (by rw [hB.2.1]; first | exact Nat.le_of_ble_eq_true rfl | (dsimp only; omega)) (by rw [hB.2.1]; first | exact Nat.le_of_ble_eq_true rfl | (dsimp only; omega)) (by rw [hB.2.1]; first | exact Nat.le_of_ble_eq_true rfl | (dsimp only; omega)) dX8_matters_7 (fun v h_7 n_7 p_7 => ?_)
  obtain ⟨rfl, rfl, rfl⟩ := p_7
  try dsimp only [Option.toList, List.cons_append, List.nil_append]
  by_cases hr9 : q < 0 ∨ A.2.1 16 ≤ q
  · rw [if_pos hr9]
    have nin : ¬ (∃ t : Nat, t < res.length ∧ q = nI t) := fun ⟨t, ht, e⟩ => hr9.elim (fun u => absurd u (by rw [e]; exact nI_pos (by omega))) (fun u => absurd u (by rw [h16, e]; exact nI_ge ht (by omega)))
    refine o_if_eq (tgt := 25) hC dX8_matters_10 (by decide) (fun c_10 => ?_) (fun c_10 => ?_)
    · refine o_iconst (v := (-1 : Int32)) hC dX8_matters_25 (by decide +kernel) ?_
      refine o_iret hC hB dX8_matters_26 (Nat.le_of_ble_eq_true rfl) (Nat.le_of_ble_eq_true rfl) ?_
      exact ⟨_, rfl, rfl, ⟨_, _, _, S, hu.dp hq0.1 rfl rfl rfl rfl ⟨wrc, hrc6, hrc⟩, rfl, rfl, (fun q a b => rl_u_n (by omega))⟩, hq0.1.fr, Or.inl ⟨Or.inl nin, rfl⟩⟩
    · exact absurd rfl c_10
  · rw [if_neg hr9]
    obtain ⟨t, htl, rfl⟩ := nI_of_lt (k := res.length) (by omega) (fun e => hr9 (Or.inl e)) (fun e => hr9 (Or.inr (by rw [h16]; exact e)))
    have ht : t < 80 := by omega
    have hrw := hr.1.2 t htl
    have hws : mws A (1280 + t) (ark res t).2 := hrw.2
    have g00 := hq0.1.1
    refine o_if_eq (tgt := 25) hC dX8_matters_10 (by decide) (fun c_10 => ?_) (fun c_10 => ?_)
    · refine o_iconst (v := (-1 : Int32)) hC dX8_matters_25 (by decide +kernel) ?_
      refine o_iret hC hB dX8_matters_26 (Nat.le_of_ble_eq_true rfl) (Nat.le_of_ble_eq_true rfl) ?_
      first
      | exact absurd c_10 (by decide +kernel)
      | exact ⟨_, rfl, rfl, ⟨_, _, _, S, hu.dp hq0.1 rfl rfl rfl rfl ⟨wrc, hrc6, hrc⟩, rfl, rfl, (fun q a b => rl_u_n (by omega))⟩, hq0.1.fr, Or.inl ⟨Or.inr (Or.inl c_14), rfl⟩⟩
      | exact ⟨_, rfl, rfl, ⟨_, _, _, S, hu.dp hq0.1 rfl rfl rfl rfl ⟨wrc, hrc6, hrc⟩, rfl, rfl, (fun q a b => rl_u_n (by omega))⟩, hq0.1.fr, Or.inl ⟨Or.inr (Or.inr (by rw [← hrr]; exact Int32.not_lt.mp c_22)), rfl⟩⟩
    · refine o_iload_n hC dX8_matters_13 (by rfl) ?_
      refine o_if_lt (tgt := 25) hC dX8_matters_14 (by decide) (fun c_14 => ?_) (fun c_14 => ?_)
      · refine o_iconst (v := (-1 : Int32)) hC dX8_matters_25 (by decide +kernel) ?_
        refine o_iret hC hB dX8_matters_26 (Nat.le_of_ble_eq_true rfl) (Nat.le_of_ble_eq_true rfl) ?_
        first
        | exact absurd c_10 (by decide +kernel)
        | exact ⟨_, rfl, rfl, ⟨_, _, _, S, hu.dp hq0.1 rfl rfl rfl rfl ⟨wrc, hrc6, hrc⟩, rfl, rfl, (fun q a b => rl_u_n (by omega))⟩, hq0.1.fr, Or.inl ⟨Or.inr (Or.inl c_14), rfl⟩⟩
        | exact ⟨_, rfl, rfl, ⟨_, _, _, S, hu.dp hq0.1 rfl rfl rfl rfl ⟨wrc, hrc6, hrc⟩, rfl, rfl, (fun q a b => rl_u_n (by omega))⟩, hq0.1.fr, Or.inl ⟨Or.inr (Or.inr (by rw [← hrr]; exact Int32.not_lt.mp c_22)), rfl⟩⟩
      · refine o_iload_n hC dX8_matters_17 (by rfl) ?_
        refine o_aload_n hC dX8_matters_18 (by rfl) ?_
        refine o_getf hC (fX8_112 hC rfl) dX8_matters_19 (by repeat (first | with_reducible assumption | (rw [rl_u_s]; done) | (rw [rl_u_s]; rfl) | rw [rl_u_n (by first | with_reducible assumption | omega)])) (by first | rfl | with_reducible assumption) ?_
        refine o_icmp_lt (tgt := 27) hC dX8_matters_22 (by decide) (fun c_22 => ?_) (fun c_22 => ?_)
        · have hnb : ¬ (r < 0 ∨ nI z.2.2.1 ≤ r) := fun w => w.elim c_14 (fun u => absurd u (Int32.not_le.mpr (by rw [← hrr]; exact c_22)))
          refine o_aload_n hC dX8_matters_27 (by rfl) ?_
          refine o_iload_n hC dX8_matters_28 (by rfl) ?_
          refine o_callV1 hC rl_BW_good rl_Ns_nw (by exact hB.2.2.2.2.2) YX8_stand IX8_stand VX8_stand (mX8_213 hC) (by rw [hB.1]; exact cf_X8_stand l D ids H0 _ _ m _ _ _ _ t z.2.2.1 _ hq0.rf ht hws hrr hr36 (hal t htl)) (by exact hq0.1.1) rfl rfl (Nat.le_of_ble_eq_true rfl) (by rw [hB.2.1]; first | exact Nat.le_of_ble_eq_true rfl | (dsimp only; omega)) (by rw [hB.2.1]; first | exact Nat.le_of_ble_eq_true rfl | (dsimp only; omega)) (by rw [hB.2.1]; first | exact Nat.le_of_ble_eq_true rfl | (dsimp only; omega)) (by rw [hB.2.1]; first | exact Nat.le_of_ble_eq_true rfl | (dsimp only; omega)) dX8_matters_29 (fun v h_29 n_29 p_29 => ?_)
          obtain ⟨it, rfl, rfl, q29, hit, dst⟩ := p_29
          have hq2 := hq0.tr q29
          have g02 := hq2.1.1
          try dsimp only [Option.toList, List.cons_append, List.nil_append]
          refine o_if_ne (tgt := 38) hC dX8_matters_32 (by decide) (fun c_32 => ?_) (fun c_32 => ?_)
          · have n16 : (rin (trw (ark res t).2) z.2.2.1).length ≤ 16 := Classical.byContradiction (fun u => c_32 (by rw [if_neg u]; rfl))
            refine o_iconst (v := nI 0) hC dX8_matters_38 (by decide +kernel) ?_
            refine o_istore_n hC dX8_matters_39 (Nat.le_of_ble_eq_true rfl) ?_
            have p16 : 2 ^ (rin (trw (ark res t).2) z.2.2.1).length ≤ 2 ^ 16 := Nat.pow_le_pow_right (by decide) n16
            have shk := shl_k (rin (trw (ark res t).2) z.2.2.1).length (by omega)
            have loop : ∀ (mm sn : Nat) (o4 : Option Value), sn + mm = 2 ^ (rin (trw (ark res t).2) z.2.2.1).length → mma (ark res t).2 ((1 : Int64) <<< (r.toInt64 &&& 63)) (rin (trw (ark res t).2) z.2.2.1) mm sn = mma (ark res t).2 ((1 : Int64) <<< (r.toInt64 &&& 63)) (rin (trw (ark res t).2) z.2.2.1) (2 ^ (rin (trw (ark res t).2) z.2.2.1).length) 0 → rl_G X (rl_e D ids H0) 40 [some (.ref m), some (.int (nI t)), some (.int r), some (.int (nI sn)), o4, none] [] h_29 n_29 0 0 := by
              intro mm
              induction mm with
              | zero =>
                intro sn o4 hm hi
                refine o_iload_n hC dX8_matters_40 (by rfl) ?_
                refine o_iconst (v := nI 1) hC dX8_matters_41 (by decide +kernel) ?_
                refine o_aload_n hC dX8_matters_42 (by rfl) ?_
                refine o_getf hC (fX8_210 hC rfl) dX8_matters_43 (by repeat (first | with_reducible assumption | (rw [rl_u_s]; done) | (rw [rl_u_s]; rfl) | rw [rl_u_n (by first | with_reducible assumption | omega)])) (by first | rfl | with_reducible assumption) ?_
                refine o_ishl hC dX8_matters_46 ?_
                rw [shk]
                refine o_icmp_ge (tgt := 94) hC dX8_matters_47 (by decide) (fun c_47 => ?_) (fun c_47 => ?_)
                · refine o_iconst (v := nI 0) hC dX8_matters_94 (by decide +kernel) ?_
                  refine o_iret hC hB dX8_matters_95 (Nat.le_of_ble_eq_true rfl) (Nat.le_of_ble_eq_true rfl) ?_
                  exact ⟨_, rfl, rfl, ⟨_, _, _, S, hu.dp hq2.1 rfl rfl rfl rfl ⟨wrc, hrc6, hrc⟩, rfl, rfl, (fun q a b => (dst q a b).trans (rl_u_n (by omega)))⟩, hq2.1.fr, Or.inr ⟨t, htl, rfl, hnb, by rw [if_pos n16, ← hi]; rfl⟩⟩
                · exact absurd (nI_le (by omega) (by omega)) c_47
              | succ mm ih =>
                intro sn o4 hm hi
                have hi : (if (wfh (rsn (rin (trw (ark res t).2) z.2.2.1) sn &&& (((1 : Int64) <<< (r.toInt64 &&& 63)) ^^^ (-1))) (ark res t).2 0 = -1 ↔ wfh (rsn (rin (trw (ark res t).2) z.2.2.1) sn ||| ((1 : Int64) <<< (r.toInt64 &&& 63))) (ark res t).2 0 = -1) then mma (ark res t).2 ((1 : Int64) <<< (r.toInt64 &&& 63)) (rin (trw (ark res t).2) z.2.2.1) mm (sn + 1) else nI 1) = _ := hi
                refine o_iload_n hC dX8_matters_40 (by rfl) ?_
                refine o_iconst (v := nI 1) hC dX8_matters_41 (by decide +kernel) ?_
                refine o_aload_n hC dX8_matters_42 (by rfl) ?_
                refine o_getf hC (fX8_210 hC rfl) dX8_matters_43 (by repeat (first | with_reducible assumption | (rw [rl_u_s]; done) | (rw [rl_u_s]; rfl) | rw [rl_u_n (by first | with_reducible assumption | omega)])) (by first | rfl | with_reducible assumption) ?_
                refine o_ishl hC dX8_matters_46 ?_
                rw [shk]
                refine o_icmp_ge (tgt := 94) hC dX8_matters_47 (by decide) (fun c_47 => ?_) (fun c_47 => ?_)
                · exact absurd c_47 (nI_ge (by omega) (by omega))
                · refine o_aload_n hC dX8_matters_50 (by rfl) ?_
                  refine o_iload_n hC dX8_matters_51 (by rfl) ?_
                  refine o_callV1 hC rl_BW_good rl_Ns_nw (by exact hB.2.2.2.2.2) YX8_rowsOf IX8_rowsOf VX8_rowsOf (mX8_216 hC) (by rw [hB.1]; exact cf_X8_rowsOf l D ids H0 _ _ m _ _ _ _ sn (rin (trw (ark res t).2) z.2.2.1) hq2.rf rfl hit n16 (by omega)) (by exact hq2.1.1) rfl rfl (Nat.le_of_ble_eq_true rfl) (by rw [hB.2.1]; first | exact Nat.le_of_ble_eq_true rfl | (dsimp only; omega)) (by rw [hB.2.1]; first | exact Nat.le_of_ble_eq_true rfl | (dsimp only; omega)) (by rw [hB.2.1]; first | exact Nat.le_of_ble_eq_true rfl | (dsimp only; omega)) (by rw [hB.2.1]; first | exact Nat.le_of_ble_eq_true rfl | (dsimp only; omega)) dX8_matters_52 (fun v h_52 n_52 p_52 => ?_)
                  obtain ⟨rfl, rfl, rfl⟩ := p_52
                  try dsimp only [Option.toList, List.cons_append, List.nil_append]
                  refine o_lstore hC dX8_matters_55 (Nat.le_of_ble_eq_true rfl) ?_
                  refine o_aload_n hC dX8_matters_57 (by rfl) ?_
                  refine o_iload_n hC dX8_matters_58 (by rfl) ?_
                  refine o_lload hC dX8_matters_59 (by rfl) ?_
                  refine o_lconst (v := 1) hC dX8_matters_61 (by decide +kernel) ?_
                  refine o_iload_n hC dX8_matters_62 (by rfl) ?_
                  refine o_lshl hC dX8_matters_63 ?_
                  refine o_ldc2 hC nX8_85 dX8_matters_64 ?_
                  refine o_lxor hC dX8_matters_67 ?_
                  refine o_land hC dX8_matters_68 ?_
                  refine o_callV2 hC rl_BW_good rl_Ns_nw (by exact hB.2.2.2.2.2) YX8_isSo IX8_isSo VX8_isSo (mX8_206 hC) (by rw [hB.1]; exact cf_X8_isSo l D ids H0 _ _ m _ _ _ _ t _ (ark res t).2 hq2.rf ht hws) (by exact hq2.1.1) rfl rfl (Nat.le_of_ble_eq_true rfl) (by rw [hB.2.1]; first | exact Nat.le_of_ble_eq_true rfl | (dsimp only; omega)) (by rw [hB.2.1]; first | exact Nat.le_of_ble_eq_true rfl | (dsimp only; omega)) (by rw [hB.2.1]; first | exact Nat.le_of_ble_eq_true rfl | (dsimp only; omega)) (by rw [hB.2.1]; first | exact Nat.le_of_ble_eq_true rfl | (dsimp only; omega)) dX8_matters_69 (fun v h_69 n_69 p_69 => ?_)
                  obtain ⟨rfl, rfl, rfl⟩ := p_69
                  try dsimp only [Option.toList, List.cons_append, List.nil_append]
                  refine o_aload_n hC dX8_matters_72 (by rfl) ?_
                  refine o_iload_n hC dX8_matters_73 (by rfl) ?_
                  refine o_lload hC dX8_matters_74 (by rfl) ?_
                  refine o_lconst (v := 1) hC dX8_matters_76 (by decide +kernel) ?_
                  refine o_iload_n hC dX8_matters_77 (by rfl) ?_
                  refine o_lshl hC dX8_matters_78 ?_
                  refine o_lor hC dX8_matters_79 ?_
                  refine o_callV2 hC rl_BW_good rl_Ns_nw (by exact hB.2.2.2.2.2) YX8_isSo IX8_isSo VX8_isSo (mX8_206 hC) (by rw [hB.1]; exact cf_X8_isSo l D ids H0 _ _ m _ _ _ _ t _ (ark res t).2 hq2.rf ht hws) (by exact hq2.1.1) rfl rfl (Nat.le_of_ble_eq_true rfl) (by rw [hB.2.1]; first | exact Nat.le_of_ble_eq_true rfl | (dsimp only; omega)) (by rw [hB.2.1]; first | exact Nat.le_of_ble_eq_true rfl | (dsimp only; omega)) (by rw [hB.2.1]; first | exact Nat.le_of_ble_eq_true rfl | (dsimp only; omega)) (by rw [hB.2.1]; first | exact Nat.le_of_ble_eq_true rfl | (dsimp only; omega)) dX8_matters_80 (fun v h_80 n_80 p_80 => ?_)
                  obtain ⟨rfl, rfl, rfl⟩ := p_80
                  try dsimp only [Option.toList, List.cons_append, List.nil_append]
                  refine o_icmp_eq (tgt := 88) hC dX8_matters_83 (by decide) (fun c_83 => ?_) (fun c_83 => ?_)
                  · refine o_iinc hC dX8_matters_88 (by rfl) (rl_inc _) (Nat.le_of_ble_eq_true rfl) ?_
                    refine o_goto (tgt := 40) hC dX8_matters_91 (by decide) ?_
                    rw [if_pos ((tf_iff _ _).mp c_83)] at hi
                    exact ih (sn + 1) _ (by omega) hi
                  · refine o_iconst (v := nI 1) hC dX8_matters_86 (by decide +kernel) ?_
                    refine o_iret hC hB dX8_matters_87 (Nat.le_of_ble_eq_true rfl) (Nat.le_of_ble_eq_true rfl) ?_
                    rw [if_neg (fun w => c_83 ((tf_iff _ _).mpr w))] at hi
                    exact ⟨_, rfl, rfl, ⟨_, _, _, S, hu.dp hq2.1 rfl rfl rfl rfl ⟨wrc, hrc6, hrc⟩, rfl, rfl, (fun q a b => (dst q a b).trans (rl_u_n (by omega)))⟩, hq2.1.fr, Or.inr ⟨t, htl, rfl, hnb, by rw [if_pos n16, ← hi]⟩⟩
            exact loop (2 ^ (rin (trw (ark res t).2) z.2.2.1).length) 0 _ (by omega) rfl
          · refine o_bipush (v := (-4 : Int32)) hC dX8_matters_35 (by decide +kernel) ?_
            refine o_iret hC hB dX8_matters_37 (Nat.le_of_ble_eq_true rfl) (Nat.le_of_ble_eq_true rfl) ?_
            exact ⟨_, rfl, rfl, ⟨_, _, _, S, hu.dp hq2.1 rfl rfl rfl rfl ⟨wrc, hrc6, hrc⟩, rfl, rfl, (fun q a b => (dst q a b).trans (rl_u_n (by omega)))⟩, hq2.1.fr, Or.inr ⟨t, htl, rfl, hnb, by rw [if_neg (fun u => absurd (show (nI 1 : Int32) = nI 0 by rw [if_pos u] at c_32; first | exact c_32 | exact Classical.not_not.mp c_32) (by decide +kernel))]⟩⟩
        · refine o_iconst (v := (-1 : Int32)) hC dX8_matters_25 (by decide +kernel) ?_
          refine o_iret hC hB dX8_matters_26 (Nat.le_of_ble_eq_true rfl) (Nat.le_of_ble_eq_true rfl) ?_
          first
          | exact absurd c_10 (by decide +kernel)
          | exact ⟨_, rfl, rfl, ⟨_, _, _, S, hu.dp hq0.1 rfl rfl rfl rfl ⟨wrc, hrc6, hrc⟩, rfl, rfl, (fun q a b => rl_u_n (by omega))⟩, hq0.1.fr, Or.inl ⟨Or.inr (Or.inl c_14), rfl⟩⟩
          | exact ⟨_, rfl, rfl, ⟨_, _, _, S, hu.dp hq0.1 rfl rfl rfl rfl ⟨wrc, hrc6, hrc⟩, rfl, rfl, (fun q a b => rl_u_n (by omega))⟩, hq0.1.fr, Or.inl ⟨Or.inr (Or.inr (by rw [← hrr]; exact Int32.not_lt.mp c_22)), rfl⟩⟩

theorem mat_eq {res : List arow} {q r r1 r2 : Int32} {rc : Nat} (n80 : res.length ≤ 80) (h36 : rc ≤ 36) (hb : rbs (tbk rc) res) (hok : ∀ t0 : Nat, t0 < res.length → wok (ark res t0).2) (H1 : (((¬ (∃ t : Nat, t < res.length ∧ q = nI t) ∨ (r < 0 ∨ nI rc ≤ r)) ∧ r1 = -1) ∨ ∃ t : Nat, t < res.length ∧ q = nI t ∧ ¬ (r < 0 ∨ nI rc ≤ r) ∧ ((¬ (jd_bcL (trw (ark res t).2)) ≤ nI 16 ∧ r1 = -4) ∨ ((jd_bcL (trw (ark res t).2)) ≤ nI 16 ∧ (trw (ark res t).2) &&& ((1 : Int64) <<< (r.toInt64 &&& 63)) = 0 ∧ r1 = nI 0) ∨ ((jd_bcL (trw (ark res t).2)) ≤ nI 16 ∧ ¬ (trw (ark res t).2) &&& ((1 : Int64) <<< (r.toInt64 &&& 63)) = 0 ∧ ∃ Lb : List tT, wst ((ark res t).2.map (tfg ((1 : Int64) <<< (r.toInt64 &&& 63)))) = some Lb ∧ r1 = (if swn (jd_bcL (trw (ark res t).2)) (ark res t).2 ((1 : Int64) <<< (r.toInt64 &&& 63)) 0 = swn (jd_bcL (trw (ark res t).2)) Lb ((1 : Int64) <<< (r.toInt64 &&& 63)) 0 ∧ swn (jd_bcL (trw (ark res t).2)) (ark res t).2 0 ((1 : Int64) <<< (r.toInt64 &&& 63)) = swn (jd_bcL (trw (ark res t).2)) Lb ((1 : Int64) <<< (r.toInt64 &&& 63)) 0 then nI 0 else nI 1))))) (H2 : (((¬ (∃ t : Nat, t < res.length ∧ q = nI t) ∨ (r < 0 ∨ nI rc ≤ r)) ∧ r2 = -1) ∨ ∃ t : Nat, t < res.length ∧ q = nI t ∧ ¬ (r < 0 ∨ nI rc ≤ r) ∧ r2 = (if (rin (trw (ark res t).2) rc).length ≤ 16 then mma (ark res t).2 ((1 : Int64) <<< (r.toInt64 &&& 63)) (rin (trw (ark res t).2) rc) (2 ^ (rin (trw (ark res t).2) rc).length) 0 else (-4 : Int32)))) : r1 = r2 := by
  rcases H1 with ⟨a1, a2⟩ | ⟨t, a1, a2, a3, a4⟩
  · rcases H2 with ⟨b1, b2⟩ | ⟨u, b1, b2, b3, b4⟩
    · exact a2.trans b2.symm
    · exact a1.elim (fun w => absurd ⟨u, b1, b2⟩ w) (fun w => absurd w b3)
  · rcases H2 with ⟨b1, b2⟩ | ⟨u, b1, b2, b3, b4⟩
    · exact b1.elim (fun w => absurd ⟨t, a1, a2⟩ w) (fun w => absurd w a3)
    · have tu := nI_inj2 (by omega) (by omega) (a2.symm.trans b2)
      subst tu
      have hW := ark_B hb t
      have hwk := hok t a1
      obtain ⟨rr, hrr, rfl⟩ := nI_of_lt (k := rc) (by omega) (fun e => a3 (Or.inl e)) (fun e => a3 (Or.inr e))
      have bc := bc_rin h36 hW
      have rl := rin_le (trw (ark res t).2) rc
      have l12 := hwk.2.2.2
      rw [b4]
      rw [bc] at a4
      by_cases n16 : (rin (trw (ark res t).2) rc).length ≤ 16
      · have le16 : nI (rin (trw (ark res t).2) rc).length ≤ nI 16 := nI_le n16 (by decide)
        rw [if_pos n16]
        have me := mma_cE (W := (ark res t).2) (b := tbt rr) (E := rin (trw (ark res t).2) rc) (by omega)
        rcases a4 with ⟨c1, -⟩ | ⟨-, c2, c3⟩ | ⟨-, c2, Lb, c4, c5⟩
        · exact absurd le16 c1
        · have hrE : rr ∉ rin (trw (ark res t).2) rc := fun h => by
            have h9 := (List.mem_filter.mp h).2
            have := (ts_dis (trw (ark res t).2) (tbt rr)).mp c2 rr h9
            rw [bt_tbt (by omega), decide_eq_true rfl] at this
            exact absurd this (by decide)
          rw [c3]
          refine Eq.trans ?_ me.symm
          rw [mdf_no h36 (by omega) hrE (bin_W hW), if_pos rfl]
        · have hrE : rr ∈ rin (trw (ark res t).2) rc := List.mem_filter.mpr ⟨List.mem_range.mpr hrr, and_tbt (by omega) c2⟩
          have sc := seen_cnt h36 n16 (by omega) hrE (bin_W hW) hwk.2.1 c4
          rw [c5]
          refine Eq.trans ?_ me.symm
          by_cases z : cE (rin (trw (ark res t).2) rc) (fun x => mdf (ark res t).2 (tbt rr) x) = 0
          · rw [if_pos z, if_pos (sc.mpr z)]
          · rw [if_neg z, if_neg (fun w => z (sc.mp w))]
      · rw [if_neg n16]
        have nle : ¬ nI (rin (trw (ark res t).2) rc).length ≤ nI 16 := fun u => n16 ((nI_leI (by omega) (by decide)).mp u)
        rcases a4 with ⟨-, c2⟩ | ⟨c1, -⟩ | ⟨c1, -⟩
        · exact c2
        · exact absurd c1 nle
        · exact absurd c1 nle
