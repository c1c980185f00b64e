/-! RowLineage in every state: neededNodes, run -/
theorem nb_and (a b s : Int64) : ((a ||| b) >>> s) &&& 1 = ((a >>> s) &&& 1) ||| ((b >>> s) &&& 1) := by
  apply Int64.toBitVec_inj.mp
  simp only [Int64.toBitVec_and, Int64.toBitVec_or, Int64.toBitVec_shiftRight, BitVec.sshiftRight_eq', BitVec.sshiftRight_or_distrib]
  ext i
  simp [Bool.and_or_distrib_right]
theorem nb_zero (a b : Int64) : a ||| b = 0 ↔ a = 0 ∧ b = 0 := by
  rw [← Int64.toBitVec_inj, ← Int64.toBitVec_inj, ← Int64.toBitVec_inj, Int64.toBitVec_or]
  exact BitVec.or_eq_zero_iff
/-- bit k is there -/
abbrev nb (b : Int64) (k : Nat) : Prop := ¬ lg_cmp ((b >>> ((nI k).toInt64 &&& 63)) &&& 1) 0 = 0
theorem nb_or (a b : Int64) (k : Nat) : nb (a ||| b) k ↔ nb a k ∨ nb b k := by
  unfold nb
  rw [nb_and, lg_cmp_eq, lg_cmp_eq, lg_cmp_eq, nb_zero]
  by_cases h1 : a >>> ((nI k).toInt64 &&& 63) &&& 1 = 0
  · by_cases h2 : b >>> ((nI k).toInt64 &&& 63) &&& 1 = 0
    · simp only [h1, h2]; decide
    · simp only [h1, h2]; decide
  · simp only [h1]; simp
abbrev nb_bit (i : Nat) : Int64 := (1 : Int64) <<< ((nI i).toInt64 &&& 63)
theorem nb_self : ∀ i : Nat, i < 16 → nb (nb_bit i) i := by decide +kernel
theorem nb_else : ∀ i : Nat, i < 16 → ∀ k : Nat, k < 16 → i ≠ k → ¬ nb (nb_bit i) k := by decide +kernel
theorem nb_0 : ∀ k : Nat, k < 16 → ¬ nb 0 k := by decide +kernel
/-- what node k is made of is needed with it -/
def nb_np (N : Nat → Nat → Int32) (b : Int64) (k : Nat) : Prop := nb b k → ∀ i : Nat, i < k → (N k 2 = nI i ∨ N k 3 = nI i) → nb b i

set_option maxHeartbeats 4000000 in
set_option maxRecDepth 100000 in
theorem cb_X7_bitOfNode (l : Launch) (D : va_G) (ids : Nat → ClassId) (H0 : Heap) (h : rl_H) (n : Nat) (x : Nat) (s : cl_S) (c : cl_N) (q : Int32) (hc : cl_at ids h x s c) : rl_Met l (rl_e D ids H0) rl_BW rl_Ns yX7_bitOfNode cX7_bitOfNode 2 (some .long) ({ frames := 1, cells := 0, slots := 0, locals := 21 }) [.ref x, .int q] h n (fun v h' n' => ∃ r : Int64, v = some (.long r) ∧ h' = h ∧ n' = n ∧ ((r = 0 ∧ ¬ (∃ j : Nat, j < c.2.2.1 ∧ q = nI j)) ∨ ∃ j : Nat, j < c.2.2.1 ∧ q = nI j ∧ r = nb_bit j)) := by
  obtain ⟨c1, c2, c3, ⟨pn, c4, c5⟩, ⟨pt, c6, c7⟩, c8, c9, c10, c11, c12, c13, c14, c15⟩ := id hc
  refine rl_Met.of (by decide +kernel) (Nat.le_of_ble_eq_true rfl) ?_
  intro X hC hB
  show rl_G X (rl_e D ids H0) 0 [some (.ref x), some (.int q)] [] h n 0 0
  refine o_aload_n hC dX7_bitOfNode_0 (by rfl) ?_
  refine o_iload_n hC dX7_bitOfNode_1 (by rfl) ?_
  refine o_callV1 hC rl_BW_good rl_Ns_nw (by exact hB.2.2.2.2.2) YX7_isNode IX7_isNode VX7_isNode (mX7_100 hC) (by rw [hB.1]; exact cg_X7_isNode l D ids H0 _ _ x s c _ hc) (by exact c1) rfl rfl (Nat.le_of_ble_eq_true rfl) (by rw [hB.2.1]; first | exact Nat.le_of_ble_eq_true rfl | (dsimp only; omega)) (by rw [hB.2.1]; first | exact Nat.le_of_ble_eq_true rfl | (dsimp only; omega)) (by rw [hB.2.1]; first | exact Nat.le_of_ble_eq_true rfl | (dsimp only; omega)) (by rw [hB.2.1]; first | exact Nat.le_of_ble_eq_true rfl | (dsimp only; omega)) dX7_bitOfNode_2 (fun v h_2 n_2 p_2 => ?_)
  obtain ⟨z, rfl, rfl, rfl, hz⟩ := p_2
  try dsimp only [Option.toList, List.cons_append, List.nil_append]
  refine o_if_eq (tgt := 14) hC dX7_bitOfNode_5 (by decide) (fun c_5 => ?_) (fun c_5 => ?_)
  · refine o_lconst (v := 0) hC dX7_bitOfNode_14 (by decide +kernel) ?_
    refine o_lret hC hB dX7_bitOfNode_15 (Nat.le_of_ble_eq_true rfl) (Nat.le_of_ble_eq_true rfl) ?_
    first
    | exact ⟨_, rfl, rfl, rfl, Or.inl ⟨rfl, hz.elim (fun q => q.2) (fun q => absurd (c_5.symm.trans q.1) (by decide +kernel))⟩⟩
    | exact (hz.elim (fun q => absurd q.1 c_5) (fun q => q.2)).elim (fun j hj => ⟨_, rfl, rfl, rfl, Or.inr ⟨j, hj.1, hj.2, by rw [hj.2]⟩⟩)
  · refine o_lconst (v := 1) hC dX7_bitOfNode_8 (by decide +kernel) ?_
    refine o_iload_n hC dX7_bitOfNode_9 (by rfl) ?_
    refine o_lshl hC dX7_bitOfNode_10 ?_
    refine o_goto (tgt := 15) hC dX7_bitOfNode_11 (by decide) ?_
    refine o_lret hC hB dX7_bitOfNode_15 (Nat.le_of_ble_eq_true rfl) (Nat.le_of_ble_eq_true rfl) ?_
    first
    | exact ⟨_, rfl, rfl, rfl, Or.inl ⟨rfl, hz.elim (fun q => q.2) (fun q => absurd (c_5.symm.trans q.1) (by decide +kernel))⟩⟩
    | exact (hz.elim (fun q => absurd q.1 c_5) (fun q => q.2)).elim (fun j hj => ⟨_, rfl, rfl, rfl, Or.inr ⟨j, hj.1, hj.2, by rw [hj.2]⟩⟩)

set_option maxHeartbeats 4000000 in
set_option maxRecDepth 100000 in
theorem cg_X7_neededNodes (l : Launch) (D : va_G) (ids : Nat → ClassId) (H0 : Heap) (h : rl_H) (n : Nat) (x L : Nat) (s : cl_S) (c : cl_N) (j : Nat) (hk : cl_ok ids h n x L s c) (hj : j < c.2.2.1) : rl_Met l (rl_e D ids H0) rl_BW rl_Ns yX7_neededNodes cX7_neededNodes 5 (some .long) ({ frames := 2, cells := 0, slots := 0, locals := 42 }) [.ref x, .int (nI j)] h n (fun v h' n' => ∃ b : Int64, v = some (.long b) ∧ h' = h ∧ n' = n ∧ ∀ k : Nat, k ≤ j → nb_np c.2.2.2.1 b k) := by
  obtain ⟨hc, k2, k3, k4, k5, k6, k7⟩ := id hk
  obtain ⟨c1, c2, c3, ⟨pn, c4, c5⟩, ⟨pt, c6, c7⟩, c8, c9, c10, c11, c12, c13, c14, c15⟩ := id hc
  refine rl_Met.of (by decide +kernel) (Nat.le_of_ble_eq_true rfl) ?_
  intro X hC hB
  have loop : ∀ (t : Nat) (b : Int64), t ≤ j + 1 → (∀ k : Nat, t ≤ k → k ≤ j → nb_np c.2.2.2.1 b k) → rl_G X (rl_e D ids H0) 7 [some (.ref x), some (.int (nI j)), some (.long b), none, some (.int (nI t + Int32.ofInt (-1)))] [] h n 0 0 := by
    intro t
    induction t with
    | zero =>
      intro b ht hp
      refine o_iload hC dX7_neededNodes_7 (by rfl) ?_
      refine o_if_lt (tgt := 61) hC dX7_neededNodes_9 (by decide) (fun c_9 => ?_) (fun c_9 => ?_)
      · refine o_lload_n hC dX7_neededNodes_61 (by rfl) ?_
        refine o_lret hC hB dX7_neededNodes_62 (Nat.le_of_ble_eq_true rfl) (Nat.le_of_ble_eq_true rfl) ?_
        exact ⟨_, rfl, rfl, rfl, fun k hk => hp k (Nat.zero_le _) hk⟩
      · exact absurd (by decide +kernel) c_9
    | succ t ih =>
      intro b ht hp
      rw [rl_dec t]
      have nc16 := cl_nc hk
      have m1 := c12 t (by omega)
      unfold cl_nd at m1
      obtain ⟨op, w, w1, w2, -, -, -, -, ⟨f1, f2⟩, -, -⟩ := k6 t (by omega)
      refine o_iload hC dX7_neededNodes_7 (by rfl) ?_
      refine o_if_lt (tgt := 61) hC dX7_neededNodes_9 (by decide) (fun c_9 => ?_) (fun c_9 => ?_)
      · exact absurd c_9 (nI_pos (by omega))
      · refine o_lload_n hC dX7_neededNodes_12 (by rfl) ?_
        refine o_iload hC dX7_neededNodes_13 (by rfl) ?_
        refine o_lshr hC dX7_neededNodes_15 ?_
        refine o_lconst (v := 1) hC dX7_neededNodes_16 (by decide +kernel) ?_
        refine o_land hC dX7_neededNodes_17 ?_
        refine o_lconst (v := 0) hC dX7_neededNodes_18 (by decide +kernel) ?_
        refine o_lcmp hC dX7_neededNodes_19 ?_
        refine o_if_eq (tgt := 55) hC dX7_neededNodes_20 (by decide) (fun c_20 => ?_) (fun c_20 => ?_)
        · refine o_iinc hC dX7_neededNodes_55 (by rfl) rfl (Nat.le_of_ble_eq_true rfl) ?_
          refine o_goto (tgt := 7) hC dX7_neededNodes_58 (by decide) ?_
          refine ih _ (by omega) (fun k g1 g2 => ?_)
          by_cases e : k = t
          · subst e
            first
            | exact fun w => absurd c_20 w
            | (intro w i hi hp
               have ii : i < c.2.2.1 := by omega
               rw [nb_or, nb_or]
               rcases hp with hp | hp
               · rcases hr35 with ⟨-, u⟩ | ⟨i2, u1, u2, rfl⟩
                 · exact absurd ⟨i, ii, hp⟩ u
                 · have := nI_inj2 (by omega) (by omega) (hp.symm.trans u2)
                   subst this
                   exact Or.inr (Or.inl (nb_self _ (by omega)))
               · rcases hr49 with ⟨-, u⟩ | ⟨i2, u1, u2, rfl⟩
                 · exact absurd ⟨i, ii, hp⟩ u
                 · have := nI_inj2 (by omega) (by omega) (hp.symm.trans u2)
                   subst this
                   exact Or.inr (Or.inr (nb_self _ (by omega))))
          · first
            | exact hp k (by omega) g2
            | (intro w i hi hq
               rw [nb_or, nb_or] at w
               have w0 : nb b k := by
                 rcases w with w | w | w
                 · exact w
                 · rcases hr35 with ⟨rfl, u⟩ | ⟨i2, u1, u2, rfl⟩
                   · exact absurd w (nb_0 k (by omega))
                   · rcases f1 with f1 | ⟨i3, f3, f4⟩
                     · exact absurd (f1.symm.trans u2) (fun z => absurd (z ▸ (show (-1 : Int32) < 0 by decide +kernel)) (nI_pos (by omega)))
                     · have := nI_inj2 (by omega) (by omega) (f4.symm.trans u2)
                       exact absurd w (nb_else i2 (by omega) k (by omega) (by omega))
                 · rcases hr49 with ⟨rfl, u⟩ | ⟨i2, u1, u2, rfl⟩
                   · exact absurd w (nb_0 k (by omega))
                   · rcases f2 with f1 | ⟨i3, f3, f4⟩
                     · exact absurd (f1.symm.trans u2) (fun z => absurd (z ▸ (show (-1 : Int32) < 0 by decide +kernel)) (nI_pos (by omega)))
                     · have := nI_inj2 (by omega) (by omega) (f4.symm.trans u2)
                       exact absurd w (nb_else i2 (by omega) k (by omega) (by omega))
               rw [nb_or]
               exact Or.inl (hp k (by omega) g2 w0 i hi hq))
        · refine o_lload_n hC dX7_neededNodes_23 (by rfl) ?_
          refine o_aload_n hC dX7_neededNodes_24 (by rfl) ?_
          refine o_aload_n hC dX7_neededNodes_25 (by rfl) ?_
          refine o_getf hC (fX7_25 hC rfl) dX7_neededNodes_26 (by repeat (first | with_reducible assumption | (rw [rl_u_s]; done) | (rw [rl_u_s]; rfl) | rw [rl_u_n (by first | with_reducible assumption | omega)])) (by first | rfl | with_reducible assumption) ?_
          refine o_iload hC dX7_neededNodes_29 (by rfl) ?_
          refine o_aaldN (t0 := 5) (k := t) hC rfl dX7_neededNodes_31 c4 (by omega) (by decide) ?_
          rw [c5 _ (by omega), if_pos (by omega)]
          show rl_G X _ _ _ (.ref _ :: _) _ _ _ _
          refine o_getf hC (fX7_124 hC rfl) dX7_neededNodes_32 (by repeat (first | with_reducible assumption | (rw [rl_u_s]; done) | (rw [rl_u_s]; rfl) | rw [rl_u_n (by first | with_reducible assumption | omega)])) (by first | rfl | with_reducible assumption) ?_
          refine o_callV1 hC rl_BW_good rl_Ns_nw (by exact hB.2.2.2.2.2) YX7_bitOfNode IX7_bitOfNode VX7_bitOfNode (mX7_233 hC) (by rw [hB.1]; exact cb_X7_bitOfNode l D ids H0 _ _ x s c _ hc) (by exact c1) rfl rfl (Nat.le_of_ble_eq_true rfl) (by rw [hB.2.1]; first | exact Nat.le_of_ble_eq_true rfl | (dsimp only; omega)) (by rw [hB.2.1]; first | exact Nat.le_of_ble_eq_true rfl | (dsimp only; omega)) (by rw [hB.2.1]; first | exact Nat.le_of_ble_eq_true rfl | (dsimp only; omega)) (by rw [hB.2.1]; first | exact Nat.le_of_ble_eq_true rfl | (dsimp only; omega)) dX7_neededNodes_35 (fun v h_35 n_35 p_35 => ?_)
          obtain ⟨r35, rfl, rfl, rfl, hr35⟩ := p_35
          try dsimp only [Option.toList, List.cons_append, List.nil_append]
          refine o_aload_n hC dX7_neededNodes_38 (by rfl) ?_
          refine o_aload_n hC dX7_neededNodes_39 (by rfl) ?_
          refine o_getf hC (fX7_25 hC rfl) dX7_neededNodes_40 (by repeat (first | with_reducible assumption | (rw [rl_u_s]; done) | (rw [rl_u_s]; rfl) | rw [rl_u_n (by first | with_reducible assumption | omega)])) (by first | rfl | with_reducible assumption) ?_
          refine o_iload hC dX7_neededNodes_43 (by rfl) ?_
          refine o_aaldN (t0 := 5) (k := t) hC rfl dX7_neededNodes_45 c4 (by omega) (by decide) ?_
          rw [c5 _ (by omega), if_pos (by omega)]
          show rl_G X _ _ _ (.ref _ :: _) _ _ _ _
          refine o_getf hC (fX7_131 hC rfl) dX7_neededNodes_46 (by repeat (first | with_reducible assumption | (rw [rl_u_s]; done) | (rw [rl_u_s]; rfl) | rw [rl_u_n (by first | with_reducible assumption | omega)])) (by first | rfl | with_reducible assumption) ?_
          refine o_callV1 hC rl_BW_good rl_Ns_nw (by exact hB.2.2.2.2.2) YX7_bitOfNode IX7_bitOfNode VX7_bitOfNode (mX7_233 hC) (by rw [hB.1]; exact cb_X7_bitOfNode l D ids H0 _ _ x s c _ hc) (by exact c1) rfl rfl (Nat.le_of_ble_eq_true rfl) (by rw [hB.2.1]; first | exact Nat.le_of_ble_eq_true rfl | (dsimp only; omega)) (by rw [hB.2.1]; first | exact Nat.le_of_ble_eq_true rfl | (dsimp only; omega)) (by rw [hB.2.1]; first | exact Nat.le_of_ble_eq_true rfl | (dsimp only; omega)) (by rw [hB.2.1]; first | exact Nat.le_of_ble_eq_true rfl | (dsimp only; omega)) dX7_neededNodes_49 (fun v h_49 n_49 p_49 => ?_)
          obtain ⟨r49, rfl, rfl, rfl, hr49⟩ := p_49
          try dsimp only [Option.toList, List.cons_append, List.nil_append]
          refine o_lor hC dX7_neededNodes_52 ?_
          refine o_lor hC dX7_neededNodes_53 ?_
          refine o_lstore_n hC dX7_neededNodes_54 (Nat.le_of_ble_eq_true rfl) ?_
          refine o_iinc hC dX7_neededNodes_55 (by rfl) rfl (Nat.le_of_ble_eq_true rfl) ?_
          refine o_goto (tgt := 7) hC dX7_neededNodes_58 (by decide) ?_
          refine ih _ (by omega) (fun k g1 g2 => ?_)
          by_cases e : k = t
          · subst e
            first
            | exact fun w => absurd c_20 w
            | (intro w i hi hp
               have ii : i < c.2.2.1 := by omega
               rw [nb_or, nb_or]
               rcases hp with hp | hp
               · rcases hr35 with ⟨-, u⟩ | ⟨i2, u1, u2, rfl⟩
                 · exact absurd ⟨i, ii, hp⟩ u
                 · have := nI_inj2 (by omega) (by omega) (hp.symm.trans u2)
                   subst this
                   exact Or.inr (Or.inl (nb_self _ (by omega)))
               · rcases hr49 with ⟨-, u⟩ | ⟨i2, u1, u2, rfl⟩
                 · exact absurd ⟨i, ii, hp⟩ u
                 · have := nI_inj2 (by omega) (by omega) (hp.symm.trans u2)
                   subst this
                   exact Or.inr (Or.inr (nb_self _ (by omega))))
          · first
            | exact hp k (by omega) g2
            | (intro w i hi hq
               rw [nb_or, nb_or] at w
               have w0 : nb b k := by
                 rcases w with w | w | w
                 · exact w
                 · rcases hr35 with ⟨rfl, u⟩ | ⟨i2, u1, u2, rfl⟩
                   · exact absurd w (nb_0 k (by omega))
                   · rcases f1 with f1 | ⟨i3, f3, f4⟩
                     · exact absurd (f1.symm.trans u2) (fun z => absurd (z ▸ (show (-1 : Int32) < 0 by decide +kernel)) (nI_pos (by omega)))
                     · have := nI_inj2 (by omega) (by omega) (f4.symm.trans u2)
                       exact absurd w (nb_else i2 (by omega) k (by omega) (by omega))
                 · rcases hr49 with ⟨rfl, u⟩ | ⟨i2, u1, u2, rfl⟩
                   · exact absurd w (nb_0 k (by omega))
                   · rcases f2 with f1 | ⟨i3, f3, f4⟩
                     · exact absurd (f1.symm.trans u2) (fun z => absurd (z ▸ (show (-1 : Int32) < 0 by decide +kernel)) (nI_pos (by omega)))
                     · have := nI_inj2 (by omega) (by omega) (f4.symm.trans u2)
                       exact absurd w (nb_else i2 (by omega) k (by omega) (by omega))
               rw [nb_or]
               exact Or.inl (hp k (by omega) g2 w0 i hi hq))
  show rl_G X (rl_e D ids H0) 0 [some (.ref x), some (.int (nI j)), none, none, none] [] h n 0 0
  refine o_lconst (v := 1) hC dX7_neededNodes_0 (by decide +kernel) ?_
  refine o_iload_n hC dX7_neededNodes_1 (by rfl) ?_
  refine o_lshl hC dX7_neededNodes_2 ?_
  refine o_lstore_n hC dX7_neededNodes_3 (Nat.le_of_ble_eq_true rfl) ?_
  refine o_iload_n hC dX7_neededNodes_4 (by rfl) ?_
  refine o_istore hC dX7_neededNodes_5 (Nat.le_of_ble_eq_true rfl) ?_
  have lp := loop (j + 1) ((1 : Int64) <<< ((nI j).toInt64 &&& 63)) (Nat.le_refl _) (fun k g1 g2 => absurd g1 (by omega))
  rw [rl_dec j] at lp
  exact lp

/-- the state of a Node is another -/
def cl_st (N : Nat → Nat → Int32) (t : Nat) (v : Int32) : Nat → Nat → Int32 := fun k f => if k = t ∧ f = 8 then v else N k f
theorem cl_st_8 {N : Nat → Nat → Int32} {t : Nat} {v : Int32} {k f : Nat} (h : f < 8) : cl_st N t v k f = N k f := if_neg (by omega)
theorem cl_ok.fl {ids : Nat → ClassId} {h h2 : rl_H} {n x L t w : Nat} {s : cl_S} {c : cl_N} (H : cl_ok ids h n x L s c) (ht : t < c.2.2.1) (hw : c.2.2.2.1 t 1 = nI w) (hw6 : w ≤ 6) (g1 : ∃ gp : Nat → Option Nat, op_sh ids h2 (x + 41) (x + 1) gp) (g2 : tb_ok ids h2 (c.1 t + 1) w) (g3 : rl_g2 h h2 (x + 41) (x + 41 + 22) (c.1 t + 1) (c.1 t + 1 + 402)) (v : Int32) : cl_ok ids (rl_u h2 (c.1 t) (cl_nd (cl_st c.2.2.2.1 t v) t)) n x L s (c.1, c.2.1, c.2.2.1, cl_st c.2.2.2.1 t v, c.2.2.2.2.1, c.2.2.2.2.2) ∧ cl_fr h (rl_u h2 (c.1 t) (cl_nd (cl_st c.2.2.2.1 t v) t)) x L := by
  have nc16 := cl_nc H
  obtain ⟨k1, k2, k3, k4, k5, k6, k7⟩ := H
  have htm : t < c.2.1 := by omega
  have z := k4 t htm
  have e2 : cl_at ids h2 x s c := by
    obtain ⟨c1, c2, -, ⟨pn, c4, c5⟩, ⟨pt, c6, c7⟩, c8, c9, c10, c11, c12, c13, c14, c15⟩ := k1
    refine ⟨(g3 x (by omega) (by omega)).trans c1, c2.eqv (fun q a b => g3 q (by omega) (by omega)), g1, ⟨pn, (g3 _ (by omega) (by omega)).trans c4, c5⟩, ⟨pt, (g3 _ (by omega) (by omega)).trans c6, c7⟩, (g3 _ (by omega) (by omega)).trans c8, c9.eqv (fun q a b => g3 q (by omega) (by omega)), c10, c11, fun k hk => ?_, fun k hk => ?_, c14, c15⟩
    · have y1 := k4 k hk
      refine (g3 _ (by omega) ?_).trans (c12 k hk)
      rcases Nat.lt_trichotomy k t with q | q | q
      · have := c15 k t q htm
        omega
      · subst q
        omega
      · have := c15 t k q hk
        omega
    · by_cases q : k = t
      · subst q
        exact ⟨_, g2⟩
      · obtain ⟨wd, hw⟩ := c13 k hk
        have y1 := k4 k hk
        refine ⟨wd, hw.eqv (fun q a b => g3 q (by omega) ?_)⟩
        rcases Nat.lt_or_gt_of_ne ‹k ≠ t› with u | u
        · have := c15 k t u htm
          omega
        · have := c15 t k u hk
          omega
  have c15 := k1.2.2.2.2.2.2.2.2.2.2.2.2
  refine ⟨⟨e2.nd htm (cl_st c.2.2.2.1 t v) rl_u_s (fun i hi => ?_) (fun q hq => rl_u_n hq), k2, k3, k4, k5, fun k hk => ?_, fun k hk a0 w' b0 e0 => ?_⟩, fun q a b => ?_⟩
  · funext f
    exact if_neg (fun q => hi q.1)
  · exact (k6 k hk).of (fun i _ f hf => cl_st_8 hf)
  · have hk : k < c.2.2.1 := hk
    have a : cl_st c.2.2.2.1 t v k 8 ≠ nI 0 := a0
    have b : w' ≤ 6 := b0
    have e : c.2.2.2.1 k 1 = nI w' := (cl_st_8 (by decide)).symm.trans e0
    clear e0
    by_cases q : k = t
    · subst q
      have := nI_inj2 (by omega) (by omega) (hw.symm.trans e)
      subst this
      exact g2.eqv (fun q a b => rl_u_n (by have a : c.1 k + 1 ≤ q := a; omega))
    · have a2 : c.2.2.2.1 k 8 ≠ nI 0 := fun u => a ((if_neg (fun w => q w.1)).trans u)
      have y1 := k4 k (by omega)
      refine (k7 k hk a2 w' b e).eqv (fun q2 a b => ?_)
      have a : c.1 k + 1 ≤ q2 := a
      have b : q2 < c.1 k + 1 + 402 := b
      rcases Nat.lt_or_gt_of_ne q with u | u
      · have := c15 k t u htm
        rw [rl_u_n (by omega), g3 q2 (by omega) (by omega)]
      · have := c15 t k u (by omega)
        rw [rl_u_n (by omega), g3 q2 (by omega) (by omega)]
  · rw [rl_u_n (by omega), g3 q (by omega) (by omega)]
theorem cl_ok.rs {ids : Nat → ClassId} {h : rl_H} {n x L : Nat} {s : cl_S} {c : cl_N} (H : cl_ok ids h n x L s c) (rs : Int32) (pr : Int64) : cl_ok ids (rl_u h x (.inr (7, [.ref (x + 1), .ref (x + 41), .ref (x + 63), .ref (x + 64), .ref (x + 65), .ref (x + 67), .int (nI c.2.2.1), .int rs, .long pr]))) n x L s (c.1, c.2.1, c.2.2.1, c.2.2.2.1, rs, pr) := by
  have nc16 := cl_nc H
  obtain ⟨k1, k2, k3, k4, k5, k6, k7⟩ := H
  refine ⟨k1.rp rs pr, k2, k3, k4, k5, k6, fun k hk a w b e => (k7 k hk a w b e).eqv (fun q a b => rl_u_n ?_)⟩
  have hk : k < c.2.2.1 := hk
  have := k4 k (by omega)
  have a : c.1 k + 1 ≤ q := a
  omega

theorem cl_nd_st (N : Nat → Nat → Int32) (t : Nat) (v : Int32) : cl_nd (cl_st N t v) t = .inr (1, [.int (N t 0), .int (N t 1), .int (N t 2), .int (N t 3), .int (N t 4), .int (N t 5), .int (N t 6), .int (N t 7), .int v]) := by
  unfold cl_nd cl_st
  simp

set_option maxHeartbeats 4000000 in
set_option maxRecDepth 100000 in
theorem cg_X7_run (l : Launch) (D : va_G) (ids : Nat → ClassId) (H0 : Heap) (h : rl_H) (n : Nat) (x L : Nat) (s : cl_S) (c : cl_N) (q : Int32) (hk : cl_ok ids h n x L s c) : rl_Met l (rl_e D ids H0) rl_BW rl_Ns yX7_run cX7_run 9 (some .int) ({ frames := 7, cells := 0, slots := 0, locals := 226 }) [.ref x, .int q] h n (fun v h' n' => ∃ (r : Int32) (N' : Nat → Nat → Int32) (rs : Int32), v = some (.int r) ∧ n' = n ∧ cl_ok ids h' n x L s (c.1, c.2.1, c.2.2.1, N', rs, c.2.2.2.2.2) ∧ (∀ k f : Nat, f < 8 → N' k f = c.2.2.2.1 k f) ∧ cl_fr h h' x L) := by
  obtain ⟨hc, k2, k3, k4, k5, k6, k7⟩ := id hk
  obtain ⟨c1, c2, c3, ⟨pn, c4, c5⟩, ⟨pt, c6, c7⟩, c8, c9, c10, c11, c12, c13, c14, c15⟩ := id hc
  refine rl_Met.of (by decide +kernel) (Nat.le_of_ble_eq_true rfl) ?_
  intro X hC hB
  show rl_G X (rl_e D ids H0) 0 [some (.ref x), some (.int q), none, none, none, none, none, none, none] [] h n 0 0
  refine o_aload_n hC dX7_run_0 (by rfl) ?_
  refine o_iload_n hC dX7_run_1 (by rfl) ?_
  refine o_callV1 hC rl_BW_good rl_Ns_nw (by exact hB.2.2.2.2.2) YX7_isNode IX7_isNode VX7_isNode (mX7_100 hC) (by rw [hB.1]; exact cg_X7_isNode l D ids H0 _ _ x s c _ hc) (by exact c1) rfl rfl (Nat.le_of_ble_eq_true rfl) (by rw [hB.2.1]; first | exact Nat.le_of_ble_eq_true rfl | (dsimp only; omega)) (by rw [hB.2.1]; first | exact Nat.le_of_ble_eq_true rfl | (dsimp only; omega)) (by rw [hB.2.1]; first | exact Nat.le_of_ble_eq_true rfl | (dsimp only; omega)) (by rw [hB.2.1]; first | exact Nat.le_of_ble_eq_true rfl | (dsimp only; omega)) dX7_run_2 (fun v h_2 n_2 p_2 => ?_)
  obtain ⟨z, rfl, rfl, rfl, hz⟩ := p_2
  try dsimp only [Option.toList, List.cons_append, List.nil_append]
  refine o_if_ne (tgt := 10) hC dX7_run_5 (by decide) (fun c_5 => ?_) (fun c_5 => ?_)
  · have nc16 := cl_nc hk
    obtain ⟨j, hj, rfl⟩ : (∃ j : Nat, j < c.2.2.1 ∧ q = nI j) := hz.elim (fun q => absurd q.1 c_5) (fun q => q.2)
    refine o_aload_n hC dX7_run_10 (by rfl) ?_
    refine o_iload_n hC dX7_run_11 (by rfl) ?_
    refine o_callV1 hC rl_BW_good rl_Ns_nw (by exact hB.2.2.2.2.2) YX7_neededNodes IX7_neededNodes VX7_neededNodes (mX7_117 hC) (by rw [hB.1]; exact cg_X7_neededNodes l D ids H0 _ _ x L s c j hk hj) (by exact c1) rfl rfl (Nat.le_of_ble_eq_true rfl) (by rw [hB.2.1]; first | exact Nat.le_of_ble_eq_true rfl | (dsimp only; omega)) (by rw [hB.2.1]; first | exact Nat.le_of_ble_eq_true rfl | (dsimp only; omega)) (by rw [hB.2.1]; first | exact Nat.le_of_ble_eq_true rfl | (dsimp only; omega)) (by rw [hB.2.1]; first | exact Nat.le_of_ble_eq_true rfl | (dsimp only; omega)) dX7_run_12 (fun v h_12 n_12 p_12 => ?_)
    obtain ⟨b, rfl, rfl, rfl, hp⟩ := p_12
    try dsimp only [Option.toList, List.cons_append, List.nil_append]
    refine o_lstore_n hC dX7_run_15 (Nat.le_of_ble_eq_true rfl) ?_
    refine o_iconst (v := nI 0) hC dX7_run_16 (by decide +kernel) ?_
    refine o_istore hC dX7_run_17 (Nat.le_of_ble_eq_true rfl) ?_
    have loop : ∀ (m t : Nat) (h1 : rl_H) (N1 : Nat → Nat → Int32) (o5 o6 o7 o8 : Option Value), t + m = j + 1 → cl_ok ids h1 n_12 x L s (c.1, c.2.1, c.2.2.1, N1, c.2.2.2.2.1, c.2.2.2.2.2) → (∀ k f : Nat, f < 8 → N1 k f = c.2.2.2.1 k f) → (∀ k : Nat, k < t → nb b k → N1 k 8 ≠ nI 0) → cl_fr h_12 h1 x L → rl_G X (rl_e D ids H0) 19 [some (.ref x), some (.int (nI j)), some (.long b), none, some (.int (nI t)), o5, o6, o7, o8] [] h1 n_12 0 0 := by
      intro m
      induction m with
      | zero =>
        intro t h1 N1 o5 o6 o7 o8 hm hk1 hN hst hfr
        obtain ⟨k1, k2, k3, k4, k5, k6, k7⟩ := id hk1
        obtain ⟨c1, c2, ⟨gp, c3⟩, ⟨pn, c4, c5⟩, ⟨pt, c6, c7⟩, c8, c9, c10, c11, c12, c13, c14, c15⟩ := id k1
        obtain ⟨wd, sz, P, S, t1, -⟩ := c13 j (show j < c.2.1 by omega)
        have t1 : h1 (c.1 j + 1) = some (.inr (4, [.ref (c.1 j + 1 + 1), .int (nI sz), .int (nI wd)])) := t1
        have y0 : x + 70 ≤ c.1 j := c14 j (show j < c.2.1 by omega)
        refine o_iload hC dX7_run_19 (by rfl) ?_
        refine o_iload_n hC dX7_run_21 (by rfl) ?_
        refine o_icmp_gt (tgt := 147) hC dX7_run_22 (by decide) (fun c_22 => ?_) (fun c_22 => ?_)
        · refine o_aload_n hC dX7_run_147 (by rfl) ?_
          refine o_iload_n hC dX7_run_148 (by rfl) ?_
          refine o_putf hC (fX7_49 hC rfl) (fwX7 rfl rfl rfl (Or.inl rfl)) dX7_run_149 (by repeat (first | with_reducible assumption | (rw [rl_u_s]; done) | (rw [rl_u_s]; rfl) | rw [rl_u_n (by first | with_reducible assumption | omega)])) (Nat.le_of_ble_eq_true rfl) ?_
          try simp only [List.set_cons_zero, List.set_cons_succ]
          refine o_aload_n hC dX7_run_152 (by rfl) ?_
          refine o_getf hC (fX7_31 hC rfl) dX7_run_153 (by repeat (first | with_reducible assumption | (rw [rl_u_s]; done) | (rw [rl_u_s]; rfl) | rw [rl_u_n (by first | with_reducible assumption | omega)])) (by first | rfl | with_reducible assumption) ?_
          refine o_iload_n hC dX7_run_156 (by rfl) ?_
          refine o_aaldN (t0 := 6) (k := j) hC rfl dX7_run_157 ((rl_u_n (by omega)).trans c6) (by omega) (by decide) ?_
          rw [c7 _ (by omega), if_pos (show j < c.2.1 by omega)]
          show rl_G X _ _ _ (.ref (c.1 j + 1) :: _) _ _ _ _
          refine o_getf hC (fX7_138 hC rfl) dX7_run_158 (by repeat (first | with_reducible assumption | (rw [rl_u_s]; done) | (rw [rl_u_s]; rfl) | rw [rl_u_n (by first | with_reducible assumption | omega)])) (by first | rfl | with_reducible assumption) ?_
          refine o_iret hC hB dX7_run_161 (Nat.le_of_ble_eq_true rfl) (Nat.le_of_ble_eq_true rfl) ?_
          exact ⟨_, N1, nI j, rfl, rfl, hk1.rs (nI j) _, hN, fun q a b => (rl_u_n (by omega)).trans (hfr q a b)⟩
        · exact absurd (nI_lt (by omega) (by omega)) c_22
      | succ m ih =>
        intro t h1 N1 o5 o6 o7 o8 hm hk1 hN hst hfr
        obtain ⟨k1, k2, k3, k4, k5, k6, k7⟩ := id hk1
        obtain ⟨c1, c2, ⟨gp, c3⟩, ⟨pn, c4, c5⟩, ⟨pt, c6, c7⟩, c8, c9, c10, c11, c12, c13, c14, c15⟩ := id k1
        have m1 : h1 (c.1 t) = some (cl_nd N1 t) := c12 t (show t < c.2.1 by omega)
        unfold cl_nd at m1
        refine o_iload hC dX7_run_19 (by rfl) ?_
        refine o_iload_n hC dX7_run_21 (by rfl) ?_
        refine o_icmp_gt (tgt := 147) hC dX7_run_22 (by decide) (fun c_22 => ?_) (fun c_22 => ?_)
        · exact absurd c_22 (nI_nlt (by omega) (by omega))
        · refine o_aload_n hC dX7_run_25 (by rfl) ?_
          refine o_getf hC (fX7_25 hC rfl) dX7_run_26 (by repeat (first | with_reducible assumption | (rw [rl_u_s]; done) | (rw [rl_u_s]; rfl) | rw [rl_u_n (by first | with_reducible assumption | omega)])) (by first | rfl | with_reducible assumption) ?_
          refine o_iload hC dX7_run_29 (by rfl) ?_
          refine o_aaldN (t0 := 5) (k := t) hC rfl dX7_run_31 c4 (by omega) (by decide) ?_
          rw [c5 _ (by omega), if_pos (show t < c.2.1 by omega)]
          show rl_G X _ _ _ (.ref (c.1 t) :: _) _ _ _ _
          refine o_astore hC dX7_run_32 (Nat.le_of_ble_eq_true rfl) ?_
          refine o_lload_n hC dX7_run_34 (by rfl) ?_
          refine o_iload hC dX7_run_35 (by rfl) ?_
          refine o_lshr hC dX7_run_37 ?_
          refine o_lconst (v := 1) hC dX7_run_38 (by decide +kernel) ?_
          refine o_land hC dX7_run_39 ?_
          refine o_lconst (v := 0) hC dX7_run_40 (by decide +kernel) ?_
          refine o_lcmp hC dX7_run_41 ?_
          refine o_if_eq (tgt := 49) hC dX7_run_42 (by decide) (fun c_42 => ?_) (fun c_42 => ?_)
          · refine o_iconst (v := nI 0) hC dX7_run_49 (by decide +kernel) ?_
            refine o_istore hC dX7_run_50 (Nat.le_of_ble_eq_true rfl) ?_
            refine o_iload hC dX7_run_52 (by rfl) ?_
            refine o_if_eq (tgt := 124) hC dX7_run_54 (by decide) (fun _ => ?_) (fun q => absurd rfl q)
            refine o_iload hC dX7_run_124 (by rfl) ?_
            refine o_if_eq (tgt := 141) hC dX7_run_126 (by decide) (fun _ => ?_) (fun q => absurd rfl q)
            refine o_iinc hC dX7_run_141 (by rfl) (rl_inc _) (Nat.le_of_ble_eq_true rfl) ?_
            refine o_goto (tgt := 19) hC dX7_run_144 (by decide) ?_
            refine ih (t + 1) _ N1 _ _ _ _ (by omega) hk1 hN (fun k hk hb => ?_) hfr
            by_cases e : k = t
            · subst e
              exact absurd c_42 hb
            · exact hst k (by omega) hb
          · refine o_iconst (v := nI 1) hC dX7_run_45 (by decide +kernel) ?_
            refine o_goto (tgt := 50) hC dX7_run_46 (by decide) ?_
            refine o_istore hC dX7_run_50 (Nat.le_of_ble_eq_true rfl) ?_
            refine o_iload hC dX7_run_52 (by rfl) ?_
            refine o_if_eq (tgt := 124) hC dX7_run_54 (by decide) (fun q => absurd q (by decide +kernel)) (fun c_54 => ?_)
            refine o_aload hC dX7_run_57 (by rfl) ?_
            refine o_getf hC (fX7_121 hC rfl) dX7_run_59 (by repeat (first | with_reducible assumption | (rw [rl_u_s]; done) | (rw [rl_u_s]; rfl) | rw [rl_u_n (by first | with_reducible assumption | omega)])) (by first | rfl | with_reducible assumption) ?_
            refine o_if_ne (tgt := 124) hC dX7_run_62 (by decide) (fun c_62 => ?_) (fun c_62 => ?_)
            · refine o_iload hC dX7_run_124 (by rfl) ?_
              refine o_if_eq (tgt := 141) hC dX7_run_126 (by decide) (fun q => absurd q (by decide +kernel)) (fun c_126 => ?_)
              refine o_aload hC dX7_run_129 (by rfl) ?_
              refine o_getf hC (fX7_121 hC rfl) dX7_run_131 (by repeat (first | with_reducible assumption | (rw [rl_u_s]; done) | (rw [rl_u_s]; rfl) | rw [rl_u_n (by first | with_reducible assumption | omega)])) (by first | rfl | with_reducible assumption) ?_
              refine o_iconst (v := nI 2) hC dX7_run_134 (by decide +kernel) ?_
              refine o_icmp_ne (tgt := 141) hC dX7_run_135 (by decide) (fun c_135 => ?_) (fun c_135 => ?_)
              · refine o_iinc hC dX7_run_141 (by rfl) (rl_inc _) (Nat.le_of_ble_eq_true rfl) ?_
                refine o_goto (tgt := 19) hC dX7_run_144 (by decide) ?_
                refine ih (t + 1) _ N1 _ _ _ _ (by omega) hk1 hN (fun k hk hb => ?_) hfr
                by_cases e : k = t
                · subst e
                  exact c_62
                · exact hst k (by omega) hb
              · refine o_bipush (v := (-4 : Int32)) hC dX7_run_138 (by decide +kernel) ?_
                refine o_iret hC hB dX7_run_140 (Nat.le_of_ble_eq_true rfl) (Nat.le_of_ble_eq_true rfl) ?_
                exact ⟨_, N1, _, rfl, rfl, hk1, hN, hfr⟩
            · obtain ⟨op, w, w1, w2, a1, a2, a3, a4, -, a5, a6⟩ := k6 t (show t < c.2.2.1 by omega)
              have a1 : N1 t 0 = nI op := a1
              have a2 : N1 t 1 = nI w := a2
              have a4 : nd_ok op w (N1 t 4) (N1 t 5) (N1 t 6) (N1 t 7) w1 w2 := a4
              have cl1 := hp t (by omega) c_42
              have y0 : x + 70 ≤ c.1 t := c14 t (show t < c.2.1 by omega)
              refine o_aload_n hC dX7_run_65 (by rfl) ?_
              refine o_aload hC dX7_run_66 (by rfl) ?_
              refine o_getf hC (fX7_124 hC rfl) dX7_run_68 (by repeat (first | with_reducible assumption | (rw [rl_u_s]; done) | (rw [rl_u_s]; rfl) | rw [rl_u_n (by first | with_reducible assumption | omega)])) (by first | rfl | with_reducible assumption) ?_
              refine o_callV1 hC rl_BW_good rl_Ns_nw (by exact hB.2.2.2.2.2) YX7_tableOf IX7_tableOf VX7_tableOf (mX7_127 hC) (by rw [hB.1]; exact cg_X7_tableOf l D ids H0 _ _ x s (c.1, c.2.1, c.2.2.1, N1, c.2.2.2.2.1, c.2.2.2.2.2) _ k1) (by exact c1) rfl rfl (Nat.le_of_ble_eq_true rfl) (by rw [hB.2.1]; first | exact Nat.le_of_ble_eq_true rfl | (dsimp only; omega)) (by rw [hB.2.1]; first | exact Nat.le_of_ble_eq_true rfl | (dsimp only; omega)) (by rw [hB.2.1]; first | exact Nat.le_of_ble_eq_true rfl | (dsimp only; omega)) (by rw [hB.2.1]; first | exact Nat.le_of_ble_eq_true rfl | (dsimp only; omega)) dX7_run_71 (fun v h_71 n_71 p_71 => ?_)
              obtain ⟨z71, rfl, rfl, rfl, hz71⟩ := p_71
              try dsimp only [Option.toList, List.cons_append, List.nil_append]
              refine o_astore hC dX7_run_74 (Nat.le_of_ble_eq_true rfl) ?_
              refine o_aload_n hC dX7_run_76 (by rfl) ?_
              refine o_aload hC dX7_run_77 (by rfl) ?_
              refine o_getf hC (fX7_131 hC rfl) dX7_run_79 (by repeat (first | with_reducible assumption | (rw [rl_u_s]; done) | (rw [rl_u_s]; rfl) | rw [rl_u_n (by first | with_reducible assumption | omega)])) (by first | rfl | with_reducible assumption) ?_
              refine o_callV1 hC rl_BW_good rl_Ns_nw (by exact hB.2.2.2.2.2) YX7_tableOf IX7_tableOf VX7_tableOf (mX7_127 hC) (by rw [hB.1]; exact cg_X7_tableOf l D ids H0 _ _ x s (c.1, c.2.1, c.2.2.1, N1, c.2.2.2.2.1, c.2.2.2.2.2) _ k1) (by exact c1) rfl rfl (Nat.le_of_ble_eq_true rfl) (by rw [hB.2.1]; first | exact Nat.le_of_ble_eq_true rfl | (dsimp only; omega)) (by rw [hB.2.1]; first | exact Nat.le_of_ble_eq_true rfl | (dsimp only; omega)) (by rw [hB.2.1]; first | exact Nat.le_of_ble_eq_true rfl | (dsimp only; omega)) (by rw [hB.2.1]; first | exact Nat.le_of_ble_eq_true rfl | (dsimp only; omega)) dX7_run_82 (fun v h_82 n_82 p_82 => ?_)
              obtain ⟨z82, rfl, rfl, rfl, hz82⟩ := p_82
              try dsimp only [Option.toList, List.cons_append, List.nil_append]
              refine o_astore hC dX7_run_85 (Nat.le_of_ble_eq_true rfl) ?_
              have A1 : ∃ (sz1 : Nat) (P1 : Nat → Nat) (S1 : tb_S), (1 ≤ op) → tb_at ids h_82 z71 sz1 w1 P1 S1 ∧ (x + 41 + 22 ≤ z71 ∨ z71 + 402 ≤ x + 41) ∧ (z71 + 402 ≤ c.1 t + 1 ∨ c.1 t + 1 + 402 ≤ z71) := by
                by_cases q : 1 ≤ op
                · obtain ⟨i, i1, i2, i3, wi⟩ := a5 q
                  have i2 : N1 t 2 = nI i := i2
                  have i3 : N1 i 1 = nI w1 := i3
                  have i4 := hst i i1 (cl1 i i1 (Or.inl ((hN t 2 (by decide)).symm.trans i2)))
                  rcases hz71 with ⟨-, u⟩ | ⟨i5, u1, u2, rfl⟩
                  · exact absurd ⟨i, show i < c.2.2.1 by omega, i2⟩ u
                  · have u1 : i5 < c.2.2.1 := u1
                    have := nI_inj2 (by omega) (by omega) (i2.symm.trans u2)
                    subst this
                    obtain ⟨sz1, P1, S1, e⟩ := k7 i u1 i4 _ wi i3
                    have y1 : c.1 i + 403 ≤ c.1 t := c15 i t i1 (show t < c.2.1 by omega)
                    have y2 : x + 70 ≤ c.1 i := c14 i (show i < c.2.1 by omega)
                    exact ⟨sz1, P1, S1, fun _ => ⟨e, Or.inl (show x + 41 + 22 ≤ c.1 i + 1 by omega), Or.inl (show c.1 i + 1 + 402 ≤ c.1 t + 1 by omega)⟩⟩
                · exact ⟨0, fun _ => 0, (fun _ _ => 0, fun _ _ => 0, fun _ _ => 0, fun _ => 0), fun u => absurd u q⟩
              have A2 : ∃ (sz1 : Nat) (P1 : Nat → Nat) (S1 : tb_S), (op = 3 ∨ op = 4 ∨ op = 5) → tb_at ids h_82 z82 sz1 w2 P1 S1 ∧ (x + 41 + 22 ≤ z82 ∨ z82 + 402 ≤ x + 41) ∧ (z82 + 402 ≤ c.1 t + 1 ∨ c.1 t + 1 + 402 ≤ z82) := by
                by_cases q : op = 3 ∨ op = 4 ∨ op = 5
                · obtain ⟨i, i1, i2, i3, wi⟩ := a6 q
                  have i2 : N1 t 3 = nI i := i2
                  have i3 : N1 i 1 = nI w2 := i3
                  have i4 := hst i i1 (cl1 i i1 (Or.inr ((hN t 3 (by decide)).symm.trans i2)))
                  rcases hz82 with ⟨-, u⟩ | ⟨i5, u1, u2, rfl⟩
                  · exact absurd ⟨i, show i < c.2.2.1 by omega, i2⟩ u
                  · have u1 : i5 < c.2.2.1 := u1
                    have := nI_inj2 (by omega) (by omega) (i2.symm.trans u2)
                    subst this
                    obtain ⟨sz1, P1, S1, e⟩ := k7 i u1 i4 _ wi i3
                    have y1 : c.1 i + 403 ≤ c.1 t := c15 i t i1 (show t < c.2.1 by omega)
                    have y2 : x + 70 ≤ c.1 i := c14 i (show i < c.2.1 by omega)
                    exact ⟨sz1, P1, S1, fun _ => ⟨e, Or.inl (show x + 41 + 22 ≤ c.1 i + 1 by omega), Or.inl (show c.1 i + 1 + 402 ≤ c.1 t + 1 by omega)⟩⟩
                · exact ⟨0, fun _ => 0, (fun _ _ => 0, fun _ _ => 0, fun _ _ => 0, fun _ => 0), fun u => absurd u q⟩
              obtain ⟨sz1, P1, S1, A1⟩ := A1
              obtain ⟨sz2, P2, S2, A2⟩ := A2
              obtain ⟨wd0, ht0⟩ := c13 t (show t < c.2.1 by omega)
              have m2 := m1
              rw [a1, a2] at m2
              refine o_aload hC dX7_run_87 (by rfl) ?_
              refine o_aload_n hC dX7_run_89 (by rfl) ?_
              refine o_getf hC (fX7_19 hC rfl) dX7_run_90 (by repeat (first | with_reducible assumption | (rw [rl_u_s]; done) | (rw [rl_u_s]; rfl) | rw [rl_u_n (by first | with_reducible assumption | omega)])) (by first | rfl | with_reducible assumption) ?_
              refine o_aload hC dX7_run_93 (by rfl) ?_
              refine o_aload_n hC dX7_run_95 (by rfl) ?_
              refine o_getf hC (fX7_10 hC rfl) dX7_run_96 (by repeat (first | with_reducible assumption | (rw [rl_u_s]; done) | (rw [rl_u_s]; rfl) | rw [rl_u_n (by first | with_reducible assumption | omega)])) (by first | rfl | with_reducible assumption) ?_
              refine o_aload hC dX7_run_99 (by rfl) ?_
              refine o_aload hC dX7_run_101 (by rfl) ?_
              refine o_aload_n hC dX7_run_103 (by rfl) ?_
              refine o_getf hC (fX7_31 hC rfl) dX7_run_104 (by repeat (first | with_reducible assumption | (rw [rl_u_s]; done) | (rw [rl_u_s]; rfl) | rw [rl_u_n (by first | with_reducible assumption | omega)])) (by first | rfl | with_reducible assumption) ?_
              refine o_iload hC dX7_run_107 (by rfl) ?_
              refine o_aaldN (t0 := 6) (k := t) hC rfl dX7_run_109 c6 (by omega) (by decide) ?_
              rw [c7 _ (by omega), if_pos (show t < c.2.1 by omega)]
              show rl_G X _ _ _ (.ref (c.1 t + 1) :: _) _ _ _ _
              refine o_callV5 hC rl_BW_good rl_Ns_nw (by exact hB.2.2.2.2.2) YX2_fill IX2_fill VX2_fill (mX7_134 hC) (by rw [hB.1]; exact ct_X2_fill l D ids H0 _ _ (x + 41) (x + 1) (c.1 t + 1) w wd0 op (c.1 t) z71 z82 sz1 sz2 w1 w2 _ _ gp P1 P2 S1 S2 _ _ _ _ _ _ _ _ _ _ c3 ht0 c2 m2 a4 (by omega) (by omega) (by omega) (by omega) (by omega) A1 A2) (by exact c3.1) rfl rfl (Nat.le_of_ble_eq_true rfl) (by rw [hB.2.1]; first | exact Nat.le_of_ble_eq_true rfl | (dsimp only; omega)) (by rw [hB.2.1]; first | exact Nat.le_of_ble_eq_true rfl | (dsimp only; omega)) (by rw [hB.2.1]; first | exact Nat.le_of_ble_eq_true rfl | (dsimp only; omega)) (by rw [hB.2.1]; first | exact Nat.le_of_ble_eq_true rfl | (dsimp only; omega)) dX7_run_110 (fun v h_110 n_110 p_110 => ?_)
              obtain ⟨xr, rfl, rfl, q0, q1, q2, q3⟩ := p_110
              have m3 := (q3 (c.1 t) (by omega) (by omega)).trans m1
              try dsimp only [Option.toList, List.cons_append, List.nil_append]
              refine o_if_eq (tgt := 120) hC dX7_run_113 (by decide) (fun c_113 => ?_) (fun c_113 => ?_)
              · refine o_iconst (v := nI 2) hC dX7_run_120 (by decide +kernel) ?_
                refine o_putf hC (fX7_121 hC rfl) (fwX1 rfl rfl rfl (Or.inl rfl)) dX7_run_121 (by exact m3) (Nat.le_of_ble_eq_true rfl) ?_
                try simp only [List.set_cons_zero, List.set_cons_succ]
                obtain ⟨f1, f2⟩ := hk1.fl (t := t) (w := w) (show t < c.2.2.1 by omega) a2 a4.2.1 q1 q2 q3 (nI 2)
                rw [cl_nd_st] at f1 f2
                refine o_iload hC dX7_run_124 (by rfl) ?_
                refine o_if_eq (tgt := 141) hC dX7_run_126 (by decide) (fun q => absurd q (by decide +kernel)) (fun c_126 => ?_)
                refine o_aload hC dX7_run_129 (by rfl) ?_
                refine o_getf hC (fX7_121 hC rfl) dX7_run_131 (by repeat (first | with_reducible assumption | (rw [rl_u_s]; done) | (rw [rl_u_s]; rfl) | rw [rl_u_n (by first | with_reducible assumption | omega)])) (by first | rfl | with_reducible assumption) ?_
                refine o_iconst (v := nI 2) hC dX7_run_134 (by decide +kernel) ?_
                refine o_icmp_ne (tgt := 141) hC dX7_run_135 (by decide) (fun c_135 => ?_) (fun c_135 => ?_)
                · refine o_iinc hC dX7_run_141 (by rfl) (rl_inc _) (Nat.le_of_ble_eq_true rfl) ?_
                  refine o_goto (tgt := 19) hC dX7_run_144 (by decide) ?_
                  refine ih (t + 1) _ (cl_st N1 t (nI 2)) _ _ _ _ (by omega) f1 (fun k f hf => (cl_st_8 hf).trans (hN k f hf)) (fun k hk hb => ?_) (hfr.tr f2)
                  by_cases e : k = t
                  · subst e
                    rw [show cl_st N1 k (nI 2) k 8 = nI 2 from if_pos ⟨rfl, rfl⟩]
                    decide +kernel
                  · exact fun u => hst k (by omega) hb ((if_neg (fun w => e w.1)).symm.trans u)
                · refine o_bipush (v := (-4 : Int32)) hC dX7_run_138 (by decide +kernel) ?_
                  refine o_iret hC hB dX7_run_140 (Nat.le_of_ble_eq_true rfl) (Nat.le_of_ble_eq_true rfl) ?_
                  exact ⟨_, cl_st N1 t (nI 2), _, rfl, rfl, f1, fun k f hf => (cl_st_8 hf).trans (hN k f hf), hfr.tr f2⟩
              · refine o_iconst (v := nI 1) hC dX7_run_116 (by decide +kernel) ?_
                refine o_goto (tgt := 121) hC dX7_run_117 (by decide) ?_
                refine o_putf hC (fX7_121 hC rfl) (fwX1 rfl rfl rfl (Or.inl rfl)) dX7_run_121 (by exact m3) (Nat.le_of_ble_eq_true rfl) ?_
                try simp only [List.set_cons_zero, List.set_cons_succ]
                obtain ⟨f1, f2⟩ := hk1.fl (t := t) (w := w) (show t < c.2.2.1 by omega) a2 a4.2.1 q1 q2 q3 (nI 1)
                rw [cl_nd_st] at f1 f2
                refine o_iload hC dX7_run_124 (by rfl) ?_
                refine o_if_eq (tgt := 141) hC dX7_run_126 (by decide) (fun q => absurd q (by decide +kernel)) (fun c_126 => ?_)
                refine o_aload hC dX7_run_129 (by rfl) ?_
                refine o_getf hC (fX7_121 hC rfl) dX7_run_131 (by repeat (first | with_reducible assumption | (rw [rl_u_s]; done) | (rw [rl_u_s]; rfl) | rw [rl_u_n (by first | with_reducible assumption | omega)])) (by first | rfl | with_reducible assumption) ?_
                refine o_iconst (v := nI 2) hC dX7_run_134 (by decide +kernel) ?_
                refine o_icmp_ne (tgt := 141) hC dX7_run_135 (by decide) (fun c_135 => ?_) (fun c_135 => ?_)
                · refine o_iinc hC dX7_run_141 (by rfl) (rl_inc _) (Nat.le_of_ble_eq_true rfl) ?_
                  refine o_goto (tgt := 19) hC dX7_run_144 (by decide) ?_
                  refine ih (t + 1) _ (cl_st N1 t (nI 1)) _ _ _ _ (by omega) f1 (fun k f hf => (cl_st_8 hf).trans (hN k f hf)) (fun k hk hb => ?_) (hfr.tr f2)
                  by_cases e : k = t
                  · subst e
                    rw [show cl_st N1 k (nI 1) k 8 = nI 1 from if_pos ⟨rfl, rfl⟩]
                    decide +kernel
                  · exact fun u => hst k (by omega) hb ((if_neg (fun w => e w.1)).symm.trans u)
                · refine o_bipush (v := (-4 : Int32)) hC dX7_run_138 (by decide +kernel) ?_
                  refine o_iret hC hB dX7_run_140 (Nat.le_of_ble_eq_true rfl) (Nat.le_of_ble_eq_true rfl) ?_
                  exact ⟨_, cl_st N1 t (nI 1), _, rfl, rfl, f1, fun k f hf => (cl_st_8 hf).trans (hN k f hf), hfr.tr f2⟩
    exact loop (j + 1) 0 _ c.2.2.2.1 _ _ _ _ (by omega) hk (fun _ _ _ => rfl) (fun k hk => absurd hk (by omega)) cl_fr.rf
  · refine o_iconst (v := (-1 : Int32)) hC dX7_run_8 (by decide +kernel) ?_
    refine o_iret hC hB dX7_run_9 (Nat.le_of_ble_eq_true rfl) (Nat.le_of_ble_eq_true rfl) ?_
    exact ⟨_, c.2.2.2.1, _, rfl, rfl, hk, fun _ _ _ => rfl, cl_fr.rf⟩
