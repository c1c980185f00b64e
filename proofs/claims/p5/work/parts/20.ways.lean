/-! RowLineage$Ways: at w, its needs at w + 1, its lacks at w + 2 -/
def ws_at (ids : Nat → ClassId) (h : rl_H) (w : Nat) (f g : Nat → Int64) (k : Nat) : Prop :=
  h w = some (.inr (6, [.ref (w + 1), .ref (w + 2), .int (nI k)])) ∧ h (w + 1) = some (.inl (ids 1, 12, .inr (.inl f))) ∧ h (w + 2) = some (.inl (ids 1, 12, .inr (.inl g))) ∧ k ≤ 12
theorem ws_at.kept {ids : Nat → ClassId} {h h' : rl_H} {w a b : Nat} {f g : Nat → Int64} {k : Nat} (H : ws_at ids h w f g k) (hf : rl_fr h h' a b) (hd : w + 3 ≤ a ∨ b ≤ w) : ws_at ids h' w f g k :=
  ⟨by rw [hf w (by omega)]; exact H.1, by rw [hf (w + 1) (by omega)]; exact H.2.1, by rw [hf (w + 2) (by omega)]; exact H.2.2.1, H.2.2.2⟩
theorem rl_fr.rf {h : rl_H} {a b : Nat} : rl_fr h h a b := fun _ _ => rfl
theorem rl_fr.tr {h h1 h2 : rl_H} {a b : Nat} (x : rl_fr h h1 a b) (y : rl_fr h1 h2 a b) : rl_fr h h2 a b := fun q hq => (y q hq).trans (x q hq)
theorem rl_fr.wd {h h1 : rl_H} {a b a' b' : Nat} (x : rl_fr h h1 a b) (z1 : a' ≤ a) (z2 : b ≤ b') : rl_fr h h1 a' b' := fun q hq => x q (by omega)
/-- the first of the TERMS that holds, from j on, m of them -/
noncomputable def tm_first (f g : Nat → Int64) (x : Int64) : Nat → Nat → Int32
  | 0, _ => -1
  | m + 1, j => if f j &&& (x ^^^ (-1)) = 0 ∧ g j &&& x = 0 then nI j else tm_first f g x m (j + 1)
/-- all rows of the TERMS -/
def tm_rows (f g : Nat → Int64) : Nat → Nat → Int64 → Int64
  | 0, _, a => a
  | m + 1, j, a => tm_rows f g m (j + 1) (a ||| (f j ||| g j))
/-- a TERM is put among the first t, which stand in order -/
noncomputable def tm_ins (a b : Int64) : Nat → (Nat → Int64) → (Nat → Int64) → (Nat → Int64) × (Nat → Int64)
  | 0, f, g => (vp_updL f 0 a, vp_updL g 0 b)
  | t + 1, f, g => if a < f t ∨ (f t = a ∧ b < g t) then tm_ins a b t (vp_updL f (t + 1) (f t)) (vp_updL g (t + 1) (g t)) else (vp_updL f (t + 1) a, vp_updL g (t + 1) b)

set_option maxHeartbeats 4000000 in
set_option maxRecDepth 100000 in
theorem ct_X6_firstThatHolds (l : Launch) (D : va_G) (ids : Nat → ClassId) (H0 : Heap) (h : rl_H) (n : Nat) (w k : Nat) (f g : Nat → Int64) (x : Int64) (hw : ws_at ids h w f g k) : rl_Met l (rl_e D ids H0) rl_BW rl_Ns yX6_firstThatHolds cX6_firstThatHolds 4 (some .int) ({ frames := 0, cells := 0, slots := 0, locals := 0 }) [.ref w, .long x] h n (fun v h' n' => v = some (.int (tm_first f g x k 0)) ∧ h' = h ∧ n' = n) := by
  obtain ⟨h1, h2, h3, hk⟩ := hw
  refine rl_Met.of (by decide +kernel) (Nat.le_of_ble_eq_true rfl) ?_
  intro X hC hB
  have loop : ∀ (m j : Nat), j + m = k → tm_first f g x k 0 = tm_first f g x m j → rl_G X (rl_e D ids H0) 2 [some (.ref w), some (.long x), none, some (.int (nI j))] [] h n 0 0 := by
    intro m
    induction m with
    | zero =>
      intro j hj hs
      refine o_iload_n hC dX6_firstThatHolds_2 (by rfl) ?_
      refine o_aload_n hC dX6_firstThatHolds_3 (by rfl) ?_
      refine o_getf hC (fX6_18 hC rfl) dX6_firstThatHolds_4 (by repeat (first | with_reducible assumption | (rw [rl_u_s]; done) | (rw [rl_u_s]; rfl) | rw [rl_u_n (by first | with_reducible assumption | omega)])) (by first | rfl | with_reducible assumption) ?_
      refine o_icmp_ge (tgt := 48) hC dX6_firstThatHolds_7 (by decide) (fun c_7 => ?_) (fun c_7 => ?_)
      · refine o_iconst (v := (-1 : Int32)) hC dX6_firstThatHolds_48 (by decide +kernel) ?_
        refine o_iret hC hB dX6_firstThatHolds_49 (Nat.le_of_ble_eq_true rfl) (Nat.le_of_ble_eq_true rfl) ?_
        exact ⟨by rw [hs]; rfl, rfl, rfl⟩
      · exact absurd (nI_le (by omega) (by omega)) c_7
    | succ m ih =>
      intro j hj hs
      refine o_iload_n hC dX6_firstThatHolds_2 (by rfl) ?_
      refine o_aload_n hC dX6_firstThatHolds_3 (by rfl) ?_
      refine o_getf hC (fX6_18 hC rfl) dX6_firstThatHolds_4 (by repeat (first | with_reducible assumption | (rw [rl_u_s]; done) | (rw [rl_u_s]; rfl) | rw [rl_u_n (by first | with_reducible assumption | omega)])) (by first | rfl | with_reducible assumption) ?_
      refine o_icmp_ge (tgt := 48) hC dX6_firstThatHolds_7 (by decide) (fun c_7 => ?_) (fun c_7 => ?_)
      · exact absurd c_7 (nI_ge (by omega) (by omega))
      · refine o_aload_n hC dX6_firstThatHolds_10 (by rfl) ?_
        refine o_getf hC (fX6_9 hC rfl) dX6_firstThatHolds_11 (by repeat (first | with_reducible assumption | (rw [rl_u_s]; done) | (rw [rl_u_s]; rfl) | rw [rl_u_n (by first | with_reducible assumption | omega)])) (by first | rfl | with_reducible assumption) ?_
        refine o_iload_n hC dX6_firstThatHolds_14 (by rfl) ?_
        refine o_laldN (t0 := 1) hC rfl dX6_firstThatHolds_15 (by repeat (first | with_reducible assumption | (rw [rl_u_s]; done) | (rw [rl_u_s]; rfl) | rw [rl_u_n (by first | with_reducible assumption | omega)])) (by omega) (by decide) ?_
        refine o_lload_n hC dX6_firstThatHolds_16 (by rfl) ?_
        refine o_ldc2 hC nX6_26 dX6_firstThatHolds_17 ?_
        refine o_lxor hC dX6_firstThatHolds_20 ?_
        refine o_land hC dX6_firstThatHolds_21 ?_
        refine o_lconst (v := 0) hC dX6_firstThatHolds_22 (by decide +kernel) ?_
        refine o_lcmp hC dX6_firstThatHolds_23 ?_
        refine o_if_ne (tgt := 42) hC dX6_firstThatHolds_24 (by decide) (fun c_24 => ?_) (fun c_24 => ?_)
        · refine o_iinc hC dX6_firstThatHolds_42 (by rfl) (rl_inc _) (Nat.le_of_ble_eq_true rfl) ?_
          refine o_goto (tgt := 2) hC dX6_firstThatHolds_45 (by decide) ?_
          exact ih (j + 1) (by omega) (by rw [hs, tm_first, if_neg]; exact fun q => by first | exact c_24 ((lg_cmp_eq _ _).mpr q.1) | exact c_37 ((lg_cmp_eq _ _).mpr q.2))
        · refine o_aload_n hC dX6_firstThatHolds_27 (by rfl) ?_
          refine o_getf hC (fX6_15 hC rfl) dX6_firstThatHolds_28 (by repeat (first | with_reducible assumption | (rw [rl_u_s]; done) | (rw [rl_u_s]; rfl) | rw [rl_u_n (by first | with_reducible assumption | omega)])) (by first | rfl | with_reducible assumption) ?_
          refine o_iload_n hC dX6_firstThatHolds_31 (by rfl) ?_
          refine o_laldN (t0 := 1) hC rfl dX6_firstThatHolds_32 (by repeat (first | with_reducible assumption | (rw [rl_u_s]; done) | (rw [rl_u_s]; rfl) | rw [rl_u_n (by first | with_reducible assumption | omega)])) (by omega) (by decide) ?_
          refine o_lload_n hC dX6_firstThatHolds_33 (by rfl) ?_
          refine o_land hC dX6_firstThatHolds_34 ?_
          refine o_lconst (v := 0) hC dX6_firstThatHolds_35 (by decide +kernel) ?_
          refine o_lcmp hC dX6_firstThatHolds_36 ?_
          refine o_if_ne (tgt := 42) hC dX6_firstThatHolds_37 (by decide) (fun c_37 => ?_) (fun c_37 => ?_)
          · refine o_iinc hC dX6_firstThatHolds_42 (by rfl) (rl_inc _) (Nat.le_of_ble_eq_true rfl) ?_
            refine o_goto (tgt := 2) hC dX6_firstThatHolds_45 (by decide) ?_
            exact ih (j + 1) (by omega) (by rw [hs, tm_first, if_neg]; exact fun q => by first | exact c_24 ((lg_cmp_eq _ _).mpr q.1) | exact c_37 ((lg_cmp_eq _ _).mpr q.2))
          · refine o_iload_n hC dX6_firstThatHolds_40 (by rfl) ?_
            refine o_iret hC hB dX6_firstThatHolds_41 (Nat.le_of_ble_eq_true rfl) (Nat.le_of_ble_eq_true rfl) ?_
            refine ⟨?_, rfl, rfl⟩
            rw [hs, tm_first, if_pos ⟨(lg_cmp_eq _ _).mp c_24, (lg_cmp_eq _ _).mp c_37⟩]
  show rl_G X (rl_e D ids H0) 0 [some (.ref w), some (.long x), none, none] [] h n 0 0
  refine o_iconst (v := nI 0) hC dX6_firstThatHolds_0 (by decide +kernel) ?_
  refine o_istore_n hC dX6_firstThatHolds_1 (Nat.le_of_ble_eq_true rfl) ?_
  exact loop k 0 (by omega) rfl

set_option maxHeartbeats 4000000 in
set_option maxRecDepth 100000 in
theorem ct_X6_init (l : Launch) (D : va_G) (ids : Nat → ClassId) (H0 : Heap) (h : rl_H) (n : Nat) (w : Nat) (h1 : h w = some (.inr (6, [.null, .null, .int (nI 0)]))) (hn : n = w + 1) : rl_Met l (rl_e D ids H0) rl_BW rl_Ns yX6_init cX6_init 1 none ({ frames := 1, cells := 2, slots := 24, locals := 16 }) [.ref w] h n (fun v h' n' => v = none ∧ n' = w + 3 ∧ ws_at ids h' w (fun _ => 0) (fun _ => 0) 0 ∧ rl_fr h h' w (w + 3)) := by
  subst hn
  refine rl_Met.of (by decide +kernel) (Nat.le_of_ble_eq_true rfl) ?_
  intro X hC hB
  show rl_G X (rl_e D ids H0) 0 [some (.ref w)] [] h (w + 1) 0 0
  refine o_aload_n hC dX6_init_0 (by rfl) ?_
  refine o_objInit hC (by exact hB.2.2.2.2.2) mX6_3 w_objI w_objC dX6_init_1 (by rw [hB.2.1]; first | exact Nat.le_of_ble_eq_true rfl | (dsimp only; omega)) (by rw [hB.2.1]; first | exact Nat.le_of_ble_eq_true rfl | (dsimp only; omega)) ?_
  refine o_aload_n hC dX6_init_4 (by rfl) ?_
  refine o_bipush (v := nI 12) hC dX6_init_5 (by decide +kernel) ?_
  refine o_newa (atype := .long) (ty := .long) (t0 := 1) (N' := 12) (x := .inr (.inl (fun _ => 0))) hC rfl (fun C q => by cases q) aw_long rfl rfl (nI_pos (by decide)) (nI_clamp (by decide)) (by decide) (by rw [hB.2.1]; first | exact Nat.le_of_ble_eq_true rfl | (dsimp only; omega)) (by rw [hB.2.1]; first | exact Nat.le_of_ble_eq_true rfl | (dsimp only; omega)) dX6_init_7 ?_
  refine o_putf hC (fX6_9 hC rfl) (fwX6 rfl rfl rfl (Or.inr ⟨rfl, hB.2.2.2.2.1, rfl⟩)) dX6_init_9 (by repeat (first | with_reducible assumption | (rw [rl_u_s]; done) | (rw [rl_u_s]; rfl) | rw [rl_u_n (by first | with_reducible assumption | omega)])) (Nat.le_of_ble_eq_true rfl) ?_
  try simp only [List.set_cons_zero, List.set_cons_succ]
  refine o_aload_n hC dX6_init_12 (by rfl) ?_
  refine o_bipush (v := nI 12) hC dX6_init_13 (by decide +kernel) ?_
  refine o_newa (atype := .long) (ty := .long) (t0 := 1) (N' := 12) (x := .inr (.inl (fun _ => 0))) hC rfl (fun C q => by cases q) aw_long rfl rfl (nI_pos (by decide)) (nI_clamp (by decide)) (by decide) (by rw [hB.2.1]; first | exact Nat.le_of_ble_eq_true rfl | (dsimp only; omega)) (by rw [hB.2.1]; first | exact Nat.le_of_ble_eq_true rfl | (dsimp only; omega)) dX6_init_15 ?_
  refine o_putf hC (fX6_15 hC rfl) (fwX6 rfl rfl rfl (Or.inr ⟨rfl, hB.2.2.2.2.1, rfl⟩)) dX6_init_17 (by repeat (first | with_reducible assumption | (rw [rl_u_s]; done) | (rw [rl_u_s]; rfl) | rw [rl_u_n (by first | with_reducible assumption | omega)])) (Nat.le_of_ble_eq_true rfl) ?_
  try simp only [List.set_cons_zero, List.set_cons_succ]
  refine o_vret hC hB dX6_init_20 (Nat.le_of_ble_eq_true rfl) (Nat.le_of_ble_eq_true rfl) ?_
  refine ⟨rfl, rfl, ⟨by repeat (first | with_reducible assumption | (rw [rl_u_s]; done) | (rw [rl_u_s]; rfl) | rw [rl_u_n (by first | with_reducible assumption | omega)]), by repeat (first | with_reducible assumption | (rw [rl_u_s]; done) | (rw [rl_u_s]; rfl) | rw [rl_u_n (by first | with_reducible assumption | omega)]), by repeat (first | with_reducible assumption | (rw [rl_u_s]; done) | (rw [rl_u_s]; rfl) | rw [rl_u_n (by first | with_reducible assumption | omega)]), by omega⟩, ?_⟩
  intro q hq
  repeat (first | rfl | rw [rl_u_n (by omega)])

set_option maxHeartbeats 4000000 in
set_option maxRecDepth 100000 in
theorem ct_X6_becomeFalse (l : Launch) (D : va_G) (ids : Nat → ClassId) (H0 : Heap) (h : rl_H) (n : Nat) (w k : Nat) (f g : Nat → Int64) (hw : ws_at ids h w f g k) : rl_Met l (rl_e D ids H0) rl_BW rl_Ns yX6_becomeFalse cX6_becomeFalse 1 none ({ frames := 0, cells := 0, slots := 0, locals := 0 }) [.ref w] h n (fun v h' n' => v = none ∧ n' = n ∧ ws_at ids h' w f g 0 ∧ rl_fr h h' w (w + 1)) := by
  obtain ⟨h1, h2, h3, hk⟩ := hw
  refine rl_Met.of (by decide +kernel) (Nat.le_of_ble_eq_true rfl) ?_
  intro X hC hB
  show rl_G X (rl_e D ids H0) 0 [some (.ref w)] [] h n 0 0
  refine o_aload_n hC dX6_becomeFalse_0 (by rfl) ?_
  refine o_iconst (v := nI 0) hC dX6_becomeFalse_1 (by decide +kernel) ?_
  refine o_putf hC (fX6_18 hC rfl) (fwX6 rfl rfl rfl (Or.inl rfl)) dX6_becomeFalse_2 (by repeat (first | with_reducible assumption | (rw [rl_u_s]; done) | (rw [rl_u_s]; rfl) | rw [rl_u_n (by first | with_reducible assumption | omega)])) (Nat.le_of_ble_eq_true rfl) ?_
  try simp only [List.set_cons_zero, List.set_cons_succ]
  refine o_vret hC hB dX6_becomeFalse_5 (Nat.le_of_ble_eq_true rfl) (Nat.le_of_ble_eq_true rfl) ?_
  refine ⟨rfl, rfl, ⟨by repeat (first | with_reducible assumption | (rw [rl_u_s]; done) | (rw [rl_u_s]; rfl) | rw [rl_u_n (by first | with_reducible assumption | omega)]), by repeat (first | with_reducible assumption | (rw [rl_u_s]; done) | (rw [rl_u_s]; rfl) | rw [rl_u_n (by first | with_reducible assumption | omega)]), by repeat (first | with_reducible assumption | (rw [rl_u_s]; done) | (rw [rl_u_s]; rfl) | rw [rl_u_n (by first | with_reducible assumption | omega)]), by omega⟩, ?_⟩
  intro q hq
  repeat (first | rfl | rw [rl_u_n (by omega)])

set_option maxHeartbeats 4000000 in
set_option maxRecDepth 100000 in
theorem ct_X6_becomeTerm (l : Launch) (D : va_G) (ids : Nat → ClassId) (H0 : Heap) (h : rl_H) (n : Nat) (w k : Nat) (f g : Nat → Int64) (a b : Int64) (hw : ws_at ids h w f g k) : rl_Met l (rl_e D ids H0) rl_BW rl_Ns yX6_becomeTerm cX6_becomeTerm 5 none ({ frames := 0, cells := 0, slots := 0, locals := 0 }) [.ref w, .long a, .long b] h n (fun v h' n' => v = none ∧ n' = n ∧ ws_at ids h' w (vp_updL f 0 a) (vp_updL g 0 b) 1 ∧ rl_fr h h' w (w + 3)) := by
  obtain ⟨h1, h2, h3, hk⟩ := hw
  refine rl_Met.of (by decide +kernel) (Nat.le_of_ble_eq_true rfl) ?_
  intro X hC hB
  show rl_G X (rl_e D ids H0) 0 [some (.ref w), some (.long a), none, some (.long b), none] [] h n 0 0
  refine o_aload_n hC dX6_becomeTerm_0 (by rfl) ?_
  refine o_getf hC (fX6_9 hC rfl) dX6_becomeTerm_1 (by repeat (first | with_reducible assumption | (rw [rl_u_s]; done) | (rw [rl_u_s]; rfl) | rw [rl_u_n (by first | with_reducible assumption | omega)])) (by first | rfl | with_reducible assumption) ?_
  refine o_iconst (v := nI 0) hC dX6_becomeTerm_4 (by decide +kernel) ?_
  refine o_lload_n hC dX6_becomeTerm_5 (by rfl) ?_
  refine o_lastN (t0 := 1) hC rfl dX6_becomeTerm_6 (by repeat (first | with_reducible assumption | (rw [rl_u_s]; done) | (rw [rl_u_s]; rfl) | rw [rl_u_n (by first | with_reducible assumption | omega)])) (by omega) (by decide) ?_
  refine o_aload_n hC dX6_becomeTerm_7 (by rfl) ?_
  refine o_getf hC (fX6_15 hC rfl) dX6_becomeTerm_8 (by repeat (first | with_reducible assumption | (rw [rl_u_s]; done) | (rw [rl_u_s]; rfl) | rw [rl_u_n (by first | with_reducible assumption | omega)])) (by first | rfl | with_reducible assumption) ?_
  refine o_iconst (v := nI 0) hC dX6_becomeTerm_11 (by decide +kernel) ?_
  refine o_lload_n hC dX6_becomeTerm_12 (by rfl) ?_
  refine o_lastN (t0 := 1) hC rfl dX6_becomeTerm_13 (by repeat (first | with_reducible assumption | (rw [rl_u_s]; done) | (rw [rl_u_s]; rfl) | rw [rl_u_n (by first | with_reducible assumption | omega)])) (by omega) (by decide) ?_
  refine o_aload_n hC dX6_becomeTerm_14 (by rfl) ?_
  refine o_iconst (v := nI 1) hC dX6_becomeTerm_15 (by decide +kernel) ?_
  refine o_putf hC (fX6_18 hC rfl) (fwX6 rfl rfl rfl (Or.inl rfl)) dX6_becomeTerm_16 (by repeat (first | with_reducible assumption | (rw [rl_u_s]; done) | (rw [rl_u_s]; rfl) | rw [rl_u_n (by first | with_reducible assumption | omega)])) (Nat.le_of_ble_eq_true rfl) ?_
  try simp only [List.set_cons_zero, List.set_cons_succ]
  refine o_vret hC hB dX6_becomeTerm_19 (Nat.le_of_ble_eq_true rfl) (Nat.le_of_ble_eq_true rfl) ?_
  refine ⟨rfl, rfl, ⟨by repeat (first | with_reducible assumption | (rw [rl_u_s]; done) | (rw [rl_u_s]; rfl) | rw [rl_u_n (by first | with_reducible assumption | omega)]), by repeat (first | with_reducible assumption | (rw [rl_u_s]; done) | (rw [rl_u_s]; rfl) | rw [rl_u_n (by first | with_reducible assumption | omega)]), by repeat (first | with_reducible assumption | (rw [rl_u_s]; done) | (rw [rl_u_s]; rfl) | rw [rl_u_n (by first | with_reducible assumption | omega)]), by omega⟩, ?_⟩
  intro q hq
  repeat (first | rfl | rw [rl_u_n (by omega)])

set_option maxHeartbeats 4000000 in
set_option maxRecDepth 100000 in
theorem ct_X6_becomeTrue (l : Launch) (D : va_G) (ids : Nat → ClassId) (H0 : Heap) (h : rl_H) (n : Nat) (w k : Nat) (f g : Nat → Int64) (hw : ws_at ids h w f g k) : rl_Met l (rl_e D ids H0) rl_BW rl_Ns yX6_becomeTrue cX6_becomeTrue 1 none ({ frames := 1, cells := 0, slots := 0, locals := 24 }) [.ref w] h n (fun v h' n' => v = none ∧ n' = n ∧ ws_at ids h' w (vp_updL f 0 0) (vp_updL g 0 0) 1 ∧ rl_fr h h' w (w + 3)) := by
  refine rl_Met.of (by decide +kernel) (Nat.le_of_ble_eq_true rfl) ?_
  intro X hC hB
  show rl_G X (rl_e D ids H0) 0 [some (.ref w)] [] h n 0 0
  refine o_aload_n hC dX6_becomeTrue_0 (by rfl) ?_
  refine o_lconst (v := 0) hC dX6_becomeTrue_1 (by decide +kernel) ?_
  refine o_lconst (v := 0) hC dX6_becomeTrue_2 (by decide +kernel) ?_
  refine o_callV2 hC rl_BW_good rl_Ns_nw (by exact hB.2.2.2.2.2) YX6_becomeTerm IX6_becomeTerm VX6_becomeTerm (mX6_22 hC) (by rw [hB.1]; exact ct_X6_becomeTerm l D ids H0 h n w k f g 0 0 hw) (by exact hw.1) rfl rfl (Nat.le_of_ble_eq_true rfl) (by rw [hB.2.1]; first | exact Nat.le_of_ble_eq_true rfl | (dsimp only; omega)) (by rw [hB.2.1]; first | exact Nat.le_of_ble_eq_true rfl | (dsimp only; omega)) (by rw [hB.2.1]; first | exact Nat.le_of_ble_eq_true rfl | (dsimp only; omega)) (by rw [hB.2.1]; first | exact Nat.le_of_ble_eq_true rfl | (dsimp only; omega)) dX6_becomeTrue_3 (fun v h_3 n_3 p_3 => ?_)
  obtain ⟨rfl, rfl, p1, p2⟩ := p_3
  try dsimp only [Option.toList, List.cons_append, List.nil_append]
  refine o_vret hC hB dX6_becomeTrue_6 (Nat.le_of_ble_eq_true rfl) (Nat.le_of_ble_eq_true rfl) ?_
  exact ⟨rfl, rfl, p1, p2⟩

set_option maxHeartbeats 4000000 in
set_option maxRecDepth 100000 in
theorem ct_X6_holdsWith (l : Launch) (D : va_G) (ids : Nat → ClassId) (H0 : Heap) (h : rl_H) (n : Nat) (w k : Nat) (f g : Nat → Int64) (x : Int64) (hw : ws_at ids h w f g k) : rl_Met l (rl_e D ids H0) rl_BW rl_Ns yX6_holdsWith cX6_holdsWith 3 (some .boolean) ({ frames := 1, cells := 0, slots := 0, locals := 23 }) [.ref w, .long x] h n (fun v h' n' => v = some (.int (if tm_first f g x k 0 = -1 then nI 0 else nI 1)) ∧ h' = h ∧ n' = n) := by
  refine rl_Met.of (by decide +kernel) (Nat.le_of_ble_eq_true rfl) ?_
  intro X hC hB
  show rl_G X (rl_e D ids H0) 0 [some (.ref w), some (.long x), none] [] h n 0 0
  refine o_aload_n hC dX6_holdsWith_0 (by rfl) ?_
  refine o_lload_n hC dX6_holdsWith_1 (by rfl) ?_
  refine o_callV1 hC rl_BW_good rl_Ns_nw (by exact hB.2.2.2.2.2) YX6_firstThatHolds IX6_firstThatHolds VX6_firstThatHolds (mX6_28 hC) (by rw [hB.1]; exact ct_X6_firstThatHolds l D ids H0 h n w k f g x hw) (by exact hw.1) rfl rfl (Nat.le_of_ble_eq_true rfl) (by rw [hB.2.1]; first | exact Nat.le_of_ble_eq_true rfl | (dsimp only; omega)) (by rw [hB.2.1]; first | exact Nat.le_of_ble_eq_true rfl | (dsimp only; omega)) (by rw [hB.2.1]; first | exact Nat.le_of_ble_eq_true rfl | (dsimp only; omega)) (by rw [hB.2.1]; first | exact Nat.le_of_ble_eq_true rfl | (dsimp only; omega)) dX6_holdsWith_2 (fun v h_2 n_2 p_2 => ?_)
  obtain ⟨rfl, rfl, rfl⟩ := p_2
  try dsimp only [Option.toList, List.cons_append, List.nil_append]
  refine o_iconst (v := (-1 : Int32)) hC dX6_holdsWith_5 (by decide +kernel) ?_
  refine o_icmp_eq (tgt := 13) hC dX6_holdsWith_6 (by decide) (fun c_6 => ?_) (fun c_6 => ?_)
  · refine o_iconst (v := nI 0) hC dX6_holdsWith_13 (by decide +kernel) ?_
    refine o_zret hC hB dX6_holdsWith_14 (by first | rfl | decide +kernel) (Nat.le_of_ble_eq_true rfl) (Nat.le_of_ble_eq_true rfl) ?_
    refine ⟨?_, rfl, rfl⟩
    first | rw [if_pos c_6] | rw [if_neg c_6]
  · refine o_iconst (v := nI 1) hC dX6_holdsWith_9 (by decide +kernel) ?_
    refine o_goto (tgt := 14) hC dX6_holdsWith_10 (by decide) ?_
    refine o_zret hC hB dX6_holdsWith_14 (by first | rfl | decide +kernel) (Nat.le_of_ble_eq_true rfl) (Nat.le_of_ble_eq_true rfl) ?_
    refine ⟨?_, rfl, rfl⟩
    first | rw [if_pos c_6] | rw [if_neg c_6]

set_option maxHeartbeats 4000000 in
set_option maxRecDepth 100000 in
theorem ct_X6_rowsOfTerms (l : Launch) (D : va_G) (ids : Nat → ClassId) (H0 : Heap) (h : rl_H) (n : Nat) (w k : Nat) (f g : Nat → Int64) (hw : ws_at ids h w f g k) : rl_Met l (rl_e D ids H0) rl_BW rl_Ns yX6_rowsOfTerms cX6_rowsOfTerms 4 (some .long) ({ frames := 0, cells := 0, slots := 0, locals := 0 }) [.ref w] h n (fun v h' n' => v = some (.long (tm_rows f g k 0 0)) ∧ h' = h ∧ n' = n) := by
  obtain ⟨h1, h2, h3, hk⟩ := hw
  refine rl_Met.of (by decide +kernel) (Nat.le_of_ble_eq_true rfl) ?_
  intro X hC hB
  have loop : ∀ (m j : Nat) (a : Int64), j + m = k → tm_rows f g k 0 0 = tm_rows f g m j a → rl_G X (rl_e D ids H0) 4 [some (.ref w), some (.long a), none, some (.int (nI j))] [] h n 0 0 := by
    intro m
    induction m with
    | zero =>
      intro j a hj hs
      refine o_iload_n hC dX6_rowsOfTerms_4 (by rfl) ?_
      refine o_aload_n hC dX6_rowsOfTerms_5 (by rfl) ?_
      refine o_getf hC (fX6_18 hC rfl) dX6_rowsOfTerms_6 (by repeat (first | with_reducible assumption | (rw [rl_u_s]; done) | (rw [rl_u_s]; rfl) | rw [rl_u_n (by first | with_reducible assumption | omega)])) (by first | rfl | with_reducible assumption) ?_
      refine o_icmp_ge (tgt := 34) hC dX6_rowsOfTerms_9 (by decide) (fun c_9 => ?_) (fun c_9 => ?_)
      · refine o_lload_n hC dX6_rowsOfTerms_34 (by rfl) ?_
        refine o_lret hC hB dX6_rowsOfTerms_35 (Nat.le_of_ble_eq_true rfl) (Nat.le_of_ble_eq_true rfl) ?_
        exact ⟨by rw [hs]; rfl, rfl, rfl⟩
      · exact absurd (nI_le (by omega) (by omega)) c_9
    | succ m ih =>
      intro j a hj hs
      refine o_iload_n hC dX6_rowsOfTerms_4 (by rfl) ?_
      refine o_aload_n hC dX6_rowsOfTerms_5 (by rfl) ?_
      refine o_getf hC (fX6_18 hC rfl) dX6_rowsOfTerms_6 (by repeat (first | with_reducible assumption | (rw [rl_u_s]; done) | (rw [rl_u_s]; rfl) | rw [rl_u_n (by first | with_reducible assumption | omega)])) (by first | rfl | with_reducible assumption) ?_
      refine o_icmp_ge (tgt := 34) hC dX6_rowsOfTerms_9 (by decide) (fun c_9 => ?_) (fun c_9 => ?_)
      · exact absurd c_9 (nI_ge (by omega) (by omega))
      · refine o_lload_n hC dX6_rowsOfTerms_12 (by rfl) ?_
        refine o_aload_n hC dX6_rowsOfTerms_13 (by rfl) ?_
        refine o_getf hC (fX6_9 hC rfl) dX6_rowsOfTerms_14 (by repeat (first | with_reducible assumption | (rw [rl_u_s]; done) | (rw [rl_u_s]; rfl) | rw [rl_u_n (by first | with_reducible assumption | omega)])) (by first | rfl | with_reducible assumption) ?_
        refine o_iload_n hC dX6_rowsOfTerms_17 (by rfl) ?_
        refine o_laldN (t0 := 1) hC rfl dX6_rowsOfTerms_18 (by repeat (first | with_reducible assumption | (rw [rl_u_s]; done) | (rw [rl_u_s]; rfl) | rw [rl_u_n (by first | with_reducible assumption | omega)])) (by omega) (by decide) ?_
        refine o_aload_n hC dX6_rowsOfTerms_19 (by rfl) ?_
        refine o_getf hC (fX6_15 hC rfl) dX6_rowsOfTerms_20 (by repeat (first | with_reducible assumption | (rw [rl_u_s]; done) | (rw [rl_u_s]; rfl) | rw [rl_u_n (by first | with_reducible assumption | omega)])) (by first | rfl | with_reducible assumption) ?_
        refine o_iload_n hC dX6_rowsOfTerms_23 (by rfl) ?_
        refine o_laldN (t0 := 1) hC rfl dX6_rowsOfTerms_24 (by repeat (first | with_reducible assumption | (rw [rl_u_s]; done) | (rw [rl_u_s]; rfl) | rw [rl_u_n (by first | with_reducible assumption | omega)])) (by omega) (by decide) ?_
        refine o_lor hC dX6_rowsOfTerms_25 ?_
        refine o_lor hC dX6_rowsOfTerms_26 ?_
        refine o_lstore_n hC dX6_rowsOfTerms_27 (Nat.le_of_ble_eq_true rfl) ?_
        refine o_iinc hC dX6_rowsOfTerms_28 (by rfl) (rl_inc _) (Nat.le_of_ble_eq_true rfl) ?_
        refine o_goto (tgt := 4) hC dX6_rowsOfTerms_31 (by decide) ?_
        exact ih (j + 1) _ (by omega) hs
  show rl_G X (rl_e D ids H0) 0 [some (.ref w), none, none, none] [] h n 0 0
  refine o_lconst (v := 0) hC dX6_rowsOfTerms_0 (by decide +kernel) ?_
  refine o_lstore_n hC dX6_rowsOfTerms_1 (Nat.le_of_ble_eq_true rfl) ?_
  refine o_iconst (v := nI 0) hC dX6_rowsOfTerms_2 (by decide +kernel) ?_
  refine o_istore_n hC dX6_rowsOfTerms_3 (Nat.le_of_ble_eq_true rfl) ?_
  exact loop k 0 0 (by omega) rfl

set_option maxHeartbeats 4000000 in
set_option maxRecDepth 100000 in
theorem ct_X6_insert (l : Launch) (D : va_G) (ids : Nat → ClassId) (H0 : Heap) (h : rl_H) (n : Nat) (w k : Nat) (f g : Nat → Int64) (a b : Int64) (hw : ws_at ids h w f g k) : rl_Met l (rl_e D ids H0) rl_BW rl_Ns yX6_insert cX6_insert 6 none ({ frames := 0, cells := 0, slots := 0, locals := 0 }) [.ref w, .long a, .long b] h n (fun v h' n' => v = none ∧ n' = n ∧ ((k < 12 ∧ ws_at ids h' w (tm_ins a b k f g).1 (tm_ins a b k f g).2 (k + 1) ∧ rl_fr h h' w (w + 3)) ∨ (12 ≤ k ∧ h' = h))) := by
  obtain ⟨h1, h2, h3, hk⟩ := hw
  refine rl_Met.of (by decide +kernel) (Nat.le_of_ble_eq_true rfl) ?_
  intro X hC hB
  have fin : ∀ (t : Nat) (h' : rl_H) (F G : Nat → Int64), t ≤ k → k < 12 → h' w = some (.inr (6, [.ref (w + 1), .ref (w + 2), .int (nI k)])) ∧ h' (w + 1) = some (.inl (ids 1, 12, .inr (.inl F))) ∧ h' (w + 2) = some (.inl (ids 1, 12, .inr (.inl G))) → rl_fr h h' w (w + 3) → tm_ins a b k f g = (vp_updL F t a, vp_updL G t b) → rl_G X (rl_e D ids H0) 101 [some (.ref w), some (.long a), none, some (.long b), none, some (.int (nI t))] [] h' n 0 0 := by
    intro t h' F G ht hk2 hws hfr hs
    obtain ⟨g1, g2, g3⟩ := hws
    refine o_aload_n hC dX6_insert_101 (by rfl) ?_
    refine o_getf hC (fX6_9 hC rfl) dX6_insert_102 (by repeat (first | with_reducible assumption | (rw [rl_u_s]; done) | (rw [rl_u_s]; rfl) | rw [rl_u_n (by first | with_reducible assumption | omega)])) (by first | rfl | with_reducible assumption) ?_
    refine o_iload hC dX6_insert_105 (by rfl) ?_
    refine o_lload_n hC dX6_insert_107 (by rfl) ?_
    refine o_lastN (t0 := 1) hC rfl dX6_insert_108 (by repeat (first | with_reducible assumption | (rw [rl_u_s]; done) | (rw [rl_u_s]; rfl) | rw [rl_u_n (by first | with_reducible assumption | omega)])) (by omega) (by decide) ?_
    refine o_aload_n hC dX6_insert_109 (by rfl) ?_
    refine o_getf hC (fX6_15 hC rfl) dX6_insert_110 (by repeat (first | with_reducible assumption | (rw [rl_u_s]; done) | (rw [rl_u_s]; rfl) | rw [rl_u_n (by first | with_reducible assumption | omega)])) (by first | rfl | with_reducible assumption) ?_
    refine o_iload hC dX6_insert_113 (by rfl) ?_
    refine o_lload_n hC dX6_insert_115 (by rfl) ?_
    refine o_lastN (t0 := 1) hC rfl dX6_insert_116 (by repeat (first | with_reducible assumption | (rw [rl_u_s]; done) | (rw [rl_u_s]; rfl) | rw [rl_u_n (by first | with_reducible assumption | omega)])) (by omega) (by decide) ?_
    refine o_aload_n hC dX6_insert_117 (by rfl) ?_
    refine o_dup hC dX6_insert_118 rfl ?_
    refine o_getf hC (fX6_18 hC rfl) dX6_insert_119 (by repeat (first | with_reducible assumption | (rw [rl_u_s]; done) | (rw [rl_u_s]; rfl) | rw [rl_u_n (by first | with_reducible assumption | omega)])) (by first | rfl | with_reducible assumption) ?_
    refine o_iconst (v := nI 1) hC dX6_insert_122 (by decide +kernel) ?_
    refine o_iadd hC dX6_insert_123 ?_
    rw [nI_add k 1]
    refine o_putf hC (fX6_18 hC rfl) (fwX6 rfl rfl rfl (Or.inl rfl)) dX6_insert_124 (by repeat (first | with_reducible assumption | (rw [rl_u_s]; done) | (rw [rl_u_s]; rfl) | rw [rl_u_n (by first | with_reducible assumption | omega)])) (Nat.le_of_ble_eq_true rfl) ?_
    try simp only [List.set_cons_zero, List.set_cons_succ]
    refine o_vret hC hB dX6_insert_127 (Nat.le_of_ble_eq_true rfl) (Nat.le_of_ble_eq_true rfl) ?_
    refine ⟨rfl, rfl, Or.inl ⟨hk2, ⟨by repeat (first | with_reducible assumption | (rw [rl_u_s]; done) | (rw [rl_u_s]; rfl) | rw [rl_u_n (by first | with_reducible assumption | omega)]), ?_, ?_, by omega⟩, ?_⟩⟩
    · rw [hs]
      repeat (first | with_reducible assumption | (rw [rl_u_s]; done) | (rw [rl_u_s]; rfl) | rw [rl_u_n (by first | with_reducible assumption | omega)])
    · rw [hs]
      repeat (first | with_reducible assumption | (rw [rl_u_s]; done) | (rw [rl_u_s]; rfl) | rw [rl_u_n (by first | with_reducible assumption | omega)])
    · intro q hq
      repeat (first | exact hfr q hq | rw [rl_u_n (by omega)])
  have loop : ∀ (t : Nat) (h' : rl_H) (F G : Nat → Int64), t ≤ k → k < 12 → h' w = some (.inr (6, [.ref (w + 1), .ref (w + 2), .int (nI k)])) ∧ h' (w + 1) = some (.inl (ids 1, 12, .inr (.inl F))) ∧ h' (w + 2) = some (.inl (ids 1, 12, .inr (.inl G))) → rl_fr h h' w (w + 3) → tm_ins a b k f g = tm_ins a b t F G → rl_G X (rl_e D ids H0) 16 [some (.ref w), some (.long a), none, some (.long b), none, some (.int (nI t))] [] h' n 0 0 := by
    intro t
    induction t with
    | zero =>
      intro h' F G ht hk2 hws hfr hs
      refine o_iload hC dX6_insert_16 (by rfl) ?_
      refine o_if_le (tgt := 101) hC dX6_insert_18 (by decide) (fun c_18 => ?_) (fun c_18 => ?_)
      · exact fin 0 h' F G ht hk2 hws hfr hs
      · exact absurd (nI_le (Nat.le_refl 0) (by omega)) c_18
    | succ t ih =>
      intro h' F G ht hk2 hws hfr hs
      obtain ⟨g1, g2, g3⟩ := id hws
      refine o_iload hC dX6_insert_16 (by rfl) ?_
      refine o_if_le (tgt := 101) hC dX6_insert_18 (by decide) (fun c_18 => absurd c_18 (nI_nle (by omega) (by omega))) (fun c_18 => ?_)
      refine o_aload_n hC dX6_insert_21 (by rfl) ?_
      refine o_getf hC (fX6_9 hC rfl) dX6_insert_22 (by repeat (first | with_reducible assumption | (rw [rl_u_s]; done) | (rw [rl_u_s]; rfl) | rw [rl_u_n (by first | with_reducible assumption | omega)])) (by first | rfl | with_reducible assumption) ?_
      refine o_iload hC dX6_insert_25 (by rfl) ?_
      refine o_iconst (v := nI 1) hC dX6_insert_27 (by decide +kernel) ?_
      refine o_isub hC dX6_insert_28 ?_
      rw [pk_sub (show 1 ≤ t + 1 by omega), Nat.add_sub_cancel]
      refine o_laldN (t0 := 1) hC rfl dX6_insert_29 (by repeat (first | with_reducible assumption | (rw [rl_u_s]; done) | (rw [rl_u_s]; rfl) | rw [rl_u_n (by first | with_reducible assumption | omega)])) (by omega) (by decide) ?_
      refine o_lload_n hC dX6_insert_30 (by rfl) ?_
      refine o_lcmp hC dX6_insert_31 ?_
      refine o_if_gt (tgt := 63) hC dX6_insert_32 (by decide) (fun c_32 => ?_) (fun c_32 => ?_)
      · refine o_aload_n hC dX6_insert_63 (by rfl) ?_
        refine o_getf hC (fX6_9 hC rfl) dX6_insert_64 (by repeat (first | with_reducible assumption | (rw [rl_u_s]; done) | (rw [rl_u_s]; rfl) | rw [rl_u_n (by first | with_reducible assumption | omega)])) (by first | rfl | with_reducible assumption) ?_
        refine o_iload hC dX6_insert_67 (by rfl) ?_
        refine o_aload_n hC dX6_insert_69 (by rfl) ?_
        refine o_getf hC (fX6_9 hC rfl) dX6_insert_70 (by repeat (first | with_reducible assumption | (rw [rl_u_s]; done) | (rw [rl_u_s]; rfl) | rw [rl_u_n (by first | with_reducible assumption | omega)])) (by first | rfl | with_reducible assumption) ?_
        refine o_iload hC dX6_insert_73 (by rfl) ?_
        refine o_iconst (v := nI 1) hC dX6_insert_75 (by decide +kernel) ?_
        refine o_isub hC dX6_insert_76 ?_
        rw [pk_sub (show 1 ≤ t + 1 by omega), Nat.add_sub_cancel]
        refine o_laldN (t0 := 1) hC rfl dX6_insert_77 (by repeat (first | with_reducible assumption | (rw [rl_u_s]; done) | (rw [rl_u_s]; rfl) | rw [rl_u_n (by first | with_reducible assumption | omega)])) (by omega) (by decide) ?_
        refine o_lastN (t0 := 1) hC rfl dX6_insert_78 (by repeat (first | with_reducible assumption | (rw [rl_u_s]; done) | (rw [rl_u_s]; rfl) | rw [rl_u_n (by first | with_reducible assumption | omega)])) (by omega) (by decide) ?_
        refine o_aload_n hC dX6_insert_79 (by rfl) ?_
        refine o_getf hC (fX6_15 hC rfl) dX6_insert_80 (by repeat (first | with_reducible assumption | (rw [rl_u_s]; done) | (rw [rl_u_s]; rfl) | rw [rl_u_n (by first | with_reducible assumption | omega)])) (by first | rfl | with_reducible assumption) ?_
        refine o_iload hC dX6_insert_83 (by rfl) ?_
        refine o_aload_n hC dX6_insert_85 (by rfl) ?_
        refine o_getf hC (fX6_15 hC rfl) dX6_insert_86 (by repeat (first | with_reducible assumption | (rw [rl_u_s]; done) | (rw [rl_u_s]; rfl) | rw [rl_u_n (by first | with_reducible assumption | omega)])) (by first | rfl | with_reducible assumption) ?_
        refine o_iload hC dX6_insert_89 (by rfl) ?_
        refine o_iconst (v := nI 1) hC dX6_insert_91 (by decide +kernel) ?_
        refine o_isub hC dX6_insert_92 ?_
        rw [pk_sub (show 1 ≤ t + 1 by omega), Nat.add_sub_cancel]
        refine o_laldN (t0 := 1) hC rfl dX6_insert_93 (by repeat (first | with_reducible assumption | (rw [rl_u_s]; done) | (rw [rl_u_s]; rfl) | rw [rl_u_n (by first | with_reducible assumption | omega)])) (by omega) (by decide) ?_
        refine o_lastN (t0 := 1) hC rfl dX6_insert_94 (by repeat (first | with_reducible assumption | (rw [rl_u_s]; done) | (rw [rl_u_s]; rfl) | rw [rl_u_n (by first | with_reducible assumption | omega)])) (by omega) (by decide) ?_
        refine o_iinc hC dX6_insert_95 (by rfl) (rl_dec _) (Nat.le_of_ble_eq_true rfl) ?_
        refine o_goto (tgt := 16) hC dX6_insert_98 (by decide) ?_
        exact ih _ _ _ (by omega) hk2 ⟨by repeat (first | with_reducible assumption | (rw [rl_u_s]; done) | (rw [rl_u_s]; rfl) | rw [rl_u_n (by first | with_reducible assumption | omega)]), by repeat (first | with_reducible assumption | (rw [rl_u_s]; done) | (rw [rl_u_s]; rfl) | rw [rl_u_n (by first | with_reducible assumption | omega)]), by repeat (first | with_reducible assumption | (rw [rl_u_s]; done) | (rw [rl_u_s]; rfl) | rw [rl_u_n (by first | with_reducible assumption | omega)])⟩ (fun q hq => by rw [rl_u_n (by omega), rl_u_n (by omega)]; exact hfr q hq) (by rw [hs, tm_ins, if_pos]; first | exact Or.inl ((lg_cmp_gt _ _).mp c_32) | exact Or.inr ⟨(lg_cmp_eq _ _).mp c_46, Int64.not_le.mp (fun q => c_60 ((lg_cmp_le _ _).mpr q))⟩)
      · refine o_aload_n hC dX6_insert_35 (by rfl) ?_
        refine o_getf hC (fX6_9 hC rfl) dX6_insert_36 (by repeat (first | with_reducible assumption | (rw [rl_u_s]; done) | (rw [rl_u_s]; rfl) | rw [rl_u_n (by first | with_reducible assumption | omega)])) (by first | rfl | with_reducible assumption) ?_
        refine o_iload hC dX6_insert_39 (by rfl) ?_
        refine o_iconst (v := nI 1) hC dX6_insert_41 (by decide +kernel) ?_
        refine o_isub hC dX6_insert_42 ?_
        rw [pk_sub (show 1 ≤ t + 1 by omega), Nat.add_sub_cancel]
        refine o_laldN (t0 := 1) hC rfl dX6_insert_43 (by repeat (first | with_reducible assumption | (rw [rl_u_s]; done) | (rw [rl_u_s]; rfl) | rw [rl_u_n (by first | with_reducible assumption | omega)])) (by omega) (by decide) ?_
        refine o_lload_n hC dX6_insert_44 (by rfl) ?_
        refine o_lcmp hC dX6_insert_45 ?_
        refine o_if_ne (tgt := 101) hC dX6_insert_46 (by decide) (fun c_46 => ?_) (fun c_46 => ?_)
        · exact fin (t + 1) h' F G ht hk2 hws hfr (by rw [hs, tm_ins, if_neg]; exact fun q => by first | exact q.elim (fun q => c_32 ((lg_cmp_gt _ _).mpr q)) (fun q => c_46 ((lg_cmp_eq _ _).mpr q.1)) | exact q.elim (fun q => c_32 ((lg_cmp_gt _ _).mpr q)) (fun q => absurd ((lg_cmp_le _ _).mp c_60) (Int64.not_le.mpr q.2)))
        · refine o_aload_n hC dX6_insert_49 (by rfl) ?_
          refine o_getf hC (fX6_15 hC rfl) dX6_insert_50 (by repeat (first | with_reducible assumption | (rw [rl_u_s]; done) | (rw [rl_u_s]; rfl) | rw [rl_u_n (by first | with_reducible assumption | omega)])) (by first | rfl | with_reducible assumption) ?_
          refine o_iload hC dX6_insert_53 (by rfl) ?_
          refine o_iconst (v := nI 1) hC dX6_insert_55 (by decide +kernel) ?_
          refine o_isub hC dX6_insert_56 ?_
          rw [pk_sub (show 1 ≤ t + 1 by omega), Nat.add_sub_cancel]
          refine o_laldN (t0 := 1) hC rfl dX6_insert_57 (by repeat (first | with_reducible assumption | (rw [rl_u_s]; done) | (rw [rl_u_s]; rfl) | rw [rl_u_n (by first | with_reducible assumption | omega)])) (by omega) (by decide) ?_
          refine o_lload_n hC dX6_insert_58 (by rfl) ?_
          refine o_lcmp hC dX6_insert_59 ?_
          refine o_if_le (tgt := 101) hC dX6_insert_60 (by decide) (fun c_60 => ?_) (fun c_60 => ?_)
          · exact fin (t + 1) h' F G ht hk2 hws hfr (by rw [hs, tm_ins, if_neg]; exact fun q => by first | exact q.elim (fun q => c_32 ((lg_cmp_gt _ _).mpr q)) (fun q => c_46 ((lg_cmp_eq _ _).mpr q.1)) | exact q.elim (fun q => c_32 ((lg_cmp_gt _ _).mpr q)) (fun q => absurd ((lg_cmp_le _ _).mp c_60) (Int64.not_le.mpr q.2)))
          · refine o_aload_n hC dX6_insert_63 (by rfl) ?_
            refine o_getf hC (fX6_9 hC rfl) dX6_insert_64 (by repeat (first | with_reducible assumption | (rw [rl_u_s]; done) | (rw [rl_u_s]; rfl) | rw [rl_u_n (by first | with_reducible assumption | omega)])) (by first | rfl | with_reducible assumption) ?_
            refine o_iload hC dX6_insert_67 (by rfl) ?_
            refine o_aload_n hC dX6_insert_69 (by rfl) ?_
            refine o_getf hC (fX6_9 hC rfl) dX6_insert_70 (by repeat (first | with_reducible assumption | (rw [rl_u_s]; done) | (rw [rl_u_s]; rfl) | rw [rl_u_n (by first | with_reducible assumption | omega)])) (by first | rfl | with_reducible assumption) ?_
            refine o_iload hC dX6_insert_73 (by rfl) ?_
            refine o_iconst (v := nI 1) hC dX6_insert_75 (by decide +kernel) ?_
            refine o_isub hC dX6_insert_76 ?_
            rw [pk_sub (show 1 ≤ t + 1 by omega), Nat.add_sub_cancel]
            refine o_laldN (t0 := 1) hC rfl dX6_insert_77 (by repeat (first | with_reducible assumption | (rw [rl_u_s]; done) | (rw [rl_u_s]; rfl) | rw [rl_u_n (by first | with_reducible assumption | omega)])) (by omega) (by decide) ?_
            refine o_lastN (t0 := 1) hC rfl dX6_insert_78 (by repeat (first | with_reducible assumption | (rw [rl_u_s]; done) | (rw [rl_u_s]; rfl) | rw [rl_u_n (by first | with_reducible assumption | omega)])) (by omega) (by decide) ?_
            refine o_aload_n hC dX6_insert_79 (by rfl) ?_
            refine o_getf hC (fX6_15 hC rfl) dX6_insert_80 (by repeat (first | with_reducible assumption | (rw [rl_u_s]; done) | (rw [rl_u_s]; rfl) | rw [rl_u_n (by first | with_reducible assumption | omega)])) (by first | rfl | with_reducible assumption) ?_
            refine o_iload hC dX6_insert_83 (by rfl) ?_
            refine o_aload_n hC dX6_insert_85 (by rfl) ?_
            refine o_getf hC (fX6_15 hC rfl) dX6_insert_86 (by repeat (first | with_reducible assumption | (rw [rl_u_s]; done) | (rw [rl_u_s]; rfl) | rw [rl_u_n (by first | with_reducible assumption | omega)])) (by first | rfl | with_reducible assumption) ?_
            refine o_iload hC dX6_insert_89 (by rfl) ?_
            refine o_iconst (v := nI 1) hC dX6_insert_91 (by decide +kernel) ?_
            refine o_isub hC dX6_insert_92 ?_
            rw [pk_sub (show 1 ≤ t + 1 by omega), Nat.add_sub_cancel]
            refine o_laldN (t0 := 1) hC rfl dX6_insert_93 (by repeat (first | with_reducible assumption | (rw [rl_u_s]; done) | (rw [rl_u_s]; rfl) | rw [rl_u_n (by first | with_reducible assumption | omega)])) (by omega) (by decide) ?_
            refine o_lastN (t0 := 1) hC rfl dX6_insert_94 (by repeat (first | with_reducible assumption | (rw [rl_u_s]; done) | (rw [rl_u_s]; rfl) | rw [rl_u_n (by first | with_reducible assumption | omega)])) (by omega) (by decide) ?_
            refine o_iinc hC dX6_insert_95 (by rfl) (rl_dec _) (Nat.le_of_ble_eq_true rfl) ?_
            refine o_goto (tgt := 16) hC dX6_insert_98 (by decide) ?_
            exact ih _ _ _ (by omega) hk2 ⟨by repeat (first | with_reducible assumption | (rw [rl_u_s]; done) | (rw [rl_u_s]; rfl) | rw [rl_u_n (by first | with_reducible assumption | omega)]), by repeat (first | with_reducible assumption | (rw [rl_u_s]; done) | (rw [rl_u_s]; rfl) | rw [rl_u_n (by first | with_reducible assumption | omega)]), by repeat (first | with_reducible assumption | (rw [rl_u_s]; done) | (rw [rl_u_s]; rfl) | rw [rl_u_n (by first | with_reducible assumption | omega)])⟩ (fun q hq => by rw [rl_u_n (by omega), rl_u_n (by omega)]; exact hfr q hq) (by rw [hs, tm_ins, if_pos]; first | exact Or.inl ((lg_cmp_gt _ _).mp c_32) | exact Or.inr ⟨(lg_cmp_eq _ _).mp c_46, Int64.not_le.mp (fun q => c_60 ((lg_cmp_le _ _).mpr q))⟩)
  show rl_G X (rl_e D ids H0) 0 [some (.ref w), some (.long a), none, some (.long b), none, none] [] h n 0 0
  refine o_aload_n hC dX6_insert_0 (by rfl) ?_
  refine o_getf hC (fX6_18 hC rfl) dX6_insert_1 (by repeat (first | with_reducible assumption | (rw [rl_u_s]; done) | (rw [rl_u_s]; rfl) | rw [rl_u_n (by first | with_reducible assumption | omega)])) (by first | rfl | with_reducible assumption) ?_
  refine o_bipush (v := nI 12) hC dX6_insert_4 (by decide +kernel) ?_
  refine o_icmp_lt (tgt := 10) hC dX6_insert_6 (by decide) (fun c_6 => ?_) (fun c_6 => ?_)
  · refine o_aload_n hC dX6_insert_10 (by rfl) ?_
    refine o_getf hC (fX6_18 hC rfl) dX6_insert_11 (by repeat (first | with_reducible assumption | (rw [rl_u_s]; done) | (rw [rl_u_s]; rfl) | rw [rl_u_n (by first | with_reducible assumption | omega)])) (by first | rfl | with_reducible assumption) ?_
    refine o_istore hC dX6_insert_14 (Nat.le_of_ble_eq_true rfl) ?_
    exact loop k h f g (Nat.le_refl k) (by rcases Nat.lt_or_ge k 12 with q | q; exact q; exact absurd c_6 (nI_nlt q (by omega))) ⟨h1, h2, h3⟩ rl_fr.rf rfl
  · refine o_vret hC hB dX6_insert_9 (Nat.le_of_ble_eq_true rfl) (Nat.le_of_ble_eq_true rfl) ?_
    exact ⟨rfl, rfl, Or.inr ⟨by rcases Nat.lt_or_ge k 12 with q | q; exact absurd (nI_lt q (by omega)) c_6; exact q, rfl⟩⟩
