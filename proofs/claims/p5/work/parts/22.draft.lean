/-! RowLineage$Draft: at d, its needs at d + 1, its lacks at d + 2 -/
abbrev dr_S : Type := (Nat → Int64) × (Nat → Int64) × Nat
def dr_at (ids : Nat → ClassId) (h : rl_H) (d : Nat) (s : dr_S) : Prop :=
  h d = some (.inr (0, [.ref (d + 1), .ref (d + 2), .int (nI s.2.2)])) ∧ h (d + 1) = some (.inl (ids 1, 432, .inr (.inl s.1))) ∧ h (d + 2) = some (.inl (ids 1, 432, .inr (.inl s.2.1))) ∧ s.2.2 ≤ 432
/-- the TERMS j on, m of them, held against the new one a, b: absorbed, or what is kept -/
noncomputable def dr_go (a b : Int64) : Nat → Nat → Nat → (Nat → Int64) → (Nat → Int64) → ((Nat → Int64) × (Nat → Int64)) ⊕ dr_S
  | 0, _, p, F, G => .inr (F, G, p)
  | m + 1, j, p, F, G => if F j &&& (a ^^^ (-1)) = 0 ∧ G j &&& (b ^^^ (-1)) = 0 then .inl (F, G) else if ¬ a &&& (F j ^^^ (-1)) = 0 ∨ ¬ b &&& (G j ^^^ (-1)) = 0 then dr_go a b m (j + 1) (p + 1) (vp_updL F p (F j)) (vp_updL G p (G j)) else dr_go a b m (j + 1) p F G
noncomputable def dr_add (a b : Int64) (s : dr_S) : dr_S := if a &&& b = 0 then (match dr_go a b s.2.2 0 0 s.1 s.2.1 with
  | .inl q => (q.1, q.2, s.2.2)
  | .inr q => if q.2.2 < 432 then (vp_updL q.1 q.2.2 a, vp_updL q.2.1 q.2.2 b, q.2.2 + 1) else q) else s
theorem dr_go_le (a b : Int64) : ∀ (m j p : Nat) (F G : Nat → Int64) (q : dr_S), dr_go a b m j p F G = .inr q → q.2.2 ≤ p + m
  | 0, _, p, F, G, q, h => by
    simp only [dr_go] at h
    cases h
    exact Nat.le_refl _
  | m + 1, j, p, F, G, q, h => by
    rw [dr_go] at h
    split at h
    · cases h
    · split at h
      · have := dr_go_le a b m _ _ _ _ q h
        omega
      · have := dr_go_le a b m _ _ _ _ q h
        omega
theorem dr_add_le (a b : Int64) (s : dr_S) (hs : s.2.2 ≤ 432) : (dr_add a b s).2.2 ≤ 432 ∧ (dr_add a b s).2.2 ≤ s.2.2 + 1 := by
  unfold dr_add
  split
  · split
    · exact ⟨hs, Nat.le_succ _⟩
    · rename_i q hq
      have := dr_go_le a b _ _ _ _ _ q hq
      split
      · exact ⟨by show q.2.2 + 1 ≤ 432; omega, by show q.2.2 + 1 ≤ _; omega⟩
      · exact ⟨by omega, by omega⟩
  · exact ⟨hs, Nat.le_succ _⟩

set_option maxHeartbeats 4000000 in
set_option maxRecDepth 100000 in
theorem ct_X0_init (l : Launch) (D : va_G) (ids : Nat → ClassId) (H0 : Heap) (h : rl_H) (n : Nat) (d : Nat) (h1 : h d = some (.inr (0, [.null, .null, .int (nI 0)]))) (hn : n = d + 1) : rl_Met l (rl_e D ids H0) rl_BW rl_Ns yX0_init cX0_init 1 none ({ frames := 1, cells := 2, slots := 864, locals := 16 }) [.ref d] h n (fun v h' n' => v = none ∧ n' = d + 3 ∧ dr_at ids h' d (fun _ => 0, fun _ => 0, 0) ∧ rl_fr h h' d (d + 3)) := by
  subst hn
  refine rl_Met.of (by decide +kernel) (Nat.le_of_ble_eq_true rfl) ?_
  intro X hC hB
  show rl_G X (rl_e D ids H0) 0 [some (.ref d)] [] h (d + 1) 0 0
  refine o_aload_n hC dX0_init_0 (by rfl) ?_
  refine o_objInit hC (by exact hB.2.2.2.2.2) mX0_3 w_objI w_objC dX0_init_1 (by rw [hB.2.1]; first | exact Nat.le_of_ble_eq_true rfl | (dsimp only; omega)) (by rw [hB.2.1]; first | exact Nat.le_of_ble_eq_true rfl | (dsimp only; omega)) ?_
  refine o_aload_n hC dX0_init_4 (by rfl) ?_
  refine o_sipush (v := nI 432) hC dX0_init_5 (by decide +kernel) ?_
  refine o_newa (atype := .long) (ty := .long) (t0 := 1) (N' := 432) (x := .inr (.inl (fun _ => 0))) hC rfl (fun C q => by cases q) aw_long rfl rfl (nI_pos (by decide)) (nI_clamp (by decide)) (by decide) (by rw [hB.2.1]; first | exact Nat.le_of_ble_eq_true rfl | (dsimp only; omega)) (by rw [hB.2.1]; first | exact Nat.le_of_ble_eq_true rfl | (dsimp only; omega)) dX0_init_8 ?_
  refine o_putf hC (fX0_11 hC rfl) (fwX0 rfl rfl rfl (Or.inr ⟨rfl, hB.2.2.2.2.1, rfl⟩)) dX0_init_10 (by repeat (first | with_reducible assumption | (rw [rl_u_s]; done) | (rw [rl_u_s]; rfl) | rw [rl_u_n (by first | with_reducible assumption | omega)])) (Nat.le_of_ble_eq_true rfl) ?_
  try simp only [List.set_cons_zero, List.set_cons_succ]
  refine o_aload_n hC dX0_init_13 (by rfl) ?_
  refine o_sipush (v := nI 432) hC dX0_init_14 (by decide +kernel) ?_
  refine o_newa (atype := .long) (ty := .long) (t0 := 1) (N' := 432) (x := .inr (.inl (fun _ => 0))) hC rfl (fun C q => by cases q) aw_long rfl rfl (nI_pos (by decide)) (nI_clamp (by decide)) (by decide) (by rw [hB.2.1]; first | exact Nat.le_of_ble_eq_true rfl | (dsimp only; omega)) (by rw [hB.2.1]; first | exact Nat.le_of_ble_eq_true rfl | (dsimp only; omega)) dX0_init_17 ?_
  refine o_putf hC (fX0_15 hC rfl) (fwX0 rfl rfl rfl (Or.inr ⟨rfl, hB.2.2.2.2.1, rfl⟩)) dX0_init_19 (by repeat (first | with_reducible assumption | (rw [rl_u_s]; done) | (rw [rl_u_s]; rfl) | rw [rl_u_n (by first | with_reducible assumption | omega)])) (Nat.le_of_ble_eq_true rfl) ?_
  try simp only [List.set_cons_zero, List.set_cons_succ]
  refine o_vret hC hB dX0_init_22 (Nat.le_of_ble_eq_true rfl) (Nat.le_of_ble_eq_true rfl) ?_
  refine ⟨rfl, rfl, ⟨by repeat (first | with_reducible assumption | (rw [rl_u_s]; done) | (rw [rl_u_s]; rfl) | rw [rl_u_n (by first | with_reducible assumption | omega)]), by repeat (first | with_reducible assumption | (rw [rl_u_s]; done) | (rw [rl_u_s]; rfl) | rw [rl_u_n (by first | with_reducible assumption | omega)]), by repeat (first | with_reducible assumption | (rw [rl_u_s]; done) | (rw [rl_u_s]; rfl) | rw [rl_u_n (by first | with_reducible assumption | omega)]), by decide⟩, ?_⟩
  intro q hq
  repeat (first | rfl | rw [rl_u_n (by omega)])

set_option maxHeartbeats 4000000 in
set_option maxRecDepth 100000 in
theorem ct_X0_add (l : Launch) (D : va_G) (ids : Nat → ClassId) (H0 : Heap) (h : rl_H) (n : Nat) (d : Nat) (s : dr_S) (a b : Int64) (hd : dr_at ids h d s) : rl_Met l (rl_e D ids H0) rl_BW rl_Ns yX0_add cX0_add 7 none ({ frames := 0, cells := 0, slots := 0, locals := 0 }) [.ref d, .long a, .long b] h n (fun v h' n' => v = none ∧ n' = n ∧ dr_at ids h' d (dr_add a b s) ∧ rl_fr h h' d (d + 3)) := by
  obtain ⟨h1, h2, h3, hk⟩ := hd
  refine rl_Met.of (by decide +kernel) (Nat.le_of_ble_eq_true rfl) ?_
  intro X hC hB
  have fin : ∀ (p j : Nat) (h' : rl_H) (F G : Nat → Int64), p ≤ 432 → h' d = some (.inr (0, [.ref (d + 1), .ref (d + 2), .int (nI s.2.2)])) ∧ h' (d + 1) = some (.inl (ids 1, 432, .inr (.inl F))) ∧ h' (d + 2) = some (.inl (ids 1, 432, .inr (.inl G))) → rl_fr h h' d (d + 3) → a &&& b = 0 → dr_go a b s.2.2 0 0 s.1 s.2.1 = .inr (F, G, p) → rl_G X (rl_e D ids H0) 134 [some (.ref d), some (.long a), none, some (.long b), none, some (.int (nI p)), some (.int (nI j))] [] h' n 0 0 := by
    intro p j h' F G hp hws hfr hab hs
    obtain ⟨g1, g2, g3⟩ := hws
    refine o_aload_n hC dX0_add_134 (by rfl) ?_
    refine o_iload hC dX0_add_135 (by rfl) ?_
    refine o_putf hC (fX0_18 hC rfl) (fwX0 rfl rfl rfl (Or.inl rfl)) dX0_add_137 (by repeat (first | with_reducible assumption | (rw [rl_u_s]; done) | (rw [rl_u_s]; rfl) | rw [rl_u_n (by first | with_reducible assumption | omega)])) (Nat.le_of_ble_eq_true rfl) ?_
    try simp only [List.set_cons_zero, List.set_cons_succ]
    refine o_aload_n hC dX0_add_140 (by rfl) ?_
    refine o_getf hC (fX0_18 hC rfl) dX0_add_141 (by repeat (first | with_reducible assumption | (rw [rl_u_s]; done) | (rw [rl_u_s]; rfl) | rw [rl_u_n (by first | with_reducible assumption | omega)])) (by first | rfl | with_reducible assumption) ?_
    refine o_sipush (v := nI 432) hC dX0_add_144 (by decide +kernel) ?_
    refine o_icmp_ge (tgt := 180) hC dX0_add_147 (by decide) (fun c_147 => ?_) (fun c_147 => ?_)
    · refine o_vret hC hB dX0_add_180 (Nat.le_of_ble_eq_true rfl) (Nat.le_of_ble_eq_true rfl) ?_
      have hge : ¬ p < 432 := fun q => nI_ge q (by omega) c_147
      have e : dr_add a b s = (F, G, p) := by
        unfold dr_add
        rw [if_pos hab, hs]
        exact if_neg hge
      refine ⟨rfl, rfl, ?_, ?_⟩
      · rw [e]
        exact ⟨by repeat (first | with_reducible assumption | (rw [rl_u_s]; done) | (rw [rl_u_s]; rfl) | rw [rl_u_n (by first | with_reducible assumption | omega)]), by repeat (first | with_reducible assumption | (rw [rl_u_s]; done) | (rw [rl_u_s]; rfl) | rw [rl_u_n (by first | with_reducible assumption | omega)]), by repeat (first | with_reducible assumption | (rw [rl_u_s]; done) | (rw [rl_u_s]; rfl) | rw [rl_u_n (by first | with_reducible assumption | omega)]), hp⟩
      · intro q hq
        repeat (first | exact hfr q hq | rw [rl_u_n (by omega)])
    · refine o_aload_n hC dX0_add_150 (by rfl) ?_
      refine o_getf hC (fX0_11 hC rfl) dX0_add_151 (by repeat (first | with_reducible assumption | (rw [rl_u_s]; done) | (rw [rl_u_s]; rfl) | rw [rl_u_n (by first | with_reducible assumption | omega)])) (by first | rfl | with_reducible assumption) ?_
      refine o_aload_n hC dX0_add_154 (by rfl) ?_
      refine o_getf hC (fX0_18 hC rfl) dX0_add_155 (by repeat (first | with_reducible assumption | (rw [rl_u_s]; done) | (rw [rl_u_s]; rfl) | rw [rl_u_n (by first | with_reducible assumption | omega)])) (by first | rfl | with_reducible assumption) ?_
      refine o_lload_n hC dX0_add_158 (by rfl) ?_
      refine o_lastN (t0 := 1) hC rfl dX0_add_159 (by repeat (first | with_reducible assumption | (rw [rl_u_s]; done) | (rw [rl_u_s]; rfl) | rw [rl_u_n (by first | with_reducible assumption | omega)])) (by first | omega | (rcases Nat.lt_or_ge p 432 with q | q; exact q; exact absurd (nI_le q (by omega)) c_147)) (by decide) ?_
      refine o_aload_n hC dX0_add_160 (by rfl) ?_
      refine o_getf hC (fX0_15 hC rfl) dX0_add_161 (by repeat (first | with_reducible assumption | (rw [rl_u_s]; done) | (rw [rl_u_s]; rfl) | rw [rl_u_n (by first | with_reducible assumption | omega)])) (by first | rfl | with_reducible assumption) ?_
      refine o_aload_n hC dX0_add_164 (by rfl) ?_
      refine o_getf hC (fX0_18 hC rfl) dX0_add_165 (by repeat (first | with_reducible assumption | (rw [rl_u_s]; done) | (rw [rl_u_s]; rfl) | rw [rl_u_n (by first | with_reducible assumption | omega)])) (by first | rfl | with_reducible assumption) ?_
      refine o_lload_n hC dX0_add_168 (by rfl) ?_
      refine o_lastN (t0 := 1) hC rfl dX0_add_169 (by repeat (first | with_reducible assumption | (rw [rl_u_s]; done) | (rw [rl_u_s]; rfl) | rw [rl_u_n (by first | with_reducible assumption | omega)])) (by first | omega | (rcases Nat.lt_or_ge p 432 with q | q; exact q; exact absurd (nI_le q (by omega)) c_147)) (by decide) ?_
      refine o_aload_n hC dX0_add_170 (by rfl) ?_
      refine o_dup hC dX0_add_171 rfl ?_
      refine o_getf hC (fX0_18 hC rfl) dX0_add_172 (by repeat (first | with_reducible assumption | (rw [rl_u_s]; done) | (rw [rl_u_s]; rfl) | rw [rl_u_n (by first | with_reducible assumption | omega)])) (by first | rfl | with_reducible assumption) ?_
      refine o_iconst (v := nI 1) hC dX0_add_175 (by decide +kernel) ?_
      refine o_iadd hC dX0_add_176 ?_
      rw [nI_add p 1]
      refine o_putf hC (fX0_18 hC rfl) (fwX0 rfl rfl rfl (Or.inl rfl)) dX0_add_177 (by repeat (first | with_reducible assumption | (rw [rl_u_s]; done) | (rw [rl_u_s]; rfl) | rw [rl_u_n (by first | with_reducible assumption | omega)])) (Nat.le_of_ble_eq_true rfl) ?_
      try simp only [List.set_cons_zero, List.set_cons_succ]
      refine o_vret hC hB dX0_add_180 (Nat.le_of_ble_eq_true rfl) (Nat.le_of_ble_eq_true rfl) ?_
      have hlt : p < 432 := by
        rcases Nat.lt_or_ge p 432 with q | q
        · exact q
        · exact absurd (nI_le q (by omega)) c_147
      have e : dr_add a b s = (vp_updL F p a, vp_updL G p b, p + 1) := by
        unfold dr_add
        rw [if_pos hab, hs]
        exact if_pos hlt
      refine ⟨rfl, rfl, ?_, ?_⟩
      · rw [e]
        exact ⟨by repeat (first | with_reducible assumption | (rw [rl_u_s]; done) | (rw [rl_u_s]; rfl) | rw [rl_u_n (by first | with_reducible assumption | omega)]), by repeat (first | with_reducible assumption | (rw [rl_u_s]; done) | (rw [rl_u_s]; rfl) | rw [rl_u_n (by first | with_reducible assumption | omega)]), by repeat (first | with_reducible assumption | (rw [rl_u_s]; done) | (rw [rl_u_s]; rfl) | rw [rl_u_n (by first | with_reducible assumption | omega)]), by show p + 1 ≤ 432; omega⟩
      · intro q hq
        repeat (first | exact hfr q hq | rw [rl_u_n (by omega)])
  have loop : ∀ (m j p : Nat) (h' : rl_H) (F G : Nat → Int64), j + m = s.2.2 → p ≤ j → h' d = some (.inr (0, [.ref (d + 1), .ref (d + 2), .int (nI s.2.2)])) ∧ h' (d + 1) = some (.inl (ids 1, 432, .inr (.inl F))) ∧ h' (d + 2) = some (.inl (ids 1, 432, .inr (.inl G))) → rl_fr h h' d (d + 3) → a &&& b = 0 → dr_go a b s.2.2 0 0 s.1 s.2.1 = dr_go a b m j p F G → rl_G X (rl_e D ids H0) 15 [some (.ref d), some (.long a), none, some (.long b), none, some (.int (nI p)), some (.int (nI j))] [] h' n 0 0 := by
    intro m
    induction m with
    | zero =>
      intro j p h' F G hj hp hws hfr hab hs
      obtain ⟨g1, g2, g3⟩ := id hws
      refine o_iload hC dX0_add_15 (by rfl) ?_
      refine o_aload_n hC dX0_add_17 (by rfl) ?_
      refine o_getf hC (fX0_18 hC rfl) dX0_add_18 (by repeat (first | with_reducible assumption | (rw [rl_u_s]; done) | (rw [rl_u_s]; rfl) | rw [rl_u_n (by first | with_reducible assumption | omega)])) (by first | rfl | with_reducible assumption) ?_
      refine o_icmp_ge (tgt := 134) hC dX0_add_21 (by decide) (fun c_21 => ?_) (fun c_21 => ?_)
      · exact fin p j h' F G (by omega) hws hfr hab hs
      · exact absurd (nI_le (by omega) (by omega)) c_21
    | succ m ih =>
      intro j p h' F G hj hp hws hfr hab hs
      obtain ⟨g1, g2, g3⟩ := id hws
      refine o_iload hC dX0_add_15 (by rfl) ?_
      refine o_aload_n hC dX0_add_17 (by rfl) ?_
      refine o_getf hC (fX0_18 hC rfl) dX0_add_18 (by repeat (first | with_reducible assumption | (rw [rl_u_s]; done) | (rw [rl_u_s]; rfl) | rw [rl_u_n (by first | with_reducible assumption | omega)])) (by first | rfl | with_reducible assumption) ?_
      refine o_icmp_ge (tgt := 134) hC dX0_add_21 (by decide) (fun c_21 => ?_) (fun c_21 => ?_)
      · exact absurd c_21 (nI_ge (by omega) (by omega))
      · refine o_aload_n hC dX0_add_24 (by rfl) ?_
        refine o_getf hC (fX0_11 hC rfl) dX0_add_25 (by repeat (first | with_reducible assumption | (rw [rl_u_s]; done) | (rw [rl_u_s]; rfl) | rw [rl_u_n (by first | with_reducible assumption | omega)])) (by first | rfl | with_reducible assumption) ?_
        refine o_iload hC dX0_add_28 (by rfl) ?_
        refine o_laldN (t0 := 1) hC rfl dX0_add_30 (by repeat (first | with_reducible assumption | (rw [rl_u_s]; done) | (rw [rl_u_s]; rfl) | rw [rl_u_n (by first | with_reducible assumption | omega)])) (by omega) (by decide) ?_
        refine o_lload_n hC dX0_add_31 (by rfl) ?_
        refine o_ldc2 hC nX0_42 dX0_add_32 ?_
        refine o_lxor hC dX0_add_35 ?_
        refine o_land hC dX0_add_36 ?_
        refine o_lconst (v := 0) hC dX0_add_37 (by decide +kernel) ?_
        refine o_lcmp hC dX0_add_38 ?_
        refine o_if_ne (tgt := 61) hC dX0_add_39 (by decide) (fun c_39 => ?_) (fun c_39 => ?_)
        · refine o_lload_n hC dX0_add_61 (by rfl) ?_
          refine o_aload_n hC dX0_add_62 (by rfl) ?_
          refine o_getf hC (fX0_11 hC rfl) dX0_add_63 (by repeat (first | with_reducible assumption | (rw [rl_u_s]; done) | (rw [rl_u_s]; rfl) | rw [rl_u_n (by first | with_reducible assumption | omega)])) (by first | rfl | with_reducible assumption) ?_
          refine o_iload hC dX0_add_66 (by rfl) ?_
          refine o_laldN (t0 := 1) hC rfl dX0_add_68 (by repeat (first | with_reducible assumption | (rw [rl_u_s]; done) | (rw [rl_u_s]; rfl) | rw [rl_u_n (by first | with_reducible assumption | omega)])) (by omega) (by decide) ?_
          refine o_ldc2 hC nX0_42 dX0_add_69 ?_
          refine o_lxor hC dX0_add_72 ?_
          refine o_land hC dX0_add_73 ?_
          refine o_lconst (v := 0) hC dX0_add_74 (by decide +kernel) ?_
          refine o_lcmp hC dX0_add_75 ?_
          refine o_if_ne (tgt := 97) hC dX0_add_76 (by decide) (fun c_76 => ?_) (fun c_76 => ?_)
          · refine o_aload_n hC dX0_add_97 (by rfl) ?_
            refine o_getf hC (fX0_11 hC rfl) dX0_add_98 (by repeat (first | with_reducible assumption | (rw [rl_u_s]; done) | (rw [rl_u_s]; rfl) | rw [rl_u_n (by first | with_reducible assumption | omega)])) (by first | rfl | with_reducible assumption) ?_
            refine o_iload hC dX0_add_101 (by rfl) ?_
            refine o_aload_n hC dX0_add_103 (by rfl) ?_
            refine o_getf hC (fX0_11 hC rfl) dX0_add_104 (by repeat (first | with_reducible assumption | (rw [rl_u_s]; done) | (rw [rl_u_s]; rfl) | rw [rl_u_n (by first | with_reducible assumption | omega)])) (by first | rfl | with_reducible assumption) ?_
            refine o_iload hC dX0_add_107 (by rfl) ?_
            refine o_laldN (t0 := 1) hC rfl dX0_add_109 (by repeat (first | with_reducible assumption | (rw [rl_u_s]; done) | (rw [rl_u_s]; rfl) | rw [rl_u_n (by first | with_reducible assumption | omega)])) (by omega) (by decide) ?_
            refine o_lastN (t0 := 1) hC rfl dX0_add_110 (by repeat (first | with_reducible assumption | (rw [rl_u_s]; done) | (rw [rl_u_s]; rfl) | rw [rl_u_n (by first | with_reducible assumption | omega)])) (by omega) (by decide) ?_
            refine o_aload_n hC dX0_add_111 (by rfl) ?_
            refine o_getf hC (fX0_15 hC rfl) dX0_add_112 (by repeat (first | with_reducible assumption | (rw [rl_u_s]; done) | (rw [rl_u_s]; rfl) | rw [rl_u_n (by first | with_reducible assumption | omega)])) (by first | rfl | with_reducible assumption) ?_
            refine o_iload hC dX0_add_115 (by rfl) ?_
            refine o_aload_n hC dX0_add_117 (by rfl) ?_
            refine o_getf hC (fX0_15 hC rfl) dX0_add_118 (by repeat (first | with_reducible assumption | (rw [rl_u_s]; done) | (rw [rl_u_s]; rfl) | rw [rl_u_n (by first | with_reducible assumption | omega)])) (by first | rfl | with_reducible assumption) ?_
            refine o_iload hC dX0_add_121 (by rfl) ?_
            refine o_laldN (t0 := 1) hC rfl dX0_add_123 (by repeat (first | with_reducible assumption | (rw [rl_u_s]; done) | (rw [rl_u_s]; rfl) | rw [rl_u_n (by first | with_reducible assumption | omega)])) (by omega) (by decide) ?_
            refine o_lastN (t0 := 1) hC rfl dX0_add_124 (by repeat (first | with_reducible assumption | (rw [rl_u_s]; done) | (rw [rl_u_s]; rfl) | rw [rl_u_n (by first | with_reducible assumption | omega)])) (by omega) (by decide) ?_
            refine o_iinc hC dX0_add_125 (by rfl) (rl_inc _) (Nat.le_of_ble_eq_true rfl) ?_
            refine o_iinc hC dX0_add_128 (by rfl) (rl_inc _) (Nat.le_of_ble_eq_true rfl) ?_
            refine o_goto (tgt := 15) hC dX0_add_131 (by decide) ?_
            first
            | exact ih (j + 1) (p + 1) _ _ _ (by omega) (by omega) ⟨by repeat (first | with_reducible assumption | (rw [rl_u_s]; done) | (rw [rl_u_s]; rfl) | rw [rl_u_n (by first | with_reducible assumption | omega)]), by repeat (first | with_reducible assumption | (rw [rl_u_s]; done) | (rw [rl_u_s]; rfl) | rw [rl_u_n (by first | with_reducible assumption | omega)]), by repeat (first | with_reducible assumption | (rw [rl_u_s]; done) | (rw [rl_u_s]; rfl) | rw [rl_u_n (by first | with_reducible assumption | omega)])⟩ (fun q hq => by rw [rl_u_n (by omega), rl_u_n (by omega)]; exact hfr q hq) hab (by rw [hs, dr_go, if_neg (fun q => by first | exact c_39 ((lg_cmp_eq _ _).mpr q.1) | exact c_57 ((lg_cmp_eq _ _).mpr q.2)), if_pos (by first | exact Or.inl (fun q => c_76 ((lg_cmp_eq _ _).mpr q)) | exact Or.inr (fun q => c_94 ((lg_cmp_eq _ _).mpr q)))])
            | exact ih (j + 1) p _ _ _ (by omega) (by omega) ⟨g1, g2, g3⟩ hfr hab (by rw [hs, dr_go, if_neg (fun q => by first | exact c_39 ((lg_cmp_eq _ _).mpr q.1) | exact c_57 ((lg_cmp_eq _ _).mpr q.2)), if_neg (fun q => q.elim (fun q => q ((lg_cmp_eq _ _).mp c_76)) (fun q => q ((lg_cmp_eq _ _).mp c_94)))])
          · refine o_lload_n hC dX0_add_79 (by rfl) ?_
            refine o_aload_n hC dX0_add_80 (by rfl) ?_
            refine o_getf hC (fX0_15 hC rfl) dX0_add_81 (by repeat (first | with_reducible assumption | (rw [rl_u_s]; done) | (rw [rl_u_s]; rfl) | rw [rl_u_n (by first | with_reducible assumption | omega)])) (by first | rfl | with_reducible assumption) ?_
            refine o_iload hC dX0_add_84 (by rfl) ?_
            refine o_laldN (t0 := 1) hC rfl dX0_add_86 (by repeat (first | with_reducible assumption | (rw [rl_u_s]; done) | (rw [rl_u_s]; rfl) | rw [rl_u_n (by first | with_reducible assumption | omega)])) (by omega) (by decide) ?_
            refine o_ldc2 hC nX0_42 dX0_add_87 ?_
            refine o_lxor hC dX0_add_90 ?_
            refine o_land hC dX0_add_91 ?_
            refine o_lconst (v := 0) hC dX0_add_92 (by decide +kernel) ?_
            refine o_lcmp hC dX0_add_93 ?_
            refine o_if_eq (tgt := 128) hC dX0_add_94 (by decide) (fun c_94 => ?_) (fun c_94 => ?_)
            · refine o_iinc hC dX0_add_128 (by rfl) (rl_inc _) (Nat.le_of_ble_eq_true rfl) ?_
              refine o_goto (tgt := 15) hC dX0_add_131 (by decide) ?_
              first
              | exact ih (j + 1) (p + 1) _ _ _ (by omega) (by omega) ⟨by repeat (first | with_reducible assumption | (rw [rl_u_s]; done) | (rw [rl_u_s]; rfl) | rw [rl_u_n (by first | with_reducible assumption | omega)]), by repeat (first | with_reducible assumption | (rw [rl_u_s]; done) | (rw [rl_u_s]; rfl) | rw [rl_u_n (by first | with_reducible assumption | omega)]), by repeat (first | with_reducible assumption | (rw [rl_u_s]; done) | (rw [rl_u_s]; rfl) | rw [rl_u_n (by first | with_reducible assumption | omega)])⟩ (fun q hq => by rw [rl_u_n (by omega), rl_u_n (by omega)]; exact hfr q hq) hab (by rw [hs, dr_go, if_neg (fun q => by first | exact c_39 ((lg_cmp_eq _ _).mpr q.1) | exact c_57 ((lg_cmp_eq _ _).mpr q.2)), if_pos (by first | exact Or.inl (fun q => c_76 ((lg_cmp_eq _ _).mpr q)) | exact Or.inr (fun q => c_94 ((lg_cmp_eq _ _).mpr q)))])
              | exact ih (j + 1) p _ _ _ (by omega) (by omega) ⟨g1, g2, g3⟩ hfr hab (by rw [hs, dr_go, if_neg (fun q => by first | exact c_39 ((lg_cmp_eq _ _).mpr q.1) | exact c_57 ((lg_cmp_eq _ _).mpr q.2)), if_neg (fun q => q.elim (fun q => q ((lg_cmp_eq _ _).mp c_76)) (fun q => q ((lg_cmp_eq _ _).mp c_94)))])
            · refine o_aload_n hC dX0_add_97 (by rfl) ?_
              refine o_getf hC (fX0_11 hC rfl) dX0_add_98 (by repeat (first | with_reducible assumption | (rw [rl_u_s]; done) | (rw [rl_u_s]; rfl) | rw [rl_u_n (by first | with_reducible assumption | omega)])) (by first | rfl | with_reducible assumption) ?_
              refine o_iload hC dX0_add_101 (by rfl) ?_
              refine o_aload_n hC dX0_add_103 (by rfl) ?_
              refine o_getf hC (fX0_11 hC rfl) dX0_add_104 (by repeat (first | with_reducible assumption | (rw [rl_u_s]; done) | (rw [rl_u_s]; rfl) | rw [rl_u_n (by first | with_reducible assumption | omega)])) (by first | rfl | with_reducible assumption) ?_
              refine o_iload hC dX0_add_107 (by rfl) ?_
              refine o_laldN (t0 := 1) hC rfl dX0_add_109 (by repeat (first | with_reducible assumption | (rw [rl_u_s]; done) | (rw [rl_u_s]; rfl) | rw [rl_u_n (by first | with_reducible assumption | omega)])) (by omega) (by decide) ?_
              refine o_lastN (t0 := 1) hC rfl dX0_add_110 (by repeat (first | with_reducible assumption | (rw [rl_u_s]; done) | (rw [rl_u_s]; rfl) | rw [rl_u_n (by first | with_reducible assumption | omega)])) (by omega) (by decide) ?_
              refine o_aload_n hC dX0_add_111 (by rfl) ?_
              refine o_getf hC (fX0_15 hC rfl) dX0_add_112 (by repeat (first | with_reducible assumption | (rw [rl_u_s]; done) | (rw [rl_u_s]; rfl) | rw [rl_u_n (by first | with_reducible assumption | omega)])) (by first | rfl | with_reducible assumption) ?_
              refine o_iload hC dX0_add_115 (by rfl) ?_
              refine o_aload_n hC dX0_add_117 (by rfl) ?_
              refine o_getf hC (fX0_15 hC rfl) dX0_add_118 (by repeat (first | with_reducible assumption | (rw [rl_u_s]; done) | (rw [rl_u_s]; rfl) | rw [rl_u_n (by first | with_reducible assumption | omega)])) (by first | rfl | with_reducible assumption) ?_
              refine o_iload hC dX0_add_121 (by rfl) ?_
              refine o_laldN (t0 := 1) hC rfl dX0_add_123 (by repeat (first | with_reducible assumption | (rw [rl_u_s]; done) | (rw [rl_u_s]; rfl) | rw [rl_u_n (by first | with_reducible assumption | omega)])) (by omega) (by decide) ?_
              refine o_lastN (t0 := 1) hC rfl dX0_add_124 (by repeat (first | with_reducible assumption | (rw [rl_u_s]; done) | (rw [rl_u_s]; rfl) | rw [rl_u_n (by first | with_reducible assumption | omega)])) (by omega) (by decide) ?_
              refine o_iinc hC dX0_add_125 (by rfl) (rl_inc _) (Nat.le_of_ble_eq_true rfl) ?_
              refine o_iinc hC dX0_add_128 (by rfl) (rl_inc _) (Nat.le_of_ble_eq_true rfl) ?_
              refine o_goto (tgt := 15) hC dX0_add_131 (by decide) ?_
              first
              | exact ih (j + 1) (p + 1) _ _ _ (by omega) (by omega) ⟨by repeat (first | with_reducible assumption | (rw [rl_u_s]; done) | (rw [rl_u_s]; rfl) | rw [rl_u_n (by first | with_reducible assumption | omega)]), by repeat (first | with_reducible assumption | (rw [rl_u_s]; done) | (rw [rl_u_s]; rfl) | rw [rl_u_n (by first | with_reducible assumption | omega)]), by repeat (first | with_reducible assumption | (rw [rl_u_s]; done) | (rw [rl_u_s]; rfl) | rw [rl_u_n (by first | with_reducible assumption | omega)])⟩ (fun q hq => by rw [rl_u_n (by omega), rl_u_n (by omega)]; exact hfr q hq) hab (by rw [hs, dr_go, if_neg (fun q => by first | exact c_39 ((lg_cmp_eq _ _).mpr q.1) | exact c_57 ((lg_cmp_eq _ _).mpr q.2)), if_pos (by first | exact Or.inl (fun q => c_76 ((lg_cmp_eq _ _).mpr q)) | exact Or.inr (fun q => c_94 ((lg_cmp_eq _ _).mpr q)))])
              | exact ih (j + 1) p _ _ _ (by omega) (by omega) ⟨g1, g2, g3⟩ hfr hab (by rw [hs, dr_go, if_neg (fun q => by first | exact c_39 ((lg_cmp_eq _ _).mpr q.1) | exact c_57 ((lg_cmp_eq _ _).mpr q.2)), if_neg (fun q => q.elim (fun q => q ((lg_cmp_eq _ _).mp c_76)) (fun q => q ((lg_cmp_eq _ _).mp c_94)))])
        · refine o_aload_n hC dX0_add_42 (by rfl) ?_
          refine o_getf hC (fX0_15 hC rfl) dX0_add_43 (by repeat (first | with_reducible assumption | (rw [rl_u_s]; done) | (rw [rl_u_s]; rfl) | rw [rl_u_n (by first | with_reducible assumption | omega)])) (by first | rfl | with_reducible assumption) ?_
          refine o_iload hC dX0_add_46 (by rfl) ?_
          refine o_laldN (t0 := 1) hC rfl dX0_add_48 (by repeat (first | with_reducible assumption | (rw [rl_u_s]; done) | (rw [rl_u_s]; rfl) | rw [rl_u_n (by first | with_reducible assumption | omega)])) (by omega) (by decide) ?_
          refine o_lload_n hC dX0_add_49 (by rfl) ?_
          refine o_ldc2 hC nX0_42 dX0_add_50 ?_
          refine o_lxor hC dX0_add_53 ?_
          refine o_land hC dX0_add_54 ?_
          refine o_lconst (v := 0) hC dX0_add_55 (by decide +kernel) ?_
          refine o_lcmp hC dX0_add_56 ?_
          refine o_if_ne (tgt := 61) hC dX0_add_57 (by decide) (fun c_57 => ?_) (fun c_57 => ?_)
          · refine o_lload_n hC dX0_add_61 (by rfl) ?_
            refine o_aload_n hC dX0_add_62 (by rfl) ?_
            refine o_getf hC (fX0_11 hC rfl) dX0_add_63 (by repeat (first | with_reducible assumption | (rw [rl_u_s]; done) | (rw [rl_u_s]; rfl) | rw [rl_u_n (by first | with_reducible assumption | omega)])) (by first | rfl | with_reducible assumption) ?_
            refine o_iload hC dX0_add_66 (by rfl) ?_
            refine o_laldN (t0 := 1) hC rfl dX0_add_68 (by repeat (first | with_reducible assumption | (rw [rl_u_s]; done) | (rw [rl_u_s]; rfl) | rw [rl_u_n (by first | with_reducible assumption | omega)])) (by omega) (by decide) ?_
            refine o_ldc2 hC nX0_42 dX0_add_69 ?_
            refine o_lxor hC dX0_add_72 ?_
            refine o_land hC dX0_add_73 ?_
            refine o_lconst (v := 0) hC dX0_add_74 (by decide +kernel) ?_
            refine o_lcmp hC dX0_add_75 ?_
            refine o_if_ne (tgt := 97) hC dX0_add_76 (by decide) (fun c_76 => ?_) (fun c_76 => ?_)
            · refine o_aload_n hC dX0_add_97 (by rfl) ?_
              refine o_getf hC (fX0_11 hC rfl) dX0_add_98 (by repeat (first | with_reducible assumption | (rw [rl_u_s]; done) | (rw [rl_u_s]; rfl) | rw [rl_u_n (by first | with_reducible assumption | omega)])) (by first | rfl | with_reducible assumption) ?_
              refine o_iload hC dX0_add_101 (by rfl) ?_
              refine o_aload_n hC dX0_add_103 (by rfl) ?_
              refine o_getf hC (fX0_11 hC rfl) dX0_add_104 (by repeat (first | with_reducible assumption | (rw [rl_u_s]; done) | (rw [rl_u_s]; rfl) | rw [rl_u_n (by first | with_reducible assumption | omega)])) (by first | rfl | with_reducible assumption) ?_
              refine o_iload hC dX0_add_107 (by rfl) ?_
              refine o_laldN (t0 := 1) hC rfl dX0_add_109 (by repeat (first | with_reducible assumption | (rw [rl_u_s]; done) | (rw [rl_u_s]; rfl) | rw [rl_u_n (by first | with_reducible assumption | omega)])) (by omega) (by decide) ?_
              refine o_lastN (t0 := 1) hC rfl dX0_add_110 (by repeat (first | with_reducible assumption | (rw [rl_u_s]; done) | (rw [rl_u_s]; rfl) | rw [rl_u_n (by first | with_reducible assumption | omega)])) (by omega) (by decide) ?_
              refine o_aload_n hC dX0_add_111 (by rfl) ?_
              refine o_getf hC (fX0_15 hC rfl) dX0_add_112 (by repeat (first | with_reducible assumption | (rw [rl_u_s]; done) | (rw [rl_u_s]; rfl) | rw [rl_u_n (by first | with_reducible assumption | omega)])) (by first | rfl | with_reducible assumption) ?_
              refine o_iload hC dX0_add_115 (by rfl) ?_
              refine o_aload_n hC dX0_add_117 (by rfl) ?_
              refine o_getf hC (fX0_15 hC rfl) dX0_add_118 (by repeat (first | with_reducible assumption | (rw [rl_u_s]; done) | (rw [rl_u_s]; rfl) | rw [rl_u_n (by first | with_reducible assumption | omega)])) (by first | rfl | with_reducible assumption) ?_
              refine o_iload hC dX0_add_121 (by rfl) ?_
              refine o_laldN (t0 := 1) hC rfl dX0_add_123 (by repeat (first | with_reducible assumption | (rw [rl_u_s]; done) | (rw [rl_u_s]; rfl) | rw [rl_u_n (by first | with_reducible assumption | omega)])) (by omega) (by decide) ?_
              refine o_lastN (t0 := 1) hC rfl dX0_add_124 (by repeat (first | with_reducible assumption | (rw [rl_u_s]; done) | (rw [rl_u_s]; rfl) | rw [rl_u_n (by first | with_reducible assumption | omega)])) (by omega) (by decide) ?_
              refine o_iinc hC dX0_add_125 (by rfl) (rl_inc _) (Nat.le_of_ble_eq_true rfl) ?_
              refine o_iinc hC dX0_add_128 (by rfl) (rl_inc _) (Nat.le_of_ble_eq_true rfl) ?_
              refine o_goto (tgt := 15) hC dX0_add_131 (by decide) ?_
              first
              | exact ih (j + 1) (p + 1) _ _ _ (by omega) (by omega) ⟨by repeat (first | with_reducible assumption | (rw [rl_u_s]; done) | (rw [rl_u_s]; rfl) | rw [rl_u_n (by first | with_reducible assumption | omega)]), by repeat (first | with_reducible assumption | (rw [rl_u_s]; done) | (rw [rl_u_s]; rfl) | rw [rl_u_n (by first | with_reducible assumption | omega)]), by repeat (first | with_reducible assumption | (rw [rl_u_s]; done) | (rw [rl_u_s]; rfl) | rw [rl_u_n (by first | with_reducible assumption | omega)])⟩ (fun q hq => by rw [rl_u_n (by omega), rl_u_n (by omega)]; exact hfr q hq) hab (by rw [hs, dr_go, if_neg (fun q => by first | exact c_39 ((lg_cmp_eq _ _).mpr q.1) | exact c_57 ((lg_cmp_eq _ _).mpr q.2)), if_pos (by first | exact Or.inl (fun q => c_76 ((lg_cmp_eq _ _).mpr q)) | exact Or.inr (fun q => c_94 ((lg_cmp_eq _ _).mpr q)))])
              | exact ih (j + 1) p _ _ _ (by omega) (by omega) ⟨g1, g2, g3⟩ hfr hab (by rw [hs, dr_go, if_neg (fun q => by first | exact c_39 ((lg_cmp_eq _ _).mpr q.1) | exact c_57 ((lg_cmp_eq _ _).mpr q.2)), if_neg (fun q => q.elim (fun q => q ((lg_cmp_eq _ _).mp c_76)) (fun q => q ((lg_cmp_eq _ _).mp c_94)))])
            · refine o_lload_n hC dX0_add_79 (by rfl) ?_
              refine o_aload_n hC dX0_add_80 (by rfl) ?_
              refine o_getf hC (fX0_15 hC rfl) dX0_add_81 (by repeat (first | with_reducible assumption | (rw [rl_u_s]; done) | (rw [rl_u_s]; rfl) | rw [rl_u_n (by first | with_reducible assumption | omega)])) (by first | rfl | with_reducible assumption) ?_
              refine o_iload hC dX0_add_84 (by rfl) ?_
              refine o_laldN (t0 := 1) hC rfl dX0_add_86 (by repeat (first | with_reducible assumption | (rw [rl_u_s]; done) | (rw [rl_u_s]; rfl) | rw [rl_u_n (by first | with_reducible assumption | omega)])) (by omega) (by decide) ?_
              refine o_ldc2 hC nX0_42 dX0_add_87 ?_
              refine o_lxor hC dX0_add_90 ?_
              refine o_land hC dX0_add_91 ?_
              refine o_lconst (v := 0) hC dX0_add_92 (by decide +kernel) ?_
              refine o_lcmp hC dX0_add_93 ?_
              refine o_if_eq (tgt := 128) hC dX0_add_94 (by decide) (fun c_94 => ?_) (fun c_94 => ?_)
              · refine o_iinc hC dX0_add_128 (by rfl) (rl_inc _) (Nat.le_of_ble_eq_true rfl) ?_
                refine o_goto (tgt := 15) hC dX0_add_131 (by decide) ?_
                first
                | exact ih (j + 1) (p + 1) _ _ _ (by omega) (by omega) ⟨by repeat (first | with_reducible assumption | (rw [rl_u_s]; done) | (rw [rl_u_s]; rfl) | rw [rl_u_n (by first | with_reducible assumption | omega)]), by repeat (first | with_reducible assumption | (rw [rl_u_s]; done) | (rw [rl_u_s]; rfl) | rw [rl_u_n (by first | with_reducible assumption | omega)]), by repeat (first | with_reducible assumption | (rw [rl_u_s]; done) | (rw [rl_u_s]; rfl) | rw [rl_u_n (by first | with_reducible assumption | omega)])⟩ (fun q hq => by rw [rl_u_n (by omega), rl_u_n (by omega)]; exact hfr q hq) hab (by rw [hs, dr_go, if_neg (fun q => by first | exact c_39 ((lg_cmp_eq _ _).mpr q.1) | exact c_57 ((lg_cmp_eq _ _).mpr q.2)), if_pos (by first | exact Or.inl (fun q => c_76 ((lg_cmp_eq _ _).mpr q)) | exact Or.inr (fun q => c_94 ((lg_cmp_eq _ _).mpr q)))])
                | exact ih (j + 1) p _ _ _ (by omega) (by omega) ⟨g1, g2, g3⟩ hfr hab (by rw [hs, dr_go, if_neg (fun q => by first | exact c_39 ((lg_cmp_eq _ _).mpr q.1) | exact c_57 ((lg_cmp_eq _ _).mpr q.2)), if_neg (fun q => q.elim (fun q => q ((lg_cmp_eq _ _).mp c_76)) (fun q => q ((lg_cmp_eq _ _).mp c_94)))])
              · refine o_aload_n hC dX0_add_97 (by rfl) ?_
                refine o_getf hC (fX0_11 hC rfl) dX0_add_98 (by repeat (first | with_reducible assumption | (rw [rl_u_s]; done) | (rw [rl_u_s]; rfl) | rw [rl_u_n (by first | with_reducible assumption | omega)])) (by first | rfl | with_reducible assumption) ?_
                refine o_iload hC dX0_add_101 (by rfl) ?_
                refine o_aload_n hC dX0_add_103 (by rfl) ?_
                refine o_getf hC (fX0_11 hC rfl) dX0_add_104 (by repeat (first | with_reducible assumption | (rw [rl_u_s]; done) | (rw [rl_u_s]; rfl) | rw [rl_u_n (by first | with_reducible assumption | omega)])) (by first | rfl | with_reducible assumption) ?_
                refine o_iload hC dX0_add_107 (by rfl) ?_
                refine o_laldN (t0 := 1) hC rfl dX0_add_109 (by repeat (first | with_reducible assumption | (rw [rl_u_s]; done) | (rw [rl_u_s]; rfl) | rw [rl_u_n (by first | with_reducible assumption | omega)])) (by omega) (by decide) ?_
                refine o_lastN (t0 := 1) hC rfl dX0_add_110 (by repeat (first | with_reducible assumption | (rw [rl_u_s]; done) | (rw [rl_u_s]; rfl) | rw [rl_u_n (by first | with_reducible assumption | omega)])) (by omega) (by decide) ?_
                refine o_aload_n hC dX0_add_111 (by rfl) ?_
                refine o_getf hC (fX0_15 hC rfl) dX0_add_112 (by repeat (first | with_reducible assumption | (rw [rl_u_s]; done) | (rw [rl_u_s]; rfl) | rw [rl_u_n (by first | with_reducible assumption | omega)])) (by first | rfl | with_reducible assumption) ?_
                refine o_iload hC dX0_add_115 (by rfl) ?_
                refine o_aload_n hC dX0_add_117 (by rfl) ?_
                refine o_getf hC (fX0_15 hC rfl) dX0_add_118 (by repeat (first | with_reducible assumption | (rw [rl_u_s]; done) | (rw [rl_u_s]; rfl) | rw [rl_u_n (by first | with_reducible assumption | omega)])) (by first | rfl | with_reducible assumption) ?_
                refine o_iload hC dX0_add_121 (by rfl) ?_
                refine o_laldN (t0 := 1) hC rfl dX0_add_123 (by repeat (first | with_reducible assumption | (rw [rl_u_s]; done) | (rw [rl_u_s]; rfl) | rw [rl_u_n (by first | with_reducible assumption | omega)])) (by omega) (by decide) ?_
                refine o_lastN (t0 := 1) hC rfl dX0_add_124 (by repeat (first | with_reducible assumption | (rw [rl_u_s]; done) | (rw [rl_u_s]; rfl) | rw [rl_u_n (by first | with_reducible assumption | omega)])) (by omega) (by decide) ?_
                refine o_iinc hC dX0_add_125 (by rfl) (rl_inc _) (Nat.le_of_ble_eq_true rfl) ?_
                refine o_iinc hC dX0_add_128 (by rfl) (rl_inc _) (Nat.le_of_ble_eq_true rfl) ?_
                refine o_goto (tgt := 15) hC dX0_add_131 (by decide) ?_
                first
                | exact ih (j + 1) (p + 1) _ _ _ (by omega) (by omega) ⟨by repeat (first | with_reducible assumption | (rw [rl_u_s]; done) | (rw [rl_u_s]; rfl) | rw [rl_u_n (by first | with_reducible assumption | omega)]), by repeat (first | with_reducible assumption | (rw [rl_u_s]; done) | (rw [rl_u_s]; rfl) | rw [rl_u_n (by first | with_reducible assumption | omega)]), by repeat (first | with_reducible assumption | (rw [rl_u_s]; done) | (rw [rl_u_s]; rfl) | rw [rl_u_n (by first | with_reducible assumption | omega)])⟩ (fun q hq => by rw [rl_u_n (by omega), rl_u_n (by omega)]; exact hfr q hq) hab (by rw [hs, dr_go, if_neg (fun q => by first | exact c_39 ((lg_cmp_eq _ _).mpr q.1) | exact c_57 ((lg_cmp_eq _ _).mpr q.2)), if_pos (by first | exact Or.inl (fun q => c_76 ((lg_cmp_eq _ _).mpr q)) | exact Or.inr (fun q => c_94 ((lg_cmp_eq _ _).mpr q)))])
                | exact ih (j + 1) p _ _ _ (by omega) (by omega) ⟨g1, g2, g3⟩ hfr hab (by rw [hs, dr_go, if_neg (fun q => by first | exact c_39 ((lg_cmp_eq _ _).mpr q.1) | exact c_57 ((lg_cmp_eq _ _).mpr q.2)), if_neg (fun q => q.elim (fun q => q ((lg_cmp_eq _ _).mp c_76)) (fun q => q ((lg_cmp_eq _ _).mp c_94)))])
          · refine o_vret hC hB dX0_add_60 (Nat.le_of_ble_eq_true rfl) (Nat.le_of_ble_eq_true rfl) ?_
            have e : dr_add a b s = (F, G, s.2.2) := by
              unfold dr_add
              rw [if_pos hab, hs, dr_go, if_pos ⟨(lg_cmp_eq _ _).mp c_39, (lg_cmp_eq _ _).mp c_57⟩]
            refine ⟨rfl, rfl, ?_, hfr⟩
            rw [e]
            exact ⟨g1, g2, g3, hk⟩
  show rl_G X (rl_e D ids H0) 0 [some (.ref d), some (.long a), none, some (.long b), none, none, none] [] h n 0 0
  refine o_lload_n hC dX0_add_0 (by rfl) ?_
  refine o_lload_n hC dX0_add_1 (by rfl) ?_
  refine o_land hC dX0_add_2 ?_
  refine o_lconst (v := 0) hC dX0_add_3 (by decide +kernel) ?_
  refine o_lcmp hC dX0_add_4 ?_
  refine o_if_eq (tgt := 9) hC dX0_add_5 (by decide) (fun c_5 => ?_) (fun c_5 => ?_)
  · refine o_iconst (v := nI 0) hC dX0_add_9 (by decide +kernel) ?_
    refine o_istore hC dX0_add_10 (Nat.le_of_ble_eq_true rfl) ?_
    refine o_iconst (v := nI 0) hC dX0_add_12 (by decide +kernel) ?_
    refine o_istore hC dX0_add_13 (Nat.le_of_ble_eq_true rfl) ?_
    exact loop s.2.2 0 0 h s.1 s.2.1 (by omega) (Nat.le_refl 0) ⟨h1, h2, h3⟩ rl_fr.rf ((lg_cmp_eq _ _).mp c_5) rfl
  · refine o_vret hC hB dX0_add_8 (Nat.le_of_ble_eq_true rfl) (Nat.le_of_ble_eq_true rfl) ?_
    exact ⟨rfl, rfl, by unfold dr_add; rw [if_neg (fun q => c_5 ((lg_cmp_eq _ _).mpr q))]; exact ⟨h1, h2, h3, hk⟩, rl_fr.rf⟩
