/-! THE MODEL: what changes sources, rows, nodes, present -/
def sh_source (z : sh_S) (q : Int32) : Int32 × sh_S := if q < nI 1 ∨ ¬ q ≤ nI 4 then (-2, z) else if 4 ≤ z.1 then (-4, z) else (nI z.1, (z.1 + 1, upd z.2.1 z.1 q, z.2.2))
def sh_row (z : sh_S) (q : Int32) : Int32 × sh_S := if q < 0 ∨ nI z.1 ≤ q then (-1, z) else if 36 ≤ z.2.2.1 then (-4, z) else (nI z.2.2.1, (z.1, z.2.1, z.2.2.1 + 1, z.2.2.2.1, z.2.2.2.2.1, z.2.2.2.2.2 ||| (1 : Int64) <<< ((nI z.2.2.1).toInt64 &&& 63)))
def sh_columns (z : sh_S) (q : Int32) : Int32 × sh_S := if sh_nn z q then (-1, z) else (sh_w z q, z)
def sh_drop (z : sh_S) (q on : Int32) : Int32 × sh_S := if q < 0 ∨ nI z.2.2.1 ≤ q then (-1, z) else (if dp_pr z.2.2.2.2.2 q on = z.2.2.2.2.2 then nI 0 else nI 1, (z.1, z.2.1, z.2.2.1, z.2.2.2.1, z.2.2.2.2.1, dp_pr z.2.2.2.2.2 q on))
def sh_clear (z : sh_S) : sh_S := (0, z.2.1, 0, 0, z.2.2.2.2.1, 0)
theorem mf_inj32b {c c' : ClassId} {N N' : Nat} {f g : Nat → Int32} (h : (some (.inl (c, N, .inl f)) : Option va_E) = some (.inl (c', N', .inl g))) : f = g := by
  injection h with h
  injection h with h
  injection h with _ h
  injection h with _ h
  injection h
theorem nI_eq_of {a b : Nat} (h : ¬ nI a = nI b) : a ≠ b := fun e => h (by rw [e])

set_option maxHeartbeats 4000000 in
set_option maxRecDepth 100000 in
theorem cm_X8_source (l : Launch) (D : va_G) (ids : Nat → ClassId) (H0 : Heap) (h : rl_H) (n : Nat) (m : Nat) (T : md_T) (fu : Int32) (k : Nat) (S : md_A) (z : sh_S) (q : Int32) (hu : md_un ids h m T fu k S z) : rl_Met l (rl_e D ids H0) rl_BW rl_Ns yX8_source cX8_source 2 (some .int) ({ frames := 0, cells := 0, slots := 0, locals := 0 }) [.ref m, .int q] h n (fun v h' n' => ∃ r : Int32, v = some (.int r) ∧ n' = n ∧ mdx ids h' m T (sh_source z q).2 (fun S' => S'.2 = S.2) (∀ q : Nat, m + 12 ≤ q → q < m + 23 → h' q = h q) ∧ r = (sh_source z q).1 ∧ rl_fr h h' m (m + 23)) := by
  obtain ⟨hq, hs, ⟨hsc, hsc4⟩, hwf, ⟨hrr, hr36⟩, ⟨hnc, hn16⟩, hnw, hpr, hnv, hwv, wrc, hrc6, hrc⟩ := id hu
  have hq0 := hq.ob (nI 0, T.2) fu k hq.2.1
  have g0 := hq.1
  obtain ⟨-, gk, ⟨⟨cl, g12⟩, ⟨tu, g13, b13⟩, ⟨im, g14⟩, ⟨te, g15, b15⟩, ⟨ne, g16⟩, ⟨la, g17⟩, ⟨hn, g18⟩, ⟨hl, g19⟩, ⟨tp, g20⟩, ⟨gr, g21, b21⟩, ⟨it, g22⟩⟩, gf⟩ := id hq
  obtain ⟨a1, a2, a3, a4, a5, a6, a7, a8, a9, a10, a11⟩ := id hs
  refine rl_Met.of (by decide +kernel) (Nat.le_of_ble_eq_true rfl) ?_
  intro X hC hB
  show rl_G X (rl_e D ids H0) 0 [some (.ref m), some (.int q)] [] h n 0 0
  refine o_aload_n hC dX8_source_0 (by rfl) ?_
  refine o_iconst (v := nI 0) hC dX8_source_1 (by decide +kernel) ?_
  refine o_putf hC (fX8_78 hC rfl) (fwX8 rfl rfl rfl (Or.inl rfl)) dX8_source_2 (by repeat (first | with_reducible assumption | (rw [rl_u_s]; done) | (rw [rl_u_s]; rfl) | rw [rl_u_n (by first | with_reducible assumption | omega)])) (Nat.le_of_ble_eq_true rfl) ?_
  try simp only [List.set_cons_zero, List.set_cons_succ]
  refine o_iload_n hC dX8_source_5 (by rfl) ?_
  refine o_iconst (v := nI 1) hC dX8_source_6 (by decide +kernel) ?_
  refine o_icmp_lt (tgt := 15) hC dX8_source_7 (by decide) (fun c_7 => ?_) (fun c_7 => ?_)
  · refine o_bipush (v := (-2 : Int32)) hC dX8_source_15 (by decide +kernel) ?_
    refine o_iret hC hB dX8_source_17 (Nat.le_of_ble_eq_true rfl) (Nat.le_of_ble_eq_true rfl) ?_
    first
    | (have e : sh_source z q = (-2, z) := if_pos (Or.inl c_7); exact ⟨_, rfl, rfl, (by rw [e]; exact ⟨_, _, _, S, hu.dp hq0 rfl rfl rfl rfl ⟨wrc, hrc6, hrc⟩, rfl, rfl, fun q a b => rl_u_n (by omega)⟩), (by rw [e]), hq0.fr⟩)
    | (have e : sh_source z q = (-2, z) := if_pos (Or.inr c_12); exact ⟨_, rfl, rfl, (by rw [e]; exact ⟨_, _, _, S, hu.dp hq0 rfl rfl rfl rfl ⟨wrc, hrc6, hrc⟩, rfl, rfl, fun q a b => rl_u_n (by omega)⟩), (by rw [e]), hq0.fr⟩)
  · refine o_iload_n hC dX8_source_10 (by rfl) ?_
    refine o_iconst (v := nI 4) hC dX8_source_11 (by decide +kernel) ?_
    refine o_icmp_le (tgt := 18) hC dX8_source_12 (by decide) (fun c_12 => ?_) (fun c_12 => ?_)
    · refine o_aload_n hC dX8_source_18 (by rfl) ?_
      refine o_getf (v := .int (nI z.1)) hC (fX8_109 hC rfl) dX8_source_19 (by repeat (first | with_reducible assumption | (rw [rl_u_s]; done) | (rw [rl_u_s]; rfl) | rw [rl_u_n (by first | with_reducible assumption | omega)])) (by rw [← hsc]; rfl) ?_
      refine o_iconst (v := nI 4) hC dX8_source_22 (by decide +kernel) ?_
      refine o_icmp_ne (tgt := 29) hC dX8_source_23 (by decide) (fun c_23 => ?_) (fun c_23 => ?_)
      · have s4b : z.1 ≠ 4 := nI_eq_of c_23
        refine o_aload_n hC dX8_source_29 (by rfl) ?_
        refine o_getf hC (fX8_7 hC rfl) dX8_source_30 (by repeat (first | with_reducible assumption | (rw [rl_u_s]; done) | (rw [rl_u_s]; rfl) | rw [rl_u_n (by first | with_reducible assumption | omega)])) (by first | rfl | with_reducible assumption) ?_
        refine o_aload_n hC dX8_source_33 (by rfl) ?_
        refine o_getf (v := .int (nI z.1)) hC (fX8_109 hC rfl) dX8_source_34 (by repeat (first | with_reducible assumption | (rw [rl_u_s]; done) | (rw [rl_u_s]; rfl) | rw [rl_u_n (by first | with_reducible assumption | omega)])) (by rw [← hsc]; rfl) ?_
        refine o_iload_n hC dX8_source_37 (by rfl) ?_
        refine o_iastN (t0 := 0) hC rfl dX8_source_38 (by repeat (first | with_reducible assumption | (rw [rl_u_s]; done) | (rw [rl_u_s]; rfl) | rw [rl_u_n (by first | with_reducible assumption | omega)])) (by omega) (by decide) ?_
        refine o_aload_n hC dX8_source_39 (by rfl) ?_
        refine o_dup hC dX8_source_40 rfl ?_
        refine o_getf (v := .int (nI z.1)) hC (fX8_109 hC rfl) dX8_source_41 (by repeat (first | with_reducible assumption | (rw [rl_u_s]; done) | (rw [rl_u_s]; rfl) | rw [rl_u_n (by first | with_reducible assumption | omega)])) (by rw [← hsc]; rfl) ?_
        refine o_iconst (v := nI 1) hC dX8_source_44 (by decide +kernel) ?_
        refine o_iadd hC dX8_source_45 ?_
        try rw [nI_add]
        refine o_putf hC (fX8_109 hC rfl) (fwX8 rfl rfl rfl (Or.inl rfl)) dX8_source_46 (by repeat (first | with_reducible assumption | (rw [rl_u_s]; done) | (rw [rl_u_s]; rfl) | rw [rl_u_n (by first | with_reducible assumption | omega)])) (Nat.le_of_ble_eq_true rfl) ?_
        try simp only [List.set_cons_zero, List.set_cons_succ]
        refine o_aload_n hC dX8_source_49 (by rfl) ?_
        refine o_getf hC (fX8_109 hC rfl) dX8_source_50 (by repeat (first | with_reducible assumption | (rw [rl_u_s]; done) | (rw [rl_u_s]; rfl) | rw [rl_u_n (by first | with_reducible assumption | omega)])) (by first | rfl | with_reducible assumption) ?_
        refine o_iconst (v := nI 1) hC dX8_source_53 (by decide +kernel) ?_
        refine o_isub hC dX8_source_54 ?_
        rw [rl_pred z.1]
        refine o_iret hC hB dX8_source_55 (Nat.le_of_ble_eq_true rfl) (Nat.le_of_ble_eq_true rfl) ?_
        have wv0 : ∀ i : Nat, i < z.1 + 1 → ∃ w : Nat, 1 ≤ w ∧ w ≤ 4 ∧ upd S.1 z.1 q i = nI w := fun i hi => by
          by_cases ei : i = z.1
          · subst ei
            rw [upd_at]
            obtain ⟨w, hw, rfl⟩ := nI_of2 (M := nI 4) (nI_toInt (by decide)) (fun e => c_7 (Int32.lt_trans e (by decide +kernel))) c_12
            exact ⟨w, Nat.pos_of_ne_zero (fun e => c_7 (by rw [e]; decide +kernel)), hw, rfl⟩
          · rw [upd_lt (show i < z.1 by omega)]
            exact hwv i (by omega)
        have s4 : z.1 ≠ 4 := nI_eq_of c_23
        have e : sh_source z q = (nI z.1, (z.1 + 1, upd z.2.1 z.1 q, z.2.2)) := (if_neg (fun e => e.elim c_7 (fun e => e c_12))).trans (if_neg (by omega))
        refine ⟨_, rfl, rfl, (by rw [e]; refine ⟨(nI 0, nI (z.1 + 1), T.2.2), fu, k, (upd S.1 z.1 q, S.2), ⟨⟨by repeat (first | with_reducible assumption | (rw [rl_u_s]; done) | (rw [rl_u_s]; rfl) | rw [rl_u_n (by first | with_reducible assumption | omega)]), gk, ⟨⟨cl, by repeat (first | with_reducible assumption | (rw [rl_u_s]; done) | (rw [rl_u_s]; rfl) | rw [rl_u_n (by first | with_reducible assumption | omega)])⟩, ⟨tu, by repeat (first | with_reducible assumption | (rw [rl_u_s]; done) | (rw [rl_u_s]; rfl) | rw [rl_u_n (by first | with_reducible assumption | omega)]), b13⟩, ⟨im, by repeat (first | with_reducible assumption | (rw [rl_u_s]; done) | (rw [rl_u_s]; rfl) | rw [rl_u_n (by first | with_reducible assumption | omega)])⟩, ⟨te, by repeat (first | with_reducible assumption | (rw [rl_u_s]; done) | (rw [rl_u_s]; rfl) | rw [rl_u_n (by first | with_reducible assumption | omega)]), b15⟩, ⟨ne, by repeat (first | with_reducible assumption | (rw [rl_u_s]; done) | (rw [rl_u_s]; rfl) | rw [rl_u_n (by first | with_reducible assumption | omega)])⟩, ⟨la, by repeat (first | with_reducible assumption | (rw [rl_u_s]; done) | (rw [rl_u_s]; rfl) | rw [rl_u_n (by first | with_reducible assumption | omega)])⟩, ⟨hn, by repeat (first | with_reducible assumption | (rw [rl_u_s]; done) | (rw [rl_u_s]; rfl) | rw [rl_u_n (by first | with_reducible assumption | omega)])⟩, ⟨hl, by repeat (first | with_reducible assumption | (rw [rl_u_s]; done) | (rw [rl_u_s]; rfl) | rw [rl_u_n (by first | with_reducible assumption | omega)])⟩, ⟨tp, by repeat (first | with_reducible assumption | (rw [rl_u_s]; done) | (rw [rl_u_s]; rfl) | rw [rl_u_n (by first | with_reducible assumption | omega)])⟩, ⟨gr, by repeat (first | with_reducible assumption | (rw [rl_u_s]; done) | (rw [rl_u_s]; rfl) | rw [rl_u_n (by first | with_reducible assumption | omega)]), b21⟩, ⟨it, by repeat (first | with_reducible assumption | (rw [rl_u_s]; done) | (rw [rl_u_s]; rfl) | rw [rl_u_n (by first | with_reducible assumption | omega)])⟩⟩, fun _ _ _ => rfl⟩, ⟨by repeat (first | with_reducible assumption | (rw [rl_u_s]; done) | (rw [rl_u_s]; rfl) | rw [rl_u_n (by first | with_reducible assumption | omega)]), by repeat (first | with_reducible assumption | (rw [rl_u_s]; done) | (rw [rl_u_s]; rfl) | rw [rl_u_n (by first | with_reducible assumption | omega)]), by repeat (first | with_reducible assumption | (rw [rl_u_s]; done) | (rw [rl_u_s]; rfl) | rw [rl_u_n (by first | with_reducible assumption | omega)]), by repeat (first | with_reducible assumption | (rw [rl_u_s]; done) | (rw [rl_u_s]; rfl) | rw [rl_u_n (by first | with_reducible assumption | omega)]), by repeat (first | with_reducible assumption | (rw [rl_u_s]; done) | (rw [rl_u_s]; rfl) | rw [rl_u_n (by first | with_reducible assumption | omega)]), by repeat (first | with_reducible assumption | (rw [rl_u_s]; done) | (rw [rl_u_s]; rfl) | rw [rl_u_n (by first | with_reducible assumption | omega)]), by repeat (first | with_reducible assumption | (rw [rl_u_s]; done) | (rw [rl_u_s]; rfl) | rw [rl_u_n (by first | with_reducible assumption | omega)]), by repeat (first | with_reducible assumption | (rw [rl_u_s]; done) | (rw [rl_u_s]; rfl) | rw [rl_u_n (by first | with_reducible assumption | omega)]), by repeat (first | with_reducible assumption | (rw [rl_u_s]; done) | (rw [rl_u_s]; rfl) | rw [rl_u_n (by first | with_reducible assumption | omega)]), by repeat (first | with_reducible assumption | (rw [rl_u_s]; done) | (rw [rl_u_s]; rfl) | rw [rl_u_n (by first | with_reducible assumption | omega)]), by repeat (first | with_reducible assumption | (rw [rl_u_s]; done) | (rw [rl_u_s]; rfl) | rw [rl_u_n (by first | with_reducible assumption | omega)])⟩, ⟨rfl, (by show z.1 + 1 ≤ 4; omega)⟩, (by show upd S.1 z.1 q = upd z.2.1 z.1 q; rw [hwf]), ⟨hrr, hr36⟩, ⟨hnc, hn16⟩, hnw, hpr, hnv, ?_, ⟨wrc, hrc6, hrc⟩⟩, rfl, rfl, fun q a b => by repeat (first | rfl | rw [rl_u_n (by omega)])⟩; exact wv0), (by rw [e]), fun q hq => by repeat (first | rfl | rw [rl_u_n (by omega)])⟩
      · refine o_bipush (v := (-4 : Int32)) hC dX8_source_26 (by decide +kernel) ?_
        refine o_iret hC hB dX8_source_28 (Nat.le_of_ble_eq_true rfl) (Nat.le_of_ble_eq_true rfl) ?_
        (have e : sh_source z q = (-4, z) := (if_neg (fun e => e.elim c_7 (fun e => e c_12))).trans (if_pos (Nat.le_of_eq (nI_inj2 (by omega) (by decide) c_23).symm)); exact ⟨_, rfl, rfl, (by rw [e]; exact ⟨_, _, _, S, hu.dp hq0 rfl rfl rfl rfl ⟨wrc, hrc6, hrc⟩, rfl, rfl, fun q a b => rl_u_n (by omega)⟩), (by rw [e]), hq0.fr⟩)
    · refine o_bipush (v := (-2 : Int32)) hC dX8_source_15 (by decide +kernel) ?_
      refine o_iret hC hB dX8_source_17 (Nat.le_of_ble_eq_true rfl) (Nat.le_of_ble_eq_true rfl) ?_
      first
      | (have e : sh_source z q = (-2, z) := if_pos (Or.inl c_7); exact ⟨_, rfl, rfl, (by rw [e]; exact ⟨_, _, _, S, hu.dp hq0 rfl rfl rfl rfl ⟨wrc, hrc6, hrc⟩, rfl, rfl, fun q a b => rl_u_n (by omega)⟩), (by rw [e]), hq0.fr⟩)
      | (have e : sh_source z q = (-2, z) := if_pos (Or.inr c_12); exact ⟨_, rfl, rfl, (by rw [e]; exact ⟨_, _, _, S, hu.dp hq0 rfl rfl rfl rfl ⟨wrc, hrc6, hrc⟩, rfl, rfl, fun q a b => rl_u_n (by omega)⟩), (by rw [e]), hq0.fr⟩)

set_option maxHeartbeats 4000000 in
set_option maxRecDepth 100000 in
theorem cm_X8_row (l : Launch) (D : va_G) (ids : Nat → ClassId) (H0 : Heap) (h : rl_H) (n : Nat) (m : Nat) (T : md_T) (fu : Int32) (k : Nat) (S : md_A) (z : sh_S) (q a b c d : Int32) (hu : md_un ids h m T fu k S z) : rl_Met l (rl_e D ids H0) rl_BW rl_Ns yX8_row cX8_row 6 (some .int) ({ frames := 0, cells := 0, slots := 0, locals := 0 }) [.ref m, .int q, .int a, .int b, .int c, .int d] h n (fun v h' n' => ∃ r : Int32, v = some (.int r) ∧ n' = n ∧ mdx ids h' m T (sh_row z q).2 (fun S' => (S' = S ∧ (sh_row z q).2 = z ∧ h' (m + 13) = h (m + 13)) ∨ (S' = (S.1, upd S.2.1 z.2.2.1 q, upd (upd (upd (upd S.2.2.1 (4 * z.2.2.1) a) (4 * z.2.2.1 + 1) b) (4 * z.2.2.1 + 2) c) (4 * z.2.2.1 + 3) d, S.2.2.2) ∧ (sh_row z q).2.2.2.1 = z.2.2.1 + 1 ∧ ∀ tu : Nat → Int32, h (m + 13) = some (.inl (ids 0, 17, .inl tu)) → h' (m + 13) = some (.inl (ids 0, 17, .inl (upd tu 16 (nI 0)))))) (∀ q : Nat, m + 12 ≤ q → q < m + 23 → q ≠ m + 13 → h' q = h q) ∧ r = (sh_row z q).1 ∧ rl_fr h h' m (m + 23)) := by
  obtain ⟨hq, hs, ⟨hsc, hsc4⟩, hwf, ⟨hrr, hr36⟩, ⟨hnc, hn16⟩, hnw, hpr, hnv, hwv, wrc, hrc6, hrc⟩ := id hu
  have hq0 := hq.ob (nI 0, T.2) fu k hq.2.1
  have g0 := hq.1
  obtain ⟨-, gk, ⟨⟨cl, g12⟩, ⟨tu, g13, b13⟩, ⟨im, g14⟩, ⟨te, g15, b15⟩, ⟨ne, g16⟩, ⟨la, g17⟩, ⟨hn, g18⟩, ⟨hl, g19⟩, ⟨tp, g20⟩, ⟨gr, g21, b21⟩, ⟨it, g22⟩⟩, gf⟩ := id hq
  obtain ⟨a1, a2, a3, a4, a5, a6, a7, a8, a9, a10, a11⟩ := id hs
  refine rl_Met.of (by decide +kernel) (Nat.le_of_ble_eq_true rfl) ?_
  intro X hC hB
  show rl_G X (rl_e D ids H0) 0 [some (.ref m), some (.int q), some (.int a), some (.int b), some (.int c), some (.int d)] [] h n 0 0
  refine o_aload_n hC dX8_row_0 (by rfl) ?_
  refine o_iconst (v := nI 0) hC dX8_row_1 (by decide +kernel) ?_
  refine o_putf hC (fX8_78 hC rfl) (fwX8 rfl rfl rfl (Or.inl rfl)) dX8_row_2 (by repeat (first | with_reducible assumption | (rw [rl_u_s]; done) | (rw [rl_u_s]; rfl) | rw [rl_u_n (by first | with_reducible assumption | omega)])) (Nat.le_of_ble_eq_true rfl) ?_
  try simp only [List.set_cons_zero, List.set_cons_succ]
  refine o_iload_n hC dX8_row_5 (by rfl) ?_
  refine o_if_lt (tgt := 17) hC dX8_row_6 (by decide) (fun c_6 => ?_) (fun c_6 => ?_)
  · refine o_iconst (v := (-1 : Int32)) hC dX8_row_17 (by decide +kernel) ?_
    refine o_iret hC hB dX8_row_18 (Nat.le_of_ble_eq_true rfl) (Nat.le_of_ble_eq_true rfl) ?_
    first
    | (have e : sh_row z q = (-1, z) := if_pos (Or.inl c_6); exact ⟨_, rfl, rfl, (by rw [e]; exact ⟨_, _, _, S, hu.dp hq0 rfl rfl rfl rfl ⟨wrc, hrc6, hrc⟩, rfl, Or.inl ⟨rfl, rfl, rl_u_n (by omega)⟩, fun q a b d => rl_u_n (by omega)⟩), (by rw [e]), hq0.fr⟩)
    | (have e : sh_row z q = (-1, z) := if_pos (Or.inr (by rw [← hsc]; exact Int32.not_lt.mp c_14)); exact ⟨_, rfl, rfl, (by rw [e]; exact ⟨_, _, _, S, hu.dp hq0 rfl rfl rfl rfl ⟨wrc, hrc6, hrc⟩, rfl, Or.inl ⟨rfl, rfl, rl_u_n (by omega)⟩, fun q a b d => rl_u_n (by omega)⟩), (by rw [e]), hq0.fr⟩)
  · refine o_iload_n hC dX8_row_9 (by rfl) ?_
    refine o_aload_n hC dX8_row_10 (by rfl) ?_
    refine o_getf hC (fX8_109 hC rfl) dX8_row_11 (by repeat (first | with_reducible assumption | (rw [rl_u_s]; done) | (rw [rl_u_s]; rfl) | rw [rl_u_n (by first | with_reducible assumption | omega)])) (by first | rfl | with_reducible assumption) ?_
    refine o_icmp_lt (tgt := 19) hC dX8_row_14 (by decide) (fun c_14 => ?_) (fun c_14 => ?_)
    · refine o_aload_n hC dX8_row_19 (by rfl) ?_
      refine o_getf (v := .int (nI z.2.2.1)) hC (fX8_112 hC rfl) dX8_row_20 (by repeat (first | with_reducible assumption | (rw [rl_u_s]; done) | (rw [rl_u_s]; rfl) | rw [rl_u_n (by first | with_reducible assumption | omega)])) (by rw [← hrr]; rfl) ?_
      refine o_bipush (v := nI 36) hC dX8_row_23 (by decide +kernel) ?_
      refine o_icmp_ne (tgt := 31) hC dX8_row_25 (by decide) (fun c_25 => ?_) (fun c_25 => ?_)
      · have r36b : z.2.2.1 ≠ 36 := nI_eq_of c_25
        refine o_aload_n hC dX8_row_31 (by rfl) ?_
        refine o_getf hC (fX8_13 hC rfl) dX8_row_32 (by repeat (first | with_reducible assumption | (rw [rl_u_s]; done) | (rw [rl_u_s]; rfl) | rw [rl_u_n (by first | with_reducible assumption | omega)])) (by first | rfl | with_reducible assumption) ?_
        refine o_aload_n hC dX8_row_35 (by rfl) ?_
        refine o_getf (v := .int (nI z.2.2.1)) hC (fX8_112 hC rfl) dX8_row_36 (by repeat (first | with_reducible assumption | (rw [rl_u_s]; done) | (rw [rl_u_s]; rfl) | rw [rl_u_n (by first | with_reducible assumption | omega)])) (by rw [← hrr]; rfl) ?_
        refine o_iload_n hC dX8_row_39 (by rfl) ?_
        refine o_iastN (t0 := 0) hC rfl dX8_row_40 (by repeat (first | with_reducible assumption | (rw [rl_u_s]; done) | (rw [rl_u_s]; rfl) | rw [rl_u_n (by first | with_reducible assumption | omega)])) (by omega) (by decide) ?_
        refine o_aload_n hC dX8_row_41 (by rfl) ?_
        refine o_getf hC (fX8_16 hC rfl) dX8_row_42 (by repeat (first | with_reducible assumption | (rw [rl_u_s]; done) | (rw [rl_u_s]; rfl) | rw [rl_u_n (by first | with_reducible assumption | omega)])) (by first | rfl | with_reducible assumption) ?_
        refine o_iconst (v := nI 4) hC dX8_row_45 (by decide +kernel) ?_
        refine o_aload_n hC dX8_row_46 (by rfl) ?_
        refine o_getf (v := .int (nI z.2.2.1)) hC (fX8_112 hC rfl) dX8_row_47 (by repeat (first | with_reducible assumption | (rw [rl_u_s]; done) | (rw [rl_u_s]; rfl) | rw [rl_u_n (by first | with_reducible assumption | omega)])) (by rw [← hrr]; rfl) ?_
        refine o_imul hC dX8_row_50 ?_
        try rw [nI_mul]
        refine o_iload_n hC dX8_row_51 (by rfl) ?_
        refine o_iastN (t0 := 0) hC rfl dX8_row_52 (by repeat (first | with_reducible assumption | (rw [rl_u_s]; done) | (rw [rl_u_s]; rfl) | rw [rl_u_n (by first | with_reducible assumption | omega)])) (by omega) (by decide) ?_
        refine o_aload_n hC dX8_row_53 (by rfl) ?_
        refine o_getf hC (fX8_16 hC rfl) dX8_row_54 (by repeat (first | with_reducible assumption | (rw [rl_u_s]; done) | (rw [rl_u_s]; rfl) | rw [rl_u_n (by first | with_reducible assumption | omega)])) (by first | rfl | with_reducible assumption) ?_
        refine o_iconst (v := nI 4) hC dX8_row_57 (by decide +kernel) ?_
        refine o_aload_n hC dX8_row_58 (by rfl) ?_
        refine o_getf (v := .int (nI z.2.2.1)) hC (fX8_112 hC rfl) dX8_row_59 (by repeat (first | with_reducible assumption | (rw [rl_u_s]; done) | (rw [rl_u_s]; rfl) | rw [rl_u_n (by first | with_reducible assumption | omega)])) (by rw [← hrr]; rfl) ?_
        refine o_imul hC dX8_row_62 ?_
        try rw [nI_mul]
        refine o_iconst (v := nI 1) hC dX8_row_63 (by decide +kernel) ?_
        refine o_iadd hC dX8_row_64 ?_
        try rw [nI_add]
        refine o_iload_n hC dX8_row_65 (by rfl) ?_
        refine o_iastN (t0 := 0) hC rfl dX8_row_66 (by repeat (first | with_reducible assumption | (rw [rl_u_s]; done) | (rw [rl_u_s]; rfl) | rw [rl_u_n (by first | with_reducible assumption | omega)])) (by omega) (by decide) ?_
        refine o_aload_n hC dX8_row_67 (by rfl) ?_
        refine o_getf hC (fX8_16 hC rfl) dX8_row_68 (by repeat (first | with_reducible assumption | (rw [rl_u_s]; done) | (rw [rl_u_s]; rfl) | rw [rl_u_n (by first | with_reducible assumption | omega)])) (by first | rfl | with_reducible assumption) ?_
        refine o_iconst (v := nI 4) hC dX8_row_71 (by decide +kernel) ?_
        refine o_aload_n hC dX8_row_72 (by rfl) ?_
        refine o_getf (v := .int (nI z.2.2.1)) hC (fX8_112 hC rfl) dX8_row_73 (by repeat (first | with_reducible assumption | (rw [rl_u_s]; done) | (rw [rl_u_s]; rfl) | rw [rl_u_n (by first | with_reducible assumption | omega)])) (by rw [← hrr]; rfl) ?_
        refine o_imul hC dX8_row_76 ?_
        try rw [nI_mul]
        refine o_iconst (v := nI 2) hC dX8_row_77 (by decide +kernel) ?_
        refine o_iadd hC dX8_row_78 ?_
        try rw [nI_add]
        refine o_iload hC dX8_row_79 (by rfl) ?_
        refine o_iastN (t0 := 0) hC rfl dX8_row_81 (by repeat (first | with_reducible assumption | (rw [rl_u_s]; done) | (rw [rl_u_s]; rfl) | rw [rl_u_n (by first | with_reducible assumption | omega)])) (by omega) (by decide) ?_
        refine o_aload_n hC dX8_row_82 (by rfl) ?_
        refine o_getf hC (fX8_16 hC rfl) dX8_row_83 (by repeat (first | with_reducible assumption | (rw [rl_u_s]; done) | (rw [rl_u_s]; rfl) | rw [rl_u_n (by first | with_reducible assumption | omega)])) (by first | rfl | with_reducible assumption) ?_
        refine o_iconst (v := nI 4) hC dX8_row_86 (by decide +kernel) ?_
        refine o_aload_n hC dX8_row_87 (by rfl) ?_
        refine o_getf (v := .int (nI z.2.2.1)) hC (fX8_112 hC rfl) dX8_row_88 (by repeat (first | with_reducible assumption | (rw [rl_u_s]; done) | (rw [rl_u_s]; rfl) | rw [rl_u_n (by first | with_reducible assumption | omega)])) (by rw [← hrr]; rfl) ?_
        refine o_imul hC dX8_row_91 ?_
        try rw [nI_mul]
        refine o_iconst (v := nI 3) hC dX8_row_92 (by decide +kernel) ?_
        refine o_iadd hC dX8_row_93 ?_
        try rw [nI_add]
        refine o_iload hC dX8_row_94 (by rfl) ?_
        refine o_iastN (t0 := 0) hC rfl dX8_row_96 (by repeat (first | with_reducible assumption | (rw [rl_u_s]; done) | (rw [rl_u_s]; rfl) | rw [rl_u_n (by first | with_reducible assumption | omega)])) (by omega) (by decide) ?_
        refine o_aload_n hC dX8_row_97 (by rfl) ?_
        refine o_dup hC dX8_row_98 rfl ?_
        refine o_getf (v := .long z.2.2.2.2.2) hC (fX8_115 hC rfl) dX8_row_99 (by repeat (first | with_reducible assumption | (rw [rl_u_s]; done) | (rw [rl_u_s]; rfl) | rw [rl_u_n (by first | with_reducible assumption | omega)])) (by rw [← hpr]; rfl) ?_
        refine o_lconst (v := 1) hC dX8_row_102 (by decide +kernel) ?_
        refine o_aload_n hC dX8_row_103 (by rfl) ?_
        refine o_getf (v := .int (nI z.2.2.1)) hC (fX8_112 hC rfl) dX8_row_104 (by repeat (first | with_reducible assumption | (rw [rl_u_s]; done) | (rw [rl_u_s]; rfl) | rw [rl_u_n (by first | with_reducible assumption | omega)])) (by rw [← hrr]; rfl) ?_
        refine o_lshl hC dX8_row_107 ?_
        refine o_lor hC dX8_row_108 ?_
        refine o_putf hC (fX8_115 hC rfl) (fwX8 rfl rfl rfl (Or.inl rfl)) dX8_row_109 (by repeat (first | with_reducible assumption | (rw [rl_u_s]; done) | (rw [rl_u_s]; rfl) | rw [rl_u_n (by first | with_reducible assumption | omega)])) (Nat.le_of_ble_eq_true rfl) ?_
        try simp only [List.set_cons_zero, List.set_cons_succ]
        refine o_aload_n hC dX8_row_112 (by rfl) ?_
        refine o_dup hC dX8_row_113 rfl ?_
        refine o_getf (v := .int (nI z.2.2.1)) hC (fX8_112 hC rfl) dX8_row_114 (by repeat (first | with_reducible assumption | (rw [rl_u_s]; done) | (rw [rl_u_s]; rfl) | rw [rl_u_n (by first | with_reducible assumption | omega)])) (by rw [← hrr]; rfl) ?_
        refine o_iconst (v := nI 1) hC dX8_row_117 (by decide +kernel) ?_
        refine o_iadd hC dX8_row_118 ?_
        try rw [nI_add]
        refine o_putf hC (fX8_112 hC rfl) (fwX8 rfl rfl rfl (Or.inl rfl)) dX8_row_119 (by repeat (first | with_reducible assumption | (rw [rl_u_s]; done) | (rw [rl_u_s]; rfl) | rw [rl_u_n (by first | with_reducible assumption | omega)])) (Nat.le_of_ble_eq_true rfl) ?_
        try simp only [List.set_cons_zero, List.set_cons_succ]
        refine o_aload_n hC dX8_row_122 (by rfl) ?_
        refine o_getf hC (fX8_46 hC rfl) dX8_row_123 (by repeat (first | with_reducible assumption | (rw [rl_u_s]; done) | (rw [rl_u_s]; rfl) | rw [rl_u_n (by first | with_reducible assumption | omega)])) (by first | rfl | with_reducible assumption) ?_
        refine o_bipush (v := nI 16) hC dX8_row_126 (by decide +kernel) ?_
        refine o_iconst (v := nI 0) hC dX8_row_128 (by decide +kernel) ?_
        refine o_iastN (t0 := 0) hC rfl dX8_row_129 (by repeat (first | with_reducible assumption | (rw [rl_u_s]; done) | (rw [rl_u_s]; rfl) | rw [rl_u_n (by first | with_reducible assumption | omega)])) (by omega) (by decide) ?_
        refine o_aload_n hC dX8_row_130 (by rfl) ?_
        refine o_getf hC (fX8_112 hC rfl) dX8_row_131 (by repeat (first | with_reducible assumption | (rw [rl_u_s]; done) | (rw [rl_u_s]; rfl) | rw [rl_u_n (by first | with_reducible assumption | omega)])) (by first | rfl | with_reducible assumption) ?_
        refine o_iconst (v := nI 1) hC dX8_row_134 (by decide +kernel) ?_
        refine o_isub hC dX8_row_135 ?_
        rw [rl_pred z.2.2.1]
        refine o_iret hC hB dX8_row_136 (Nat.le_of_ble_eq_true rfl) (Nat.le_of_ble_eq_true rfl) ?_
        have r36 : z.2.2.1 ≠ 36 := nI_eq_of c_25
        have e : sh_row z q = (nI z.2.2.1, (z.1, z.2.1, z.2.2.1 + 1, z.2.2.2.1, z.2.2.2.2.1, z.2.2.2.2.2 ||| (1 : Int64) <<< ((nI z.2.2.1).toInt64 &&& 63))) := (if_neg (fun e => e.elim c_6 (fun e => absurd c_14 (by rw [hsc]; exact Int32.not_lt.mpr e)))).trans (if_neg (by omega))
        exact ⟨_, rfl, rfl, (by rw [e]; exact ⟨(nI 0, T.2.1, nI (z.2.2.1 + 1), z.2.2.2.2.2 ||| (1 : Int64) <<< ((nI z.2.2.1).toInt64 &&& 63), T.2.2.2.2), fu, k, (S.1, upd S.2.1 z.2.2.1 q, upd (upd (upd (upd S.2.2.1 (4 * z.2.2.1) a) (4 * z.2.2.1 + 1) b) (4 * z.2.2.1 + 2) c) (4 * z.2.2.1 + 3) d, S.2.2.2), ⟨⟨by repeat (first | with_reducible assumption | (rw [rl_u_s]; done) | (rw [rl_u_s]; rfl) | rw [rl_u_n (by first | with_reducible assumption | omega)]), gk, ⟨⟨cl, by repeat (first | with_reducible assumption | (rw [rl_u_s]; done) | (rw [rl_u_s]; rfl) | rw [rl_u_n (by first | with_reducible assumption | omega)])⟩, ⟨(upd tu 16 (nI 0)), by repeat (first | with_reducible assumption | (rw [rl_u_s]; done) | (rw [rl_u_s]; rfl) | rw [rl_u_n (by first | with_reducible assumption | omega)]), md_bd b13 ⟨0, by decide, rfl⟩⟩, ⟨im, by repeat (first | with_reducible assumption | (rw [rl_u_s]; done) | (rw [rl_u_s]; rfl) | rw [rl_u_n (by first | with_reducible assumption | omega)])⟩, ⟨te, by repeat (first | with_reducible assumption | (rw [rl_u_s]; done) | (rw [rl_u_s]; rfl) | rw [rl_u_n (by first | with_reducible assumption | omega)]), b15⟩, ⟨ne, by repeat (first | with_reducible assumption | (rw [rl_u_s]; done) | (rw [rl_u_s]; rfl) | rw [rl_u_n (by first | with_reducible assumption | omega)])⟩, ⟨la, by repeat (first | with_reducible assumption | (rw [rl_u_s]; done) | (rw [rl_u_s]; rfl) | rw [rl_u_n (by first | with_reducible assumption | omega)])⟩, ⟨hn, by repeat (first | with_reducible assumption | (rw [rl_u_s]; done) | (rw [rl_u_s]; rfl) | rw [rl_u_n (by first | with_reducible assumption | omega)])⟩, ⟨hl, by repeat (first | with_reducible assumption | (rw [rl_u_s]; done) | (rw [rl_u_s]; rfl) | rw [rl_u_n (by first | with_reducible assumption | omega)])⟩, ⟨tp, by repeat (first | with_reducible assumption | (rw [rl_u_s]; done) | (rw [rl_u_s]; rfl) | rw [rl_u_n (by first | with_reducible assumption | omega)])⟩, ⟨gr, by repeat (first | with_reducible assumption | (rw [rl_u_s]; done) | (rw [rl_u_s]; rfl) | rw [rl_u_n (by first | with_reducible assumption | omega)]), b21⟩, ⟨it, by repeat (first | with_reducible assumption | (rw [rl_u_s]; done) | (rw [rl_u_s]; rfl) | rw [rl_u_n (by first | with_reducible assumption | omega)])⟩⟩, fun _ _ _ => rfl⟩, ⟨by repeat (first | with_reducible assumption | (rw [rl_u_s]; done) | (rw [rl_u_s]; rfl) | rw [rl_u_n (by first | with_reducible assumption | omega)]), by repeat (first | with_reducible assumption | (rw [rl_u_s]; done) | (rw [rl_u_s]; rfl) | rw [rl_u_n (by first | with_reducible assumption | omega)]), by repeat (first | with_reducible assumption | (rw [rl_u_s]; done) | (rw [rl_u_s]; rfl) | rw [rl_u_n (by first | with_reducible assumption | omega)]), by repeat (first | with_reducible assumption | (rw [rl_u_s]; done) | (rw [rl_u_s]; rfl) | rw [rl_u_n (by first | with_reducible assumption | omega)]), by repeat (first | with_reducible assumption | (rw [rl_u_s]; done) | (rw [rl_u_s]; rfl) | rw [rl_u_n (by first | with_reducible assumption | omega)]), by repeat (first | with_reducible assumption | (rw [rl_u_s]; done) | (rw [rl_u_s]; rfl) | rw [rl_u_n (by first | with_reducible assumption | omega)]), by repeat (first | with_reducible assumption | (rw [rl_u_s]; done) | (rw [rl_u_s]; rfl) | rw [rl_u_n (by first | with_reducible assumption | omega)]), by repeat (first | with_reducible assumption | (rw [rl_u_s]; done) | (rw [rl_u_s]; rfl) | rw [rl_u_n (by first | with_reducible assumption | omega)]), by repeat (first | with_reducible assumption | (rw [rl_u_s]; done) | (rw [rl_u_s]; rfl) | rw [rl_u_n (by first | with_reducible assumption | omega)]), by repeat (first | with_reducible assumption | (rw [rl_u_s]; done) | (rw [rl_u_s]; rfl) | rw [rl_u_n (by first | with_reducible assumption | omega)]), by repeat (first | with_reducible assumption | (rw [rl_u_s]; done) | (rw [rl_u_s]; rfl) | rw [rl_u_n (by first | with_reducible assumption | omega)])⟩, ⟨hsc, hsc4⟩, hwf, ⟨rfl, (by show z.2.2.1 + 1 ≤ 36; omega)⟩, ⟨hnc, hn16⟩, hnw, rfl, hnv, hwv, ⟨wrc, hrc6, hrc⟩⟩, rfl, Or.inr ⟨rfl, rfl, (fun t9 e9 => by rw [mf_inj32b (e9.symm.trans g13)]; repeat (first | with_reducible assumption | (rw [rl_u_s]; done) | (rw [rl_u_s]; rfl) | rw [rl_u_n (by first | with_reducible assumption | omega)]))⟩, (fun q a b d => by repeat (first | rfl | rw [rl_u_n (by omega)]))⟩), (by rw [e]), fun q hq => by repeat (first | rfl | rw [rl_u_n (by omega)])⟩
      · refine o_bipush (v := (-4 : Int32)) hC dX8_row_28 (by decide +kernel) ?_
        refine o_iret hC hB dX8_row_30 (Nat.le_of_ble_eq_true rfl) (Nat.le_of_ble_eq_true rfl) ?_
        (have e : sh_row z q = (-4, z) := (if_neg (fun e => e.elim c_6 (fun e => absurd c_14 (by rw [hsc]; exact Int32.not_lt.mpr e)))).trans (if_pos (Nat.le_of_eq (nI_inj2 (by omega) (by decide) c_25).symm)); exact ⟨_, rfl, rfl, (by rw [e]; exact ⟨_, _, _, S, hu.dp hq0 rfl rfl rfl rfl ⟨wrc, hrc6, hrc⟩, rfl, Or.inl ⟨rfl, rfl, rl_u_n (by omega)⟩, fun q a b d => rl_u_n (by omega)⟩), (by rw [e]), hq0.fr⟩)
    · refine o_iconst (v := (-1 : Int32)) hC dX8_row_17 (by decide +kernel) ?_
      refine o_iret hC hB dX8_row_18 (Nat.le_of_ble_eq_true rfl) (Nat.le_of_ble_eq_true rfl) ?_
      first
      | (have e : sh_row z q = (-1, z) := if_pos (Or.inl c_6); exact ⟨_, rfl, rfl, (by rw [e]; exact ⟨_, _, _, S, hu.dp hq0 rfl rfl rfl rfl ⟨wrc, hrc6, hrc⟩, rfl, Or.inl ⟨rfl, rfl, rl_u_n (by omega)⟩, fun q a b d => rl_u_n (by omega)⟩), (by rw [e]), hq0.fr⟩)
      | (have e : sh_row z q = (-1, z) := if_pos (Or.inr (by rw [← hsc]; exact Int32.not_lt.mp c_14)); exact ⟨_, rfl, rfl, (by rw [e]; exact ⟨_, _, _, S, hu.dp hq0 rfl rfl rfl rfl ⟨wrc, hrc6, hrc⟩, rfl, Or.inl ⟨rfl, rfl, rl_u_n (by omega)⟩, fun q a b d => rl_u_n (by omega)⟩), (by rw [e]), hq0.fr⟩)

set_option maxHeartbeats 4000000 in
set_option maxRecDepth 100000 in
theorem cm_X8_clear (l : Launch) (D : va_G) (ids : Nat → ClassId) (H0 : Heap) (h : rl_H) (n : Nat) (m : Nat) (T : md_T) (fu : Int32) (k : Nat) (S : md_A) (z : sh_S)  (hu : md_un ids h m T fu k S z) : rl_Met l (rl_e D ids H0) rl_BW rl_Ns yX8_clear cX8_clear 1 none ({ frames := 0, cells := 0, slots := 0, locals := 0 }) [.ref m] h n (fun v h' n' => v = none ∧ n' = n ∧ mdx ids h' m T (sh_clear z) (fun S' => S' = S ∧ ∀ tu : Nat → Int32, h (m + 13) = some (.inl (ids 0, 17, .inl tu)) → h' (m + 13) = some (.inl (ids 0, 17, .inl (upd tu 16 (nI 0))))) (∀ q : Nat, m + 12 ≤ q → q < m + 23 → q ≠ m + 13 → h' q = h q) ∧ rl_fr h h' m (m + 23)) := by
  obtain ⟨hq, hs, ⟨hsc, hsc4⟩, hwf, ⟨hrr, hr36⟩, ⟨hnc, hn16⟩, hnw, hpr, hnv, hwv, wrc, hrc6, hrc⟩ := id hu
  have hq0 := hq.ob (nI 0, T.2) fu k hq.2.1
  have g0 := hq.1
  obtain ⟨-, gk, ⟨⟨cl, g12⟩, ⟨tu, g13, b13⟩, ⟨im, g14⟩, ⟨te, g15, b15⟩, ⟨ne, g16⟩, ⟨la, g17⟩, ⟨hn, g18⟩, ⟨hl, g19⟩, ⟨tp, g20⟩, ⟨gr, g21, b21⟩, ⟨it, g22⟩⟩, gf⟩ := id hq
  obtain ⟨a1, a2, a3, a4, a5, a6, a7, a8, a9, a10, a11⟩ := id hs
  refine rl_Met.of (by decide +kernel) (Nat.le_of_ble_eq_true rfl) ?_
  intro X hC hB
  show rl_G X (rl_e D ids H0) 0 [some (.ref m)] [] h n 0 0
  refine o_aload_n hC dX8_clear_0 (by rfl) ?_
  refine o_iconst (v := nI 0) hC dX8_clear_1 (by decide +kernel) ?_
  refine o_putf hC (fX8_78 hC rfl) (fwX8 rfl rfl rfl (Or.inl rfl)) dX8_clear_2 (by repeat (first | with_reducible assumption | (rw [rl_u_s]; done) | (rw [rl_u_s]; rfl) | rw [rl_u_n (by first | with_reducible assumption | omega)])) (Nat.le_of_ble_eq_true rfl) ?_
  try simp only [List.set_cons_zero, List.set_cons_succ]
  refine o_aload_n hC dX8_clear_5 (by rfl) ?_
  refine o_iconst (v := nI 0) hC dX8_clear_6 (by decide +kernel) ?_
  refine o_putf hC (fX8_109 hC rfl) (fwX8 rfl rfl rfl (Or.inl rfl)) dX8_clear_7 (by repeat (first | with_reducible assumption | (rw [rl_u_s]; done) | (rw [rl_u_s]; rfl) | rw [rl_u_n (by first | with_reducible assumption | omega)])) (Nat.le_of_ble_eq_true rfl) ?_
  try simp only [List.set_cons_zero, List.set_cons_succ]
  refine o_aload_n hC dX8_clear_10 (by rfl) ?_
  refine o_iconst (v := nI 0) hC dX8_clear_11 (by decide +kernel) ?_
  refine o_putf hC (fX8_112 hC rfl) (fwX8 rfl rfl rfl (Or.inl rfl)) dX8_clear_12 (by repeat (first | with_reducible assumption | (rw [rl_u_s]; done) | (rw [rl_u_s]; rfl) | rw [rl_u_n (by first | with_reducible assumption | omega)])) (Nat.le_of_ble_eq_true rfl) ?_
  try simp only [List.set_cons_zero, List.set_cons_succ]
  refine o_aload_n hC dX8_clear_15 (by rfl) ?_
  refine o_iconst (v := nI 0) hC dX8_clear_16 (by decide +kernel) ?_
  refine o_putf hC (fX8_119 hC rfl) (fwX8 rfl rfl rfl (Or.inl rfl)) dX8_clear_17 (by repeat (first | with_reducible assumption | (rw [rl_u_s]; done) | (rw [rl_u_s]; rfl) | rw [rl_u_n (by first | with_reducible assumption | omega)])) (Nat.le_of_ble_eq_true rfl) ?_
  try simp only [List.set_cons_zero, List.set_cons_succ]
  refine o_aload_n hC dX8_clear_20 (by rfl) ?_
  refine o_lconst (v := 0) hC dX8_clear_21 (by decide +kernel) ?_
  refine o_putf hC (fX8_115 hC rfl) (fwX8 rfl rfl rfl (Or.inl rfl)) dX8_clear_22 (by repeat (first | with_reducible assumption | (rw [rl_u_s]; done) | (rw [rl_u_s]; rfl) | rw [rl_u_n (by first | with_reducible assumption | omega)])) (Nat.le_of_ble_eq_true rfl) ?_
  try simp only [List.set_cons_zero, List.set_cons_succ]
  refine o_aload_n hC dX8_clear_25 (by rfl) ?_
  refine o_getf hC (fX8_46 hC rfl) dX8_clear_26 (by repeat (first | with_reducible assumption | (rw [rl_u_s]; done) | (rw [rl_u_s]; rfl) | rw [rl_u_n (by first | with_reducible assumption | omega)])) (by first | rfl | with_reducible assumption) ?_
  refine o_bipush (v := nI 16) hC dX8_clear_29 (by decide +kernel) ?_
  refine o_iconst (v := nI 0) hC dX8_clear_31 (by decide +kernel) ?_
  refine o_iastN (t0 := 0) hC rfl dX8_clear_32 (by repeat (first | with_reducible assumption | (rw [rl_u_s]; done) | (rw [rl_u_s]; rfl) | rw [rl_u_n (by first | with_reducible assumption | omega)])) (by omega) (by decide) ?_
  refine o_vret hC hB dX8_clear_33 (Nat.le_of_ble_eq_true rfl) (Nat.le_of_ble_eq_true rfl) ?_
  exact ⟨rfl, rfl, ⟨(nI 0, nI 0, nI 0, 0, nI 0, T.2.2.2.2.2), fu, k, S, ⟨⟨by repeat (first | with_reducible assumption | (rw [rl_u_s]; done) | (rw [rl_u_s]; rfl) | rw [rl_u_n (by first | with_reducible assumption | omega)]), gk, ⟨⟨cl, by repeat (first | with_reducible assumption | (rw [rl_u_s]; done) | (rw [rl_u_s]; rfl) | rw [rl_u_n (by first | with_reducible assumption | omega)])⟩, ⟨(upd tu 16 (nI 0)), by repeat (first | with_reducible assumption | (rw [rl_u_s]; done) | (rw [rl_u_s]; rfl) | rw [rl_u_n (by first | with_reducible assumption | omega)]), md_bd b13 ⟨0, by decide, rfl⟩⟩, ⟨im, by repeat (first | with_reducible assumption | (rw [rl_u_s]; done) | (rw [rl_u_s]; rfl) | rw [rl_u_n (by first | with_reducible assumption | omega)])⟩, ⟨te, by repeat (first | with_reducible assumption | (rw [rl_u_s]; done) | (rw [rl_u_s]; rfl) | rw [rl_u_n (by first | with_reducible assumption | omega)]), b15⟩, ⟨ne, by repeat (first | with_reducible assumption | (rw [rl_u_s]; done) | (rw [rl_u_s]; rfl) | rw [rl_u_n (by first | with_reducible assumption | omega)])⟩, ⟨la, by repeat (first | with_reducible assumption | (rw [rl_u_s]; done) | (rw [rl_u_s]; rfl) | rw [rl_u_n (by first | with_reducible assumption | omega)])⟩, ⟨hn, by repeat (first | with_reducible assumption | (rw [rl_u_s]; done) | (rw [rl_u_s]; rfl) | rw [rl_u_n (by first | with_reducible assumption | omega)])⟩, ⟨hl, by repeat (first | with_reducible assumption | (rw [rl_u_s]; done) | (rw [rl_u_s]; rfl) | rw [rl_u_n (by first | with_reducible assumption | omega)])⟩, ⟨tp, by repeat (first | with_reducible assumption | (rw [rl_u_s]; done) | (rw [rl_u_s]; rfl) | rw [rl_u_n (by first | with_reducible assumption | omega)])⟩, ⟨gr, by repeat (first | with_reducible assumption | (rw [rl_u_s]; done) | (rw [rl_u_s]; rfl) | rw [rl_u_n (by first | with_reducible assumption | omega)]), b21⟩, ⟨it, by repeat (first | with_reducible assumption | (rw [rl_u_s]; done) | (rw [rl_u_s]; rfl) | rw [rl_u_n (by first | with_reducible assumption | omega)])⟩⟩, fun _ _ _ => rfl⟩, ⟨by repeat (first | with_reducible assumption | (rw [rl_u_s]; done) | (rw [rl_u_s]; rfl) | rw [rl_u_n (by first | with_reducible assumption | omega)]), by repeat (first | with_reducible assumption | (rw [rl_u_s]; done) | (rw [rl_u_s]; rfl) | rw [rl_u_n (by first | with_reducible assumption | omega)]), by repeat (first | with_reducible assumption | (rw [rl_u_s]; done) | (rw [rl_u_s]; rfl) | rw [rl_u_n (by first | with_reducible assumption | omega)]), by repeat (first | with_reducible assumption | (rw [rl_u_s]; done) | (rw [rl_u_s]; rfl) | rw [rl_u_n (by first | with_reducible assumption | omega)]), by repeat (first | with_reducible assumption | (rw [rl_u_s]; done) | (rw [rl_u_s]; rfl) | rw [rl_u_n (by first | with_reducible assumption | omega)]), by repeat (first | with_reducible assumption | (rw [rl_u_s]; done) | (rw [rl_u_s]; rfl) | rw [rl_u_n (by first | with_reducible assumption | omega)]), by repeat (first | with_reducible assumption | (rw [rl_u_s]; done) | (rw [rl_u_s]; rfl) | rw [rl_u_n (by first | with_reducible assumption | omega)]), by repeat (first | with_reducible assumption | (rw [rl_u_s]; done) | (rw [rl_u_s]; rfl) | rw [rl_u_n (by first | with_reducible assumption | omega)]), by repeat (first | with_reducible assumption | (rw [rl_u_s]; done) | (rw [rl_u_s]; rfl) | rw [rl_u_n (by first | with_reducible assumption | omega)]), by repeat (first | with_reducible assumption | (rw [rl_u_s]; done) | (rw [rl_u_s]; rfl) | rw [rl_u_n (by first | with_reducible assumption | omega)]), by repeat (first | with_reducible assumption | (rw [rl_u_s]; done) | (rw [rl_u_s]; rfl) | rw [rl_u_n (by first | with_reducible assumption | omega)])⟩, ⟨rfl, Nat.zero_le _⟩, hwf, ⟨rfl, Nat.zero_le _⟩, ⟨rfl, Nat.zero_le _⟩, hnw, rfl, fun a ha => absurd ha (Nat.not_lt_zero a), fun i hi => absurd hi (Nat.not_lt_zero i), ⟨wrc, hrc6, hrc⟩⟩, rfl, ⟨rfl, (fun t9 e9 => by rw [mf_inj32b (e9.symm.trans g13)]; repeat (first | with_reducible assumption | (rw [rl_u_s]; done) | (rw [rl_u_s]; rfl) | rw [rl_u_n (by first | with_reducible assumption | omega)]))⟩, (fun q a b d => by repeat (first | rfl | rw [rl_u_n (by omega)]))⟩, fun q hq => by repeat (first | rfl | rw [rl_u_n (by omega)])⟩
