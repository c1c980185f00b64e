/-! THE MODEL: its makers; drop -/
theorem dpb_s : ∀ r : Nat, r < 36 → (((nI r).toInt64 &&& 63).toBitVec.smod 64).toNat = r := by decide +kernel
theorem dpb_1 : ∀ r : Nat, r < 36 → ((1 : Int64) <<< ((nI r).toInt64 &&& 63)).toBitVec = BitVec.twoPow 64 r := by decide +kernel
theorem dpb_get (x : Int64) (r : Nat) (hr : r < 36) : ((x >>> ((nI r).toInt64 &&& 63)) &&& 1 = 0) ↔ x.toBitVec.getLsbD r = false := by
  have e : ((x >>> ((nI r).toInt64 &&& 63)) &&& 1).toBitVec = (x.toBitVec.sshiftRight r) &&& 1#64 := by
    rw [Int64.toBitVec_and, Int64.toBitVec_shiftRight, BitVec.sshiftRight_eq', dpb_s r hr]
    rfl
  have g : (x.toBitVec.sshiftRight r).getLsbD 0 = x.toBitVec.getLsbD r := by
    rw [BitVec.getLsbD_sshiftRight]
    have : r < 64 := by omega
    simp [this]
  constructor
  · intro h
    have h2 := congrArg (fun b => BitVec.getLsbD b 0) (e.symm.trans (congrArg Int64.toBitVec h))
    simp only [BitVec.getLsbD_and, g] at h2
    simpa using h2
  · intro h
    apply Int64.toBitVec_inj.mp
    rw [e]
    apply BitVec.eq_of_getLsbD_eq
    intro i hi
    rw [BitVec.getLsbD_and]
    cases i with
    | zero => rw [g, h]; rfl
    | succ i =>
      have : (1#64).getLsbD (i + 1) = false := by
        rw [BitVec.getLsbD_one]
        simp
      rw [this]
      simp
theorem dpb_or (x : Int64) (r : Nat) (hr : r < 36) : (x ||| (1 : Int64) <<< ((nI r).toInt64 &&& 63) = x) ↔ x.toBitVec.getLsbD r = true := by
  rw [← Int64.toBitVec_inj, Int64.toBitVec_or, dpb_1 r hr]
  constructor
  · intro h
    have h2 := congrArg (fun b => BitVec.getLsbD b r) h
    simp only [BitVec.getLsbD_or, BitVec.getLsbD_twoPow] at h2
    have : r < 64 := by omega
    simpa [this] using h2.symm
  · intro h
    apply BitVec.eq_of_getLsbD_eq
    intro i hi
    rw [BitVec.getLsbD_or, BitVec.getLsbD_twoPow]
    by_cases q : i = r
    · subst q
      rw [h]
      rfl
    · simp [show ¬ r = i from fun e => q e.symm]
theorem dpb_an (x : Int64) (r : Nat) (hr : r < 36) : (x &&& ((1 : Int64) <<< ((nI r).toInt64 &&& 63) ^^^ (-1)) = x) ↔ x.toBitVec.getLsbD r = false := by
  have m1 : (-1 : Int64).toBitVec = BitVec.allOnes 64 := by decide +kernel
  rw [← Int64.toBitVec_inj, Int64.toBitVec_and, Int64.toBitVec_xor, dpb_1 r hr, m1]
  constructor
  · intro h
    have h2 := congrArg (fun b => BitVec.getLsbD b r) h
    have : r < 64 := by omega
    simp only [BitVec.getLsbD_and, BitVec.getLsbD_xor, BitVec.getLsbD_twoPow, BitVec.getLsbD_allOnes] at h2
    simpa [this] using h2.symm
  · intro h
    apply BitVec.eq_of_getLsbD_eq
    intro i hi
    rw [BitVec.getLsbD_and, BitVec.getLsbD_xor, BitVec.getLsbD_twoPow, BitVec.getLsbD_allOnes]
    by_cases q : i = r
    · subst q
      rw [h]
      rfl
    · simp [hi, show ¬ r = i from fun e => q e.symm]

theorem md_lg (x : Int64) (r : Nat) (hr : r < 36) : (lg_cmp ((x >>> ((nI r).toInt64 &&& 63)) &&& 1) 0 = 0) ↔ x.toBitVec.getLsbD r = false := by
  rw [lg_cmp_eq]
  exact dpb_get x r hr
theorem md_drA {x : Int64} {r : Nat} (hr : r < 36) (h : lg_cmp ((x >>> ((nI r).toInt64 &&& 63)) &&& 1) 0 = 0) : (if x ||| (1 : Int64) <<< ((nI r).toInt64 &&& 63) = x then nI 0 else nI 1) = nI 1 := by
  have h2 := (md_lg x r hr).mp h
  exact if_neg (fun e => by rw [(dpb_or x r hr).mp e] at h2; cases h2)
theorem md_drB {x : Int64} {r : Nat} (hr : r < 36) (h : ¬ lg_cmp ((x >>> ((nI r).toInt64 &&& 63)) &&& 1) 0 = 0) : (if x ||| (1 : Int64) <<< ((nI r).toInt64 &&& 63) = x then nI 0 else nI 1) = nI 0 := by
  refine if_pos ((dpb_or x r hr).mpr ?_)
  cases e : x.toBitVec.getLsbD r with
  | true => rfl
  | false => exact absurd ((md_lg x r hr).mpr e) h
theorem md_drC {x : Int64} {r : Nat} (hr : r < 36) (h : lg_cmp ((x >>> ((nI r).toInt64 &&& 63)) &&& 1) 0 = 0) : (if x &&& ((1 : Int64) <<< ((nI r).toInt64 &&& 63) ^^^ (-1)) = x then nI 0 else nI 1) = nI 0 := if_pos ((dpb_an x r hr).mpr ((md_lg x r hr).mp h))
theorem md_drD {x : Int64} {r : Nat} (hr : r < 36) (h : ¬ lg_cmp ((x >>> ((nI r).toInt64 &&& 63)) &&& 1) 0 = 0) : (if x &&& ((1 : Int64) <<< ((nI r).toInt64 &&& 63) ^^^ (-1)) = x then nI 0 else nI 1) = nI 1 := if_neg (fun e => h ((md_lg x r hr).mpr ((dpb_an x r hr).mp e)))

set_option maxHeartbeats 4000000 in
set_option maxRecDepth 100000 in
theorem cm_X8_drop (l : Launch) (D : va_G) (ids : Nat → ClassId) (H0 : Heap) (h : rl_H) (n : Nat) (m : Nat) (T : md_T) (fu : Int32) (k : Nat) (S : md_A) (z : sh_S) (q on : Int32) (hu : md_un ids h m T fu k S z) (hon : on = nI 0 ∨ on = nI 1) : rl_Met l (rl_e D ids H0) rl_BW rl_Ns yX8_drop cX8_drop 4 (some .int) ({ frames := 0, cells := 0, slots := 0, locals := 0 }) [.ref m, .int q, .int on] h n (fun v h' n' => ∃ r : Int32, v = some (.int r) ∧ n' = n ∧ md_ok ids h' m (sh_drop z q on).2 ∧ r = (sh_drop z q on).1 ∧ rl_fr h h' m (m + 23)) := by
  obtain ⟨hq, hs, ⟨hsc, hsc4⟩, hwf, ⟨hrr, hr36⟩, ⟨hnc, hn16⟩, hnw, hpr, hnv, hwv, wrc, hrc6, hrc⟩ := id hu
  have hq0 := hq.ob (nI 0, T.2) fu k hq.2.1
  have g0 := hq.1
  obtain ⟨-, gk, ⟨⟨cl, g12⟩, ⟨tu, g13, b13⟩, ⟨im, g14⟩, ⟨te, g15, b15⟩, ⟨ne, g16⟩, ⟨la, g17⟩, ⟨hn, g18⟩, ⟨hl, g19⟩, ⟨tp, g20⟩, ⟨gr, g21, b21⟩, ⟨it, g22⟩⟩, gf⟩ := id hq
  obtain ⟨a1, a2, a3, a4, a5, a6, a7, a8, a9, a10, a11⟩ := id hs
  refine rl_Met.of (by decide +kernel) (Nat.le_of_ble_eq_true rfl) ?_
  intro X hC hB
  show rl_G X (rl_e D ids H0) 0 [some (.ref m), some (.int q), some (.int on), none] [] h n 0 0
  refine o_aload_n hC dX8_drop_0 (by rfl) ?_
  refine o_iconst (v := nI 0) hC dX8_drop_1 (by decide +kernel) ?_
  refine o_putf hC (fX8_78 hC rfl) (fwX8 rfl rfl rfl (Or.inl rfl)) dX8_drop_2 (by repeat (first | with_reducible assumption | (rw [rl_u_s]; done) | (rw [rl_u_s]; rfl) | rw [rl_u_n (by first | with_reducible assumption | omega)])) (Nat.le_of_ble_eq_true rfl) ?_
  try simp only [List.set_cons_zero, List.set_cons_succ]
  refine o_iload_n hC dX8_drop_5 (by rfl) ?_
  refine o_if_lt (tgt := 17) hC dX8_drop_6 (by decide) (fun c_6 => ?_) (fun c_6 => ?_)
  · refine o_iconst (v := (-1 : Int32)) hC dX8_drop_17 (by decide +kernel) ?_
    refine o_iret hC hB dX8_drop_18 (Nat.le_of_ble_eq_true rfl) (Nat.le_of_ble_eq_true rfl) ?_
    first
    | (have e : sh_drop z q on = (-1, z) := if_pos (Or.inl c_6); exact ⟨_, rfl, rfl, (by rw [e]; exact ⟨_, _, _, S, hu.dp hq0 rfl rfl rfl rfl ⟨wrc, hrc6, hrc⟩⟩), (by rw [e]), hq0.fr⟩)
    | (have e : sh_drop z q on = (-1, z) := if_pos (Or.inr (Int32.not_lt.mp c_14)); exact ⟨_, rfl, rfl, (by rw [e]; exact ⟨_, _, _, S, hu.dp hq0 rfl rfl rfl rfl ⟨wrc, hrc6, hrc⟩⟩), (by rw [e]), hq0.fr⟩)
  · refine o_iload_n hC dX8_drop_9 (by rfl) ?_
    refine o_aload_n hC dX8_drop_10 (by rfl) ?_
    refine o_getf (v := .int (nI z.2.2.1)) hC (fX8_112 hC rfl) dX8_drop_11 (by repeat (first | with_reducible assumption | (rw [rl_u_s]; done) | (rw [rl_u_s]; rfl) | rw [rl_u_n (by first | with_reducible assumption | omega)])) (by rw [← hrr]; rfl) ?_
    refine o_icmp_lt (tgt := 19) hC dX8_drop_14 (by decide) (fun c_14 => ?_) (fun c_14 => ?_)
    · obtain ⟨r, hr, rfl⟩ := nI_of_lt (k := z.2.2.1) (by omega) c_6 (fun e => absurd c_14 (Int32.not_lt.mpr e))
      have r36 : r < 36 := by omega
      refine o_aload_n hC dX8_drop_19 (by rfl) ?_
      refine o_getf (v := .long z.2.2.2.2.2) hC (fX8_115 hC rfl) dX8_drop_20 (by repeat (first | with_reducible assumption | (rw [rl_u_s]; done) | (rw [rl_u_s]; rfl) | rw [rl_u_n (by first | with_reducible assumption | omega)])) (by rw [← hpr]; rfl) ?_
      refine o_iload_n hC dX8_drop_23 (by rfl) ?_
      refine o_lshr hC dX8_drop_24 ?_
      refine o_lconst (v := 1) hC dX8_drop_25 (by decide +kernel) ?_
      refine o_land hC dX8_drop_26 ?_
      refine o_lconst (v := 0) hC dX8_drop_27 (by decide +kernel) ?_
      refine o_lcmp hC dX8_drop_28 ?_
      refine o_if_ne (tgt := 36) hC dX8_drop_29 (by decide) (fun c_29 => ?_) (fun c_29 => ?_)
      · refine o_iconst (v := nI 0) hC dX8_drop_36 (by decide +kernel) ?_
        refine o_istore_n hC dX8_drop_37 (Nat.le_of_ble_eq_true rfl) ?_
        refine o_aload_n hC dX8_drop_38 (by rfl) ?_
        refine o_iload_n hC dX8_drop_39 (by rfl) ?_
        refine o_if_eq (tgt := 58) hC dX8_drop_40 (by decide) (fun c_40 => ?_) (fun c_40 => ?_)
        · refine o_aload_n hC dX8_drop_58 (by rfl) ?_
          refine o_getf (v := .long z.2.2.2.2.2) hC (fX8_115 hC rfl) dX8_drop_59 (by repeat (first | with_reducible assumption | (rw [rl_u_s]; done) | (rw [rl_u_s]; rfl) | rw [rl_u_n (by first | with_reducible assumption | omega)])) (by rw [← hpr]; rfl) ?_
          refine o_lconst (v := 1) hC dX8_drop_62 (by decide +kernel) ?_
          refine o_iload_n hC dX8_drop_63 (by rfl) ?_
          refine o_lshl hC dX8_drop_64 ?_
          refine o_lor hC dX8_drop_65 ?_
          refine o_putf hC (fX8_115 hC rfl) (fwX8 rfl rfl rfl (Or.inl rfl)) dX8_drop_66 (by repeat (first | with_reducible assumption | (rw [rl_u_s]; done) | (rw [rl_u_s]; rfl) | rw [rl_u_n (by first | with_reducible assumption | omega)])) (Nat.le_of_ble_eq_true rfl) ?_
          try simp only [List.set_cons_zero, List.set_cons_succ]
          refine o_iload_n hC dX8_drop_69 (by rfl) ?_
          refine o_iload_n hC dX8_drop_70 (by rfl) ?_
          refine o_icmp_ne (tgt := 78) hC dX8_drop_71 (by decide) (fun c_71 => ?_) (fun c_71 => ?_)
          · refine o_iconst (v := nI 1) hC dX8_drop_78 (by decide +kernel) ?_
            refine o_iret hC hB dX8_drop_79 (Nat.le_of_ble_eq_true rfl) (Nat.le_of_ble_eq_true rfl) ?_
            first
            | (have e1 : dp_pr z.2.2.2.2.2 (nI r) on = z.2.2.2.2.2 ||| (1 : Int64) <<< ((nI r).toInt64 &&& 63) := if_pos c_40; have e : sh_drop z (nI r) on = (if dp_pr z.2.2.2.2.2 (nI r) on = z.2.2.2.2.2 then nI 0 else nI 1, (z.1, z.2.1, z.2.2.1, z.2.2.2.1, z.2.2.2.2.1, dp_pr z.2.2.2.2.2 (nI r) on)) := (if_neg (fun e => e.elim c_6 (fun e => absurd c_14 (Int32.not_lt.mpr e)))); have e2 : (if dp_pr z.2.2.2.2.2 (nI r) on = z.2.2.2.2.2 then nI 0 else nI 1) = nI 1 := (by rw [e1]; exact md_drA r36 c_29); exact ⟨_, rfl, rfl, (by rw [e]; exact ⟨(nI 0, T.2.1, T.2.2.1, z.2.2.2.2.2 ||| (1 : Int64) <<< ((nI r).toInt64 &&& 63), T.2.2.2.2), fu, k, S, ⟨by repeat (first | with_reducible assumption | (rw [rl_u_s]; done) | (rw [rl_u_s]; rfl) | rw [rl_u_n (by first | with_reducible assumption | omega)]), gk, ⟨⟨cl, by repeat (first | with_reducible assumption | (rw [rl_u_s]; done) | (rw [rl_u_s]; rfl) | rw [rl_u_n (by first | with_reducible assumption | omega)])⟩, ⟨tu, by repeat (first | with_reducible assumption | (rw [rl_u_s]; done) | (rw [rl_u_s]; rfl) | rw [rl_u_n (by first | with_reducible assumption | omega)]), b13⟩, ⟨im, by repeat (first | with_reducible assumption | (rw [rl_u_s]; done) | (rw [rl_u_s]; rfl) | rw [rl_u_n (by first | with_reducible assumption | omega)])⟩, ⟨te, by repeat (first | with_reducible assumption | (rw [rl_u_s]; done) | (rw [rl_u_s]; rfl) | rw [rl_u_n (by first | with_reducible assumption | omega)]), b15⟩, ⟨ne, by repeat (first | with_reducible assumption | (rw [rl_u_s]; done) | (rw [rl_u_s]; rfl) | rw [rl_u_n (by first | with_reducible assumption | omega)])⟩, ⟨la, by repeat (first | with_reducible assumption | (rw [rl_u_s]; done) | (rw [rl_u_s]; rfl) | rw [rl_u_n (by first | with_reducible assumption | omega)])⟩, ⟨hn, by repeat (first | with_reducible assumption | (rw [rl_u_s]; done) | (rw [rl_u_s]; rfl) | rw [rl_u_n (by first | with_reducible assumption | omega)])⟩, ⟨hl, by repeat (first | with_reducible assumption | (rw [rl_u_s]; done) | (rw [rl_u_s]; rfl) | rw [rl_u_n (by first | with_reducible assumption | omega)])⟩, ⟨tp, by repeat (first | with_reducible assumption | (rw [rl_u_s]; done) | (rw [rl_u_s]; rfl) | rw [rl_u_n (by first | with_reducible assumption | omega)])⟩, ⟨gr, by repeat (first | with_reducible assumption | (rw [rl_u_s]; done) | (rw [rl_u_s]; rfl) | rw [rl_u_n (by first | with_reducible assumption | omega)]), b21⟩, ⟨it, by repeat (first | with_reducible assumption | (rw [rl_u_s]; done) | (rw [rl_u_s]; rfl) | rw [rl_u_n (by first | with_reducible assumption | omega)])⟩⟩, fun _ _ _ => rfl⟩, ⟨by repeat (first | with_reducible assumption | (rw [rl_u_s]; done) | (rw [rl_u_s]; rfl) | rw [rl_u_n (by first | with_reducible assumption | omega)]), by repeat (first | with_reducible assumption | (rw [rl_u_s]; done) | (rw [rl_u_s]; rfl) | rw [rl_u_n (by first | with_reducible assumption | omega)]), by repeat (first | with_reducible assumption | (rw [rl_u_s]; done) | (rw [rl_u_s]; rfl) | rw [rl_u_n (by first | with_reducible assumption | omega)]), by repeat (first | with_reducible assumption | (rw [rl_u_s]; done) | (rw [rl_u_s]; rfl) | rw [rl_u_n (by first | with_reducible assumption | omega)]), by repeat (first | with_reducible assumption | (rw [rl_u_s]; done) | (rw [rl_u_s]; rfl) | rw [rl_u_n (by first | with_reducible assumption | omega)]), by repeat (first | with_reducible assumption | (rw [rl_u_s]; done) | (rw [rl_u_s]; rfl) | rw [rl_u_n (by first | with_reducible assumption | omega)]), by repeat (first | with_reducible assumption | (rw [rl_u_s]; done) | (rw [rl_u_s]; rfl) | rw [rl_u_n (by first | with_reducible assumption | omega)]), by repeat (first | with_reducible assumption | (rw [rl_u_s]; done) | (rw [rl_u_s]; rfl) | rw [rl_u_n (by first | with_reducible assumption | omega)]), by repeat (first | with_reducible assumption | (rw [rl_u_s]; done) | (rw [rl_u_s]; rfl) | rw [rl_u_n (by first | with_reducible assumption | omega)]), by repeat (first | with_reducible assumption | (rw [rl_u_s]; done) | (rw [rl_u_s]; rfl) | rw [rl_u_n (by first | with_reducible assumption | omega)]), by repeat (first | with_reducible assumption | (rw [rl_u_s]; done) | (rw [rl_u_s]; rfl) | rw [rl_u_n (by first | with_reducible assumption | omega)])⟩, ⟨hsc, hsc4⟩, hwf, ⟨hrr, hr36⟩, ⟨hnc, hn16⟩, hnw, e1.symm, hnv, hwv, ⟨wrc, hrc6, hrc⟩⟩), (by rw [e]; exact e2.symm), fun q hq => by repeat (first | rfl | rw [rl_u_n (by omega)])⟩)
            | (have e1 : dp_pr z.2.2.2.2.2 (nI r) on = z.2.2.2.2.2 ||| (1 : Int64) <<< ((nI r).toInt64 &&& 63) := if_pos c_40; have e : sh_drop z (nI r) on = (if dp_pr z.2.2.2.2.2 (nI r) on = z.2.2.2.2.2 then nI 0 else nI 1, (z.1, z.2.1, z.2.2.1, z.2.2.2.1, z.2.2.2.2.1, dp_pr z.2.2.2.2.2 (nI r) on)) := (if_neg (fun e => e.elim c_6 (fun e => absurd c_14 (Int32.not_lt.mpr e)))); have e2 : (if dp_pr z.2.2.2.2.2 (nI r) on = z.2.2.2.2.2 then nI 0 else nI 1) = nI 0 := (by rw [e1]; exact md_drB r36 c_29); exact ⟨_, rfl, rfl, (by rw [e]; exact ⟨(nI 0, T.2.1, T.2.2.1, z.2.2.2.2.2 ||| (1 : Int64) <<< ((nI r).toInt64 &&& 63), T.2.2.2.2), fu, k, S, ⟨by repeat (first | with_reducible assumption | (rw [rl_u_s]; done) | (rw [rl_u_s]; rfl) | rw [rl_u_n (by first | with_reducible assumption | omega)]), gk, ⟨⟨cl, by repeat (first | with_reducible assumption | (rw [rl_u_s]; done) | (rw [rl_u_s]; rfl) | rw [rl_u_n (by first | with_reducible assumption | omega)])⟩, ⟨tu, by repeat (first | with_reducible assumption | (rw [rl_u_s]; done) | (rw [rl_u_s]; rfl) | rw [rl_u_n (by first | with_reducible assumption | omega)]), b13⟩, ⟨im, by repeat (first | with_reducible assumption | (rw [rl_u_s]; done) | (rw [rl_u_s]; rfl) | rw [rl_u_n (by first | with_reducible assumption | omega)])⟩, ⟨te, by repeat (first | with_reducible assumption | (rw [rl_u_s]; done) | (rw [rl_u_s]; rfl) | rw [rl_u_n (by first | with_reducible assumption | omega)]), b15⟩, ⟨ne, by repeat (first | with_reducible assumption | (rw [rl_u_s]; done) | (rw [rl_u_s]; rfl) | rw [rl_u_n (by first | with_reducible assumption | omega)])⟩, ⟨la, by repeat (first | with_reducible assumption | (rw [rl_u_s]; done) | (rw [rl_u_s]; rfl) | rw [rl_u_n (by first | with_reducible assumption | omega)])⟩, ⟨hn, by repeat (first | with_reducible assumption | (rw [rl_u_s]; done) | (rw [rl_u_s]; rfl) | rw [rl_u_n (by first | with_reducible assumption | omega)])⟩, ⟨hl, by repeat (first | with_reducible assumption | (rw [rl_u_s]; done) | (rw [rl_u_s]; rfl) | rw [rl_u_n (by first | with_reducible assumption | omega)])⟩, ⟨tp, by repeat (first | with_reducible assumption | (rw [rl_u_s]; done) | (rw [rl_u_s]; rfl) | rw [rl_u_n (by first | with_reducible assumption | omega)])⟩, ⟨gr, by repeat (first | with_reducible assumption | (rw [rl_u_s]; done) | (rw [rl_u_s]; rfl) | rw [rl_u_n (by first | with_reducible assumption | omega)]), b21⟩, ⟨it, by repeat (first | with_reducible assumption | (rw [rl_u_s]; done) | (rw [rl_u_s]; rfl) | rw [rl_u_n (by first | with_reducible assumption | omega)])⟩⟩, fun _ _ _ => rfl⟩, ⟨by repeat (first | with_reducible assumption | (rw [rl_u_s]; done) | (rw [rl_u_s]; rfl) | rw [rl_u_n (by first | with_reducible assumption | omega)]), by repeat (first | with_reducible assumption | (rw [rl_u_s]; done) | (rw [rl_u_s]; rfl) | rw [rl_u_n (by first | with_reducible assumption | omega)]), by repeat (first | with_reducible assumption | (rw [rl_u_s]; done) | (rw [rl_u_s]; rfl) | rw [rl_u_n (by first | with_reducible assumption | omega)]), by repeat (first | with_reducible assumption | (rw [rl_u_s]; done) | (rw [rl_u_s]; rfl) | rw [rl_u_n (by first | with_reducible assumption | omega)]), by repeat (first | with_reducible assumption | (rw [rl_u_s]; done) | (rw [rl_u_s]; rfl) | rw [rl_u_n (by first | with_reducible assumption | omega)]), by repeat (first | with_reducible assumption | (rw [rl_u_s]; done) | (rw [rl_u_s]; rfl) | rw [rl_u_n (by first | with_reducible assumption | omega)]), by repeat (first | with_reducible assumption | (rw [rl_u_s]; done) | (rw [rl_u_s]; rfl) | rw [rl_u_n (by first | with_reducible assumption | omega)]), by repeat (first | with_reducible assumption | (rw [rl_u_s]; done) | (rw [rl_u_s]; rfl) | rw [rl_u_n (by first | with_reducible assumption | omega)]), by repeat (first | with_reducible assumption | (rw [rl_u_s]; done) | (rw [rl_u_s]; rfl) | rw [rl_u_n (by first | with_reducible assumption | omega)]), by repeat (first | with_reducible assumption | (rw [rl_u_s]; done) | (rw [rl_u_s]; rfl) | rw [rl_u_n (by first | with_reducible assumption | omega)]), by repeat (first | with_reducible assumption | (rw [rl_u_s]; done) | (rw [rl_u_s]; rfl) | rw [rl_u_n (by first | with_reducible assumption | omega)])⟩, ⟨hsc, hsc4⟩, hwf, ⟨hrr, hr36⟩, ⟨hnc, hn16⟩, hnw, e1.symm, hnv, hwv, ⟨wrc, hrc6, hrc⟩⟩), (by rw [e]; exact e2.symm), fun q hq => by repeat (first | rfl | rw [rl_u_n (by omega)])⟩)
            | exact absurd (c_71.trans c_40) (by decide +kernel)
            | exact absurd c_40.symm c_71
          · refine o_iconst (v := nI 0) hC dX8_drop_74 (by decide +kernel) ?_
            refine o_goto (tgt := 79) hC dX8_drop_75 (by decide) ?_
            refine o_iret hC hB dX8_drop_79 (Nat.le_of_ble_eq_true rfl) (Nat.le_of_ble_eq_true rfl) ?_
            first
            | (have e1 : dp_pr z.2.2.2.2.2 (nI r) on = z.2.2.2.2.2 ||| (1 : Int64) <<< ((nI r).toInt64 &&& 63) := if_pos c_40; have e : sh_drop z (nI r) on = (if dp_pr z.2.2.2.2.2 (nI r) on = z.2.2.2.2.2 then nI 0 else nI 1, (z.1, z.2.1, z.2.2.1, z.2.2.2.1, z.2.2.2.2.1, dp_pr z.2.2.2.2.2 (nI r) on)) := (if_neg (fun e => e.elim c_6 (fun e => absurd c_14 (Int32.not_lt.mpr e)))); have e2 : (if dp_pr z.2.2.2.2.2 (nI r) on = z.2.2.2.2.2 then nI 0 else nI 1) = nI 1 := (by rw [e1]; exact md_drA r36 c_29); exact ⟨_, rfl, rfl, (by rw [e]; exact ⟨(nI 0, T.2.1, T.2.2.1, z.2.2.2.2.2 ||| (1 : Int64) <<< ((nI r).toInt64 &&& 63), T.2.2.2.2), fu, k, S, ⟨by repeat (first | with_reducible assumption | (rw [rl_u_s]; done) | (rw [rl_u_s]; rfl) | rw [rl_u_n (by first | with_reducible assumption | omega)]), gk, ⟨⟨cl, by repeat (first | with_reducible assumption | (rw [rl_u_s]; done) | (rw [rl_u_s]; rfl) | rw [rl_u_n (by first | with_reducible assumption | omega)])⟩, ⟨tu, by repeat (first | with_reducible assumption | (rw [rl_u_s]; done) | (rw [rl_u_s]; rfl) | rw [rl_u_n (by first | with_reducible assumption | omega)]), b13⟩, ⟨im, by repeat (first | with_reducible assumption | (rw [rl_u_s]; done) | (rw [rl_u_s]; rfl) | rw [rl_u_n (by first | with_reducible assumption | omega)])⟩, ⟨te, by repeat (first | with_reducible assumption | (rw [rl_u_s]; done) | (rw [rl_u_s]; rfl) | rw [rl_u_n (by first | with_reducible assumption | omega)]), b15⟩, ⟨ne, by repeat (first | with_reducible assumption | (rw [rl_u_s]; done) | (rw [rl_u_s]; rfl) | rw [rl_u_n (by first | with_reducible assumption | omega)])⟩, ⟨la, by repeat (first | with_reducible assumption | (rw [rl_u_s]; done) | (rw [rl_u_s]; rfl) | rw [rl_u_n (by first | with_reducible assumption | omega)])⟩, ⟨hn, by repeat (first | with_reducible assumption | (rw [rl_u_s]; done) | (rw [rl_u_s]; rfl) | rw [rl_u_n (by first | with_reducible assumption | omega)])⟩, ⟨hl, by repeat (first | with_reducible assumption | (rw [rl_u_s]; done) | (rw [rl_u_s]; rfl) | rw [rl_u_n (by first | with_reducible assumption | omega)])⟩, ⟨tp, by repeat (first | with_reducible assumption | (rw [rl_u_s]; done) | (rw [rl_u_s]; rfl) | rw [rl_u_n (by first | with_reducible assumption | omega)])⟩, ⟨gr, by repeat (first | with_reducible assumption | (rw [rl_u_s]; done) | (rw [rl_u_s]; rfl) | rw [rl_u_n (by first | with_reducible assumption | omega)]), b21⟩, ⟨it, by repeat (first | with_reducible assumption | (rw [rl_u_s]; done) | (rw [rl_u_s]; rfl) | rw [rl_u_n (by first | with_reducible assumption | omega)])⟩⟩, fun _ _ _ => rfl⟩, ⟨by repeat (first | with_reducible assumption | (rw [rl_u_s]; done) | (rw [rl_u_s]; rfl) | rw [rl_u_n (by first | with_reducible assumption | omega)]), by repeat (first | with_reducible assumption | (rw [rl_u_s]; done) | (rw [rl_u_s]; rfl) | rw [rl_u_n (by first | with_reducible assumption | omega)]), by repeat (first | with_reducible assumption | (rw [rl_u_s]; done) | (rw [rl_u_s]; rfl) | rw [rl_u_n (by first | with_reducible assumption | omega)]), by repeat (first | with_reducible assumption | (rw [rl_u_s]; done) | (rw [rl_u_s]; rfl) | rw [rl_u_n (by first | with_reducible assumption | omega)]), by repeat (first | with_reducible assumption | (rw [rl_u_s]; done) | (rw [rl_u_s]; rfl) | rw [rl_u_n (by first | with_reducible assumption | omega)]), by repeat (first | with_reducible assumption | (rw [rl_u_s]; done) | (rw [rl_u_s]; rfl) | rw [rl_u_n (by first | with_reducible assumption | omega)]), by repeat (first | with_reducible assumption | (rw [rl_u_s]; done) | (rw [rl_u_s]; rfl) | rw [rl_u_n (by first | with_reducible assumption | omega)]), by repeat (first | with_reducible assumption | (rw [rl_u_s]; done) | (rw [rl_u_s]; rfl) | rw [rl_u_n (by first | with_reducible assumption | omega)]), by repeat (first | with_reducible assumption | (rw [rl_u_s]; done) | (rw [rl_u_s]; rfl) | rw [rl_u_n (by first | with_reducible assumption | omega)]), by repeat (first | with_reducible assumption | (rw [rl_u_s]; done) | (rw [rl_u_s]; rfl) | rw [rl_u_n (by first | with_reducible assumption | omega)]), by repeat (first | with_reducible assumption | (rw [rl_u_s]; done) | (rw [rl_u_s]; rfl) | rw [rl_u_n (by first | with_reducible assumption | omega)])⟩, ⟨hsc, hsc4⟩, hwf, ⟨hrr, hr36⟩, ⟨hnc, hn16⟩, hnw, e1.symm, hnv, hwv, ⟨wrc, hrc6, hrc⟩⟩), (by rw [e]; exact e2.symm), fun q hq => by repeat (first | rfl | rw [rl_u_n (by omega)])⟩)
            | (have e1 : dp_pr z.2.2.2.2.2 (nI r) on = z.2.2.2.2.2 ||| (1 : Int64) <<< ((nI r).toInt64 &&& 63) := if_pos c_40; have e : sh_drop z (nI r) on = (if dp_pr z.2.2.2.2.2 (nI r) on = z.2.2.2.2.2 then nI 0 else nI 1, (z.1, z.2.1, z.2.2.1, z.2.2.2.1, z.2.2.2.2.1, dp_pr z.2.2.2.2.2 (nI r) on)) := (if_neg (fun e => e.elim c_6 (fun e => absurd c_14 (Int32.not_lt.mpr e)))); have e2 : (if dp_pr z.2.2.2.2.2 (nI r) on = z.2.2.2.2.2 then nI 0 else nI 1) = nI 0 := (by rw [e1]; exact md_drB r36 c_29); exact ⟨_, rfl, rfl, (by rw [e]; exact ⟨(nI 0, T.2.1, T.2.2.1, z.2.2.2.2.2 ||| (1 : Int64) <<< ((nI r).toInt64 &&& 63), T.2.2.2.2), fu, k, S, ⟨by repeat (first | with_reducible assumption | (rw [rl_u_s]; done) | (rw [rl_u_s]; rfl) | rw [rl_u_n (by first | with_reducible assumption | omega)]), gk, ⟨⟨cl, by repeat (first | with_reducible assumption | (rw [rl_u_s]; done) | (rw [rl_u_s]; rfl) | rw [rl_u_n (by first | with_reducible assumption | omega)])⟩, ⟨tu, by repeat (first | with_reducible assumption | (rw [rl_u_s]; done) | (rw [rl_u_s]; rfl) | rw [rl_u_n (by first | with_reducible assumption | omega)]), b13⟩, ⟨im, by repeat (first | with_reducible assumption | (rw [rl_u_s]; done) | (rw [rl_u_s]; rfl) | rw [rl_u_n (by first | with_reducible assumption | omega)])⟩, ⟨te, by repeat (first | with_reducible assumption | (rw [rl_u_s]; done) | (rw [rl_u_s]; rfl) | rw [rl_u_n (by first | with_reducible assumption | omega)]), b15⟩, ⟨ne, by repeat (first | with_reducible assumption | (rw [rl_u_s]; done) | (rw [rl_u_s]; rfl) | rw [rl_u_n (by first | with_reducible assumption | omega)])⟩, ⟨la, by repeat (first | with_reducible assumption | (rw [rl_u_s]; done) | (rw [rl_u_s]; rfl) | rw [rl_u_n (by first | with_reducible assumption | omega)])⟩, ⟨hn, by repeat (first | with_reducible assumption | (rw [rl_u_s]; done) | (rw [rl_u_s]; rfl) | rw [rl_u_n (by first | with_reducible assumption | omega)])⟩, ⟨hl, by repeat (first | with_reducible assumption | (rw [rl_u_s]; done) | (rw [rl_u_s]; rfl) | rw [rl_u_n (by first | with_reducible assumption | omega)])⟩, ⟨tp, by repeat (first | with_reducible assumption | (rw [rl_u_s]; done) | (rw [rl_u_s]; rfl) | rw [rl_u_n (by first | with_reducible assumption | omega)])⟩, ⟨gr, by repeat (first | with_reducible assumption | (rw [rl_u_s]; done) | (rw [rl_u_s]; rfl) | rw [rl_u_n (by first | with_reducible assumption | omega)]), b21⟩, ⟨it, by repeat (first | with_reducible assumption | (rw [rl_u_s]; done) | (rw [rl_u_s]; rfl) | rw [rl_u_n (by first | with_reducible assumption | omega)])⟩⟩, fun _ _ _ => rfl⟩, ⟨by repeat (first | with_reducible assumption | (rw [rl_u_s]; done) | (rw [rl_u_s]; rfl) | rw [rl_u_n (by first | with_reducible assumption | omega)]), by repeat (first | with_reducible assumption | (rw [rl_u_s]; done) | (rw [rl_u_s]; rfl) | rw [rl_u_n (by first | with_reducible assumption | omega)]), by repeat (first | with_reducible assumption | (rw [rl_u_s]; done) | (rw [rl_u_s]; rfl) | rw [rl_u_n (by first | with_reducible assumption | omega)]), by repeat (first | with_reducible assumption | (rw [rl_u_s]; done) | (rw [rl_u_s]; rfl) | rw [rl_u_n (by first | with_reducible assumption | omega)]), by repeat (first | with_reducible assumption | (rw [rl_u_s]; done) | (rw [rl_u_s]; rfl) | rw [rl_u_n (by first | with_reducible assumption | omega)]), by repeat (first | with_reducible assumption | (rw [rl_u_s]; done) | (rw [rl_u_s]; rfl) | rw [rl_u_n (by first | with_reducible assumption | omega)]), by repeat (first | with_reducible assumption | (rw [rl_u_s]; done) | (rw [rl_u_s]; rfl) | rw [rl_u_n (by first | with_reducible assumption | omega)]), by repeat (first | with_reducible assumption | (rw [rl_u_s]; done) | (rw [rl_u_s]; rfl) | rw [rl_u_n (by first | with_reducible assumption | omega)]), by repeat (first | with_reducible assumption | (rw [rl_u_s]; done) | (rw [rl_u_s]; rfl) | rw [rl_u_n (by first | with_reducible assumption | omega)]), by repeat (first | with_reducible assumption | (rw [rl_u_s]; done) | (rw [rl_u_s]; rfl) | rw [rl_u_n (by first | with_reducible assumption | omega)]), by repeat (first | with_reducible assumption | (rw [rl_u_s]; done) | (rw [rl_u_s]; rfl) | rw [rl_u_n (by first | with_reducible assumption | omega)])⟩, ⟨hsc, hsc4⟩, hwf, ⟨hrr, hr36⟩, ⟨hnc, hn16⟩, hnw, e1.symm, hnv, hwv, ⟨wrc, hrc6, hrc⟩⟩), (by rw [e]; exact e2.symm), fun q hq => by repeat (first | rfl | rw [rl_u_n (by omega)])⟩)
            | exact absurd (c_71.trans c_40) (by decide +kernel)
            | exact absurd c_40.symm c_71
        · obtain rfl := hon.resolve_left c_40
          refine o_aload_n hC dX8_drop_43 (by rfl) ?_
          refine o_getf (v := .long z.2.2.2.2.2) hC (fX8_115 hC rfl) dX8_drop_44 (by repeat (first | with_reducible assumption | (rw [rl_u_s]; done) | (rw [rl_u_s]; rfl) | rw [rl_u_n (by first | with_reducible assumption | omega)])) (by rw [← hpr]; rfl) ?_
          refine o_lconst (v := 1) hC dX8_drop_47 (by decide +kernel) ?_
          refine o_iload_n hC dX8_drop_48 (by rfl) ?_
          refine o_lshl hC dX8_drop_49 ?_
          refine o_ldc2 hC nX8_85 dX8_drop_50 ?_
          refine o_lxor hC dX8_drop_53 ?_
          refine o_land hC dX8_drop_54 ?_
          refine o_goto (tgt := 66) hC dX8_drop_55 (by decide) ?_
          refine o_putf hC (fX8_115 hC rfl) (fwX8 rfl rfl rfl (Or.inl rfl)) dX8_drop_66 (by repeat (first | with_reducible assumption | (rw [rl_u_s]; done) | (rw [rl_u_s]; rfl) | rw [rl_u_n (by first | with_reducible assumption | omega)])) (Nat.le_of_ble_eq_true rfl) ?_
          try simp only [List.set_cons_zero, List.set_cons_succ]
          refine o_iload_n hC dX8_drop_69 (by rfl) ?_
          refine o_iload_n hC dX8_drop_70 (by rfl) ?_
          refine o_icmp_ne (tgt := 78) hC dX8_drop_71 (by decide) (fun c_71 => ?_) (fun c_71 => ?_)
          · refine o_iconst (v := nI 1) hC dX8_drop_78 (by decide +kernel) ?_
            refine o_iret hC hB dX8_drop_79 (Nat.le_of_ble_eq_true rfl) (Nat.le_of_ble_eq_true rfl) ?_
            first
            | (have e1 : dp_pr z.2.2.2.2.2 (nI r) (nI 1) = z.2.2.2.2.2 &&& ((1 : Int64) <<< ((nI r).toInt64 &&& 63) ^^^ (-1)) := if_neg (by decide +kernel); have e : sh_drop z (nI r) (nI 1) = (if dp_pr z.2.2.2.2.2 (nI r) (nI 1) = z.2.2.2.2.2 then nI 0 else nI 1, (z.1, z.2.1, z.2.2.1, z.2.2.2.1, z.2.2.2.2.1, dp_pr z.2.2.2.2.2 (nI r) (nI 1))) := (if_neg (fun e => e.elim c_6 (fun e => absurd c_14 (Int32.not_lt.mpr e)))); have e2 : (if dp_pr z.2.2.2.2.2 (nI r) (nI 1) = z.2.2.2.2.2 then nI 0 else nI 1) = nI 0 := (by rw [e1]; exact md_drC r36 c_29); exact ⟨_, rfl, rfl, (by rw [e]; exact ⟨(nI 0, T.2.1, T.2.2.1, z.2.2.2.2.2 &&& ((1 : Int64) <<< ((nI r).toInt64 &&& 63) ^^^ (-1)), T.2.2.2.2), fu, k, S, ⟨by repeat (first | with_reducible assumption | (rw [rl_u_s]; done) | (rw [rl_u_s]; rfl) | rw [rl_u_n (by first | with_reducible assumption | omega)]), gk, ⟨⟨cl, by repeat (first | with_reducible assumption | (rw [rl_u_s]; done) | (rw [rl_u_s]; rfl) | rw [rl_u_n (by first | with_reducible assumption | omega)])⟩, ⟨tu, by repeat (first | with_reducible assumption | (rw [rl_u_s]; done) | (rw [rl_u_s]; rfl) | rw [rl_u_n (by first | with_reducible assumption | omega)]), b13⟩, ⟨im, by repeat (first | with_reducible assumption | (rw [rl_u_s]; done) | (rw [rl_u_s]; rfl) | rw [rl_u_n (by first | with_reducible assumption | omega)])⟩, ⟨te, by repeat (first | with_reducible assumption | (rw [rl_u_s]; done) | (rw [rl_u_s]; rfl) | rw [rl_u_n (by first | with_reducible assumption | omega)]), b15⟩, ⟨ne, by repeat (first | with_reducible assumption | (rw [rl_u_s]; done) | (rw [rl_u_s]; rfl) | rw [rl_u_n (by first | with_reducible assumption | omega)])⟩, ⟨la, by repeat (first | with_reducible assumption | (rw [rl_u_s]; done) | (rw [rl_u_s]; rfl) | rw [rl_u_n (by first | with_reducible assumption | omega)])⟩, ⟨hn, by repeat (first | with_reducible assumption | (rw [rl_u_s]; done) | (rw [rl_u_s]; rfl) | rw [rl_u_n (by first | with_reducible assumption | omega)])⟩, ⟨hl, by repeat (first | with_reducible assumption | (rw [rl_u_s]; done) | (rw [rl_u_s]; rfl) | rw [rl_u_n (by first | with_reducible assumption | omega)])⟩, ⟨tp, by repeat (first | with_reducible assumption | (rw [rl_u_s]; done) | (rw [rl_u_s]; rfl) | rw [rl_u_n (by first | with_reducible assumption | omega)])⟩, ⟨gr, by repeat (first | with_reducible assumption | (rw [rl_u_s]; done) | (rw [rl_u_s]; rfl) | rw [rl_u_n (by first | with_reducible assumption | omega)]), b21⟩, ⟨it, by repeat (first | with_reducible assumption | (rw [rl_u_s]; done) | (rw [rl_u_s]; rfl) | rw [rl_u_n (by first | with_reducible assumption | omega)])⟩⟩, fun _ _ _ => rfl⟩, ⟨by repeat (first | with_reducible assumption | (rw [rl_u_s]; done) | (rw [rl_u_s]; rfl) | rw [rl_u_n (by first | with_reducible assumption | omega)]), by repeat (first | with_reducible assumption | (rw [rl_u_s]; done) | (rw [rl_u_s]; rfl) | rw [rl_u_n (by first | with_reducible assumption | omega)]), by repeat (first | with_reducible assumption | (rw [rl_u_s]; done) | (rw [rl_u_s]; rfl) | rw [rl_u_n (by first | with_reducible assumption | omega)]), by repeat (first | with_reducible assumption | (rw [rl_u_s]; done) | (rw [rl_u_s]; rfl) | rw [rl_u_n (by first | with_reducible assumption | omega)]), by repeat (first | with_reducible assumption | (rw [rl_u_s]; done) | (rw [rl_u_s]; rfl) | rw [rl_u_n (by first | with_reducible assumption | omega)]), by repeat (first | with_reducible assumption | (rw [rl_u_s]; done) | (rw [rl_u_s]; rfl) | rw [rl_u_n (by first | with_reducible assumption | omega)]), by repeat (first | with_reducible assumption | (rw [rl_u_s]; done) | (rw [rl_u_s]; rfl) | rw [rl_u_n (by first | with_reducible assumption | omega)]), by repeat (first | with_reducible assumption | (rw [rl_u_s]; done) | (rw [rl_u_s]; rfl) | rw [rl_u_n (by first | with_reducible assumption | omega)]), by repeat (first | with_reducible assumption | (rw [rl_u_s]; done) | (rw [rl_u_s]; rfl) | rw [rl_u_n (by first | with_reducible assumption | omega)]), by repeat (first | with_reducible assumption | (rw [rl_u_s]; done) | (rw [rl_u_s]; rfl) | rw [rl_u_n (by first | with_reducible assumption | omega)]), by repeat (first | with_reducible assumption | (rw [rl_u_s]; done) | (rw [rl_u_s]; rfl) | rw [rl_u_n (by first | with_reducible assumption | omega)])⟩, ⟨hsc, hsc4⟩, hwf, ⟨hrr, hr36⟩, ⟨hnc, hn16⟩, hnw, e1.symm, hnv, hwv, ⟨wrc, hrc6, hrc⟩⟩), (by rw [e]; exact e2.symm), fun q hq => by repeat (first | rfl | rw [rl_u_n (by omega)])⟩)
            | (have e1 : dp_pr z.2.2.2.2.2 (nI r) (nI 1) = z.2.2.2.2.2 &&& ((1 : Int64) <<< ((nI r).toInt64 &&& 63) ^^^ (-1)) := if_neg (by decide +kernel); have e : sh_drop z (nI r) (nI 1) = (if dp_pr z.2.2.2.2.2 (nI r) (nI 1) = z.2.2.2.2.2 then nI 0 else nI 1, (z.1, z.2.1, z.2.2.1, z.2.2.2.1, z.2.2.2.2.1, dp_pr z.2.2.2.2.2 (nI r) (nI 1))) := (if_neg (fun e => e.elim c_6 (fun e => absurd c_14 (Int32.not_lt.mpr e)))); have e2 : (if dp_pr z.2.2.2.2.2 (nI r) (nI 1) = z.2.2.2.2.2 then nI 0 else nI 1) = nI 1 := (by rw [e1]; exact md_drD r36 c_29); exact ⟨_, rfl, rfl, (by rw [e]; exact ⟨(nI 0, T.2.1, T.2.2.1, z.2.2.2.2.2 &&& ((1 : Int64) <<< ((nI r).toInt64 &&& 63) ^^^ (-1)), T.2.2.2.2), fu, k, S, ⟨by repeat (first | with_reducible assumption | (rw [rl_u_s]; done) | (rw [rl_u_s]; rfl) | rw [rl_u_n (by first | with_reducible assumption | omega)]), gk, ⟨⟨cl, by repeat (first | with_reducible assumption | (rw [rl_u_s]; done) | (rw [rl_u_s]; rfl) | rw [rl_u_n (by first | with_reducible assumption | omega)])⟩, ⟨tu, by repeat (first | with_reducible assumption | (rw [rl_u_s]; done) | (rw [rl_u_s]; rfl) | rw [rl_u_n (by first | with_reducible assumption | omega)]), b13⟩, ⟨im, by repeat (first | with_reducible assumption | (rw [rl_u_s]; done) | (rw [rl_u_s]; rfl) | rw [rl_u_n (by first | with_reducible assumption | omega)])⟩, ⟨te, by repeat (first | with_reducible assumption | (rw [rl_u_s]; done) | (rw [rl_u_s]; rfl) | rw [rl_u_n (by first | with_reducible assumption | omega)]), b15⟩, ⟨ne, by repeat (first | with_reducible assumption | (rw [rl_u_s]; done) | (rw [rl_u_s]; rfl) | rw [rl_u_n (by first | with_reducible assumption | omega)])⟩, ⟨la, by repeat (first | with_reducible assumption | (rw [rl_u_s]; done) | (rw [rl_u_s]; rfl) | rw [rl_u_n (by first | with_reducible assumption | omega)])⟩, ⟨hn, by repeat (first | with_reducible assumption | (rw [rl_u_s]; done) | (rw [rl_u_s]; rfl) | rw [rl_u_n (by first | with_reducible assumption | omega)])⟩, ⟨hl, by repeat (first | with_reducible assumption | (rw [rl_u_s]; done) | (rw [rl_u_s]; rfl) | rw [rl_u_n (by first | with_reducible assumption | omega)])⟩, ⟨tp, by repeat (first | with_reducible assumption | (rw [rl_u_s]; done) | (rw [rl_u_s]; rfl) | rw [rl_u_n (by first | with_reducible assumption | omega)])⟩, ⟨gr, by repeat (first | with_reducible assumption | (rw [rl_u_s]; done) | (rw [rl_u_s]; rfl) | rw [rl_u_n (by first | with_reducible assumption | omega)]), b21⟩, ⟨it, by repeat (first | with_reducible assumption | (rw [rl_u_s]; done) | (rw [rl_u_s]; rfl) | rw [rl_u_n (by first | with_reducible assumption | omega)])⟩⟩, fun _ _ _ => rfl⟩, ⟨by repeat (first | with_reducible assumption | (rw [rl_u_s]; done) | (rw [rl_u_s]; rfl) | rw [rl_u_n (by first | with_reducible assumption | omega)]), by repeat (first | with_reducible assumption | (rw [rl_u_s]; done) | (rw [rl_u_s]; rfl) | rw [rl_u_n (by first | with_reducible assumption | omega)]), by repeat (first | with_reducible assumption | (rw [rl_u_s]; done) | (rw [rl_u_s]; rfl) | rw [rl_u_n (by first | with_reducible assumption | omega)]), by repeat (first | with_reducible assumption | (rw [rl_u_s]; done) | (rw [rl_u_s]; rfl) | rw [rl_u_n (by first | with_reducible assumption | omega)]), by repeat (first | with_reducible assumption | (rw [rl_u_s]; done) | (rw [rl_u_s]; rfl) | rw [rl_u_n (by first | with_reducible assumption | omega)]), by repeat (first | with_reducible assumption | (rw [rl_u_s]; done) | (rw [rl_u_s]; rfl) | rw [rl_u_n (by first | with_reducible assumption | omega)]), by repeat (first | with_reducible assumption | (rw [rl_u_s]; done) | (rw [rl_u_s]; rfl) | rw [rl_u_n (by first | with_reducible assumption | omega)]), by repeat (first | with_reducible assumption | (rw [rl_u_s]; done) | (rw [rl_u_s]; rfl) | rw [rl_u_n (by first | with_reducible assumption | omega)]), by repeat (first | with_reducible assumption | (rw [rl_u_s]; done) | (rw [rl_u_s]; rfl) | rw [rl_u_n (by first | with_reducible assumption | omega)]), by repeat (first | with_reducible assumption | (rw [rl_u_s]; done) | (rw [rl_u_s]; rfl) | rw [rl_u_n (by first | with_reducible assumption | omega)]), by repeat (first | with_reducible assumption | (rw [rl_u_s]; done) | (rw [rl_u_s]; rfl) | rw [rl_u_n (by first | with_reducible assumption | omega)])⟩, ⟨hsc, hsc4⟩, hwf, ⟨hrr, hr36⟩, ⟨hnc, hn16⟩, hnw, e1.symm, hnv, hwv, ⟨wrc, hrc6, hrc⟩⟩), (by rw [e]; exact e2.symm), fun q hq => by repeat (first | rfl | rw [rl_u_n (by omega)])⟩)
            | exact absurd rfl c_71
            | exact absurd c_71 (by decide +kernel)
          · refine o_iconst (v := nI 0) hC dX8_drop_74 (by decide +kernel) ?_
            refine o_goto (tgt := 79) hC dX8_drop_75 (by decide) ?_
            refine o_iret hC hB dX8_drop_79 (Nat.le_of_ble_eq_true rfl) (Nat.le_of_ble_eq_true rfl) ?_
            first
            | (have e1 : dp_pr z.2.2.2.2.2 (nI r) (nI 1) = z.2.2.2.2.2 &&& ((1 : Int64) <<< ((nI r).toInt64 &&& 63) ^^^ (-1)) := if_neg (by decide +kernel); have e : sh_drop z (nI r) (nI 1) = (if dp_pr z.2.2.2.2.2 (nI r) (nI 1) = z.2.2.2.2.2 then nI 0 else nI 1, (z.1, z.2.1, z.2.2.1, z.2.2.2.1, z.2.2.2.2.1, dp_pr z.2.2.2.2.2 (nI r) (nI 1))) := (if_neg (fun e => e.elim c_6 (fun e => absurd c_14 (Int32.not_lt.mpr e)))); have e2 : (if dp_pr z.2.2.2.2.2 (nI r) (nI 1) = z.2.2.2.2.2 then nI 0 else nI 1) = nI 0 := (by rw [e1]; exact md_drC r36 c_29); exact ⟨_, rfl, rfl, (by rw [e]; exact ⟨(nI 0, T.2.1, T.2.2.1, z.2.2.2.2.2 &&& ((1 : Int64) <<< ((nI r).toInt64 &&& 63) ^^^ (-1)), T.2.2.2.2), fu, k, S, ⟨by repeat (first | with_reducible assumption | (rw [rl_u_s]; done) | (rw [rl_u_s]; rfl) | rw [rl_u_n (by first | with_reducible assumption | omega)]), gk, ⟨⟨cl, by repeat (first | with_reducible assumption | (rw [rl_u_s]; done) | (rw [rl_u_s]; rfl) | rw [rl_u_n (by first | with_reducible assumption | omega)])⟩, ⟨tu, by repeat (first | with_reducible assumption | (rw [rl_u_s]; done) | (rw [rl_u_s]; rfl) | rw [rl_u_n (by first | with_reducible assumption | omega)]), b13⟩, ⟨im, by repeat (first | with_reducible assumption | (rw [rl_u_s]; done) | (rw [rl_u_s]; rfl) | rw [rl_u_n (by first | with_reducible assumption | omega)])⟩, ⟨te, by repeat (first | with_reducible assumption | (rw [rl_u_s]; done) | (rw [rl_u_s]; rfl) | rw [rl_u_n (by first | with_reducible assumption | omega)]), b15⟩, ⟨ne, by repeat (first | with_reducible assumption | (rw [rl_u_s]; done) | (rw [rl_u_s]; rfl) | rw [rl_u_n (by first | with_reducible assumption | omega)])⟩, ⟨la, by repeat (first | with_reducible assumption | (rw [rl_u_s]; done) | (rw [rl_u_s]; rfl) | rw [rl_u_n (by first | with_reducible assumption | omega)])⟩, ⟨hn, by repeat (first | with_reducible assumption | (rw [rl_u_s]; done) | (rw [rl_u_s]; rfl) | rw [rl_u_n (by first | with_reducible assumption | omega)])⟩, ⟨hl, by repeat (first | with_reducible assumption | (rw [rl_u_s]; done) | (rw [rl_u_s]; rfl) | rw [rl_u_n (by first | with_reducible assumption | omega)])⟩, ⟨tp, by repeat (first | with_reducible assumption | (rw [rl_u_s]; done) | (rw [rl_u_s]; rfl) | rw [rl_u_n (by first | with_reducible assumption | omega)])⟩, ⟨gr, by repeat (first | with_reducible assumption | (rw [rl_u_s]; done) | (rw [rl_u_s]; rfl) | rw [rl_u_n (by first | with_reducible assumption | omega)]), b21⟩, ⟨it, by repeat (first | with_reducible assumption | (rw [rl_u_s]; done) | (rw [rl_u_s]; rfl) | rw [rl_u_n (by first | with_reducible assumption | omega)])⟩⟩, fun _ _ _ => rfl⟩, ⟨by repeat (first | with_reducible assumption | (rw [rl_u_s]; done) | (rw [rl_u_s]; rfl) | rw [rl_u_n (by first | with_reducible assumption | omega)]), by repeat (first | with_reducible assumption | (rw [rl_u_s]; done) | (rw [rl_u_s]; rfl) | rw [rl_u_n (by first | with_reducible assumption | omega)]), by repeat (first | with_reducible assumption | (rw [rl_u_s]; done) | (rw [rl_u_s]; rfl) | rw [rl_u_n (by first | with_reducible assumption | omega)]), by repeat (first | with_reducible assumption | (rw [rl_u_s]; done) | (rw [rl_u_s]; rfl) | rw [rl_u_n (by first | with_reducible assumption | omega)]), by repeat (first | with_reducible assumption | (rw [rl_u_s]; done) | (rw [rl_u_s]; rfl) | rw [rl_u_n (by first | with_reducible assumption | omega)]), by repeat (first | with_reducible assumption | (rw [rl_u_s]; done) | (rw [rl_u_s]; rfl) | rw [rl_u_n (by first | with_reducible assumption | omega)]), by repeat (first | with_reducible assumption | (rw [rl_u_s]; done) | (rw [rl_u_s]; rfl) | rw [rl_u_n (by first | with_reducible assumption | omega)]), by repeat (first | with_reducible assumption | (rw [rl_u_s]; done) | (rw [rl_u_s]; rfl) | rw [rl_u_n (by first | with_reducible assumption | omega)]), by repeat (first | with_reducible assumption | (rw [rl_u_s]; done) | (rw [rl_u_s]; rfl) | rw [rl_u_n (by first | with_reducible assumption | omega)]), by repeat (first | with_reducible assumption | (rw [rl_u_s]; done) | (rw [rl_u_s]; rfl) | rw [rl_u_n (by first | with_reducible assumption | omega)]), by repeat (first | with_reducible assumption | (rw [rl_u_s]; done) | (rw [rl_u_s]; rfl) | rw [rl_u_n (by first | with_reducible assumption | omega)])⟩, ⟨hsc, hsc4⟩, hwf, ⟨hrr, hr36⟩, ⟨hnc, hn16⟩, hnw, e1.symm, hnv, hwv, ⟨wrc, hrc6, hrc⟩⟩), (by rw [e]; exact e2.symm), fun q hq => by repeat (first | rfl | rw [rl_u_n (by omega)])⟩)
            | (have e1 : dp_pr z.2.2.2.2.2 (nI r) (nI 1) = z.2.2.2.2.2 &&& ((1 : Int64) <<< ((nI r).toInt64 &&& 63) ^^^ (-1)) := if_neg (by decide +kernel); have e : sh_drop z (nI r) (nI 1) = (if dp_pr z.2.2.2.2.2 (nI r) (nI 1) = z.2.2.2.2.2 then nI 0 else nI 1, (z.1, z.2.1, z.2.2.1, z.2.2.2.1, z.2.2.2.2.1, dp_pr z.2.2.2.2.2 (nI r) (nI 1))) := (if_neg (fun e => e.elim c_6 (fun e => absurd c_14 (Int32.not_lt.mpr e)))); have e2 : (if dp_pr z.2.2.2.2.2 (nI r) (nI 1) = z.2.2.2.2.2 then nI 0 else nI 1) = nI 1 := (by rw [e1]; exact md_drD r36 c_29); exact ⟨_, rfl, rfl, (by rw [e]; exact ⟨(nI 0, T.2.1, T.2.2.1, z.2.2.2.2.2 &&& ((1 : Int64) <<< ((nI r).toInt64 &&& 63) ^^^ (-1)), T.2.2.2.2), fu, k, S, ⟨by repeat (first | with_reducible assumption | (rw [rl_u_s]; done) | (rw [rl_u_s]; rfl) | rw [rl_u_n (by first | with_reducible assumption | omega)]), gk, ⟨⟨cl, by repeat (first | with_reducible assumption | (rw [rl_u_s]; done) | (rw [rl_u_s]; rfl) | rw [rl_u_n (by first | with_reducible assumption | omega)])⟩, ⟨tu, by repeat (first | with_reducible assumption | (rw [rl_u_s]; done) | (rw [rl_u_s]; rfl) | rw [rl_u_n (by first | with_reducible assumption | omega)]), b13⟩, ⟨im, by repeat (first | with_reducible assumption | (rw [rl_u_s]; done) | (rw [rl_u_s]; rfl) | rw [rl_u_n (by first | with_reducible assumption | omega)])⟩, ⟨te, by repeat (first | with_reducible assumption | (rw [rl_u_s]; done) | (rw [rl_u_s]; rfl) | rw [rl_u_n (by first | with_reducible assumption | omega)]), b15⟩, ⟨ne, by repeat (first | with_reducible assumption | (rw [rl_u_s]; done) | (rw [rl_u_s]; rfl) | rw [rl_u_n (by first | with_reducible assumption | omega)])⟩, ⟨la, by repeat (first | with_reducible assumption | (rw [rl_u_s]; done) | (rw [rl_u_s]; rfl) | rw [rl_u_n (by first | with_reducible assumption | omega)])⟩, ⟨hn, by repeat (first | with_reducible assumption | (rw [rl_u_s]; done) | (rw [rl_u_s]; rfl) | rw [rl_u_n (by first | with_reducible assumption | omega)])⟩, ⟨hl, by repeat (first | with_reducible assumption | (rw [rl_u_s]; done) | (rw [rl_u_s]; rfl) | rw [rl_u_n (by first | with_reducible assumption | omega)])⟩, ⟨tp, by repeat (first | with_reducible assumption | (rw [rl_u_s]; done) | (rw [rl_u_s]; rfl) | rw [rl_u_n (by first | with_reducible assumption | omega)])⟩, ⟨gr, by repeat (first | with_reducible assumption | (rw [rl_u_s]; done) | (rw [rl_u_s]; rfl) | rw [rl_u_n (by first | with_reducible assumption | omega)]), b21⟩, ⟨it, by repeat (first | with_reducible assumption | (rw [rl_u_s]; done) | (rw [rl_u_s]; rfl) | rw [rl_u_n (by first | with_reducible assumption | omega)])⟩⟩, fun _ _ _ => rfl⟩, ⟨by repeat (first | with_reducible assumption | (rw [rl_u_s]; done) | (rw [rl_u_s]; rfl) | rw [rl_u_n (by first | with_reducible assumption | omega)]), by repeat (first | with_reducible assumption | (rw [rl_u_s]; done) | (rw [rl_u_s]; rfl) | rw [rl_u_n (by first | with_reducible assumption | omega)]), by repeat (first | with_reducible assumption | (rw [rl_u_s]; done) | (rw [rl_u_s]; rfl) | rw [rl_u_n (by first | with_reducible assumption | omega)]), by repeat (first | with_reducible assumption | (rw [rl_u_s]; done) | (rw [rl_u_s]; rfl) | rw [rl_u_n (by first | with_reducible assumption | omega)]), by repeat (first | with_reducible assumption | (rw [rl_u_s]; done) | (rw [rl_u_s]; rfl) | rw [rl_u_n (by first | with_reducible assumption | omega)]), by repeat (first | with_reducible assumption | (rw [rl_u_s]; done) | (rw [rl_u_s]; rfl) | rw [rl_u_n (by first | with_reducible assumption | omega)]), by repeat (first | with_reducible assumption | (rw [rl_u_s]; done) | (rw [rl_u_s]; rfl) | rw [rl_u_n (by first | with_reducible assumption | omega)]), by repeat (first | with_reducible assumption | (rw [rl_u_s]; done) | (rw [rl_u_s]; rfl) | rw [rl_u_n (by first | with_reducible assumption | omega)]), by repeat (first | with_reducible assumption | (rw [rl_u_s]; done) | (rw [rl_u_s]; rfl) | rw [rl_u_n (by first | with_reducible assumption | omega)]), by repeat (first | with_reducible assumption | (rw [rl_u_s]; done) | (rw [rl_u_s]; rfl) | rw [rl_u_n (by first | with_reducible assumption | omega)]), by repeat (first | with_reducible assumption | (rw [rl_u_s]; done) | (rw [rl_u_s]; rfl) | rw [rl_u_n (by first | with_reducible assumption | omega)])⟩, ⟨hsc, hsc4⟩, hwf, ⟨hrr, hr36⟩, ⟨hnc, hn16⟩, hnw, e1.symm, hnv, hwv, ⟨wrc, hrc6, hrc⟩⟩), (by rw [e]; exact e2.symm), fun q hq => by repeat (first | rfl | rw [rl_u_n (by omega)])⟩)
            | exact absurd rfl c_71
            | exact absurd c_71 (by decide +kernel)
      · refine o_iconst (v := nI 1) hC dX8_drop_32 (by decide +kernel) ?_
        refine o_goto (tgt := 37) hC dX8_drop_33 (by decide) ?_
        refine o_istore_n hC dX8_drop_37 (Nat.le_of_ble_eq_true rfl) ?_
        refine o_aload_n hC dX8_drop_38 (by rfl) ?_
        refine o_iload_n hC dX8_drop_39 (by rfl) ?_
        refine o_if_eq (tgt := 58) hC dX8_drop_40 (by decide) (fun c_40 => ?_) (fun c_40 => ?_)
        · refine o_aload_n hC dX8_drop_58 (by rfl) ?_
          refine o_getf (v := .long z.2.2.2.2.2) hC (fX8_115 hC rfl) dX8_drop_59 (by repeat (first | with_reducible assumption | (rw [rl_u_s]; done) | (rw [rl_u_s]; rfl) | rw [rl_u_n (by first | with_reducible assumption | omega)])) (by rw [← hpr]; rfl) ?_
          refine o_lconst (v := 1) hC dX8_drop_62 (by decide +kernel) ?_
          refine o_iload_n hC dX8_drop_63 (by rfl) ?_
          refine o_lshl hC dX8_drop_64 ?_
          refine o_lor hC dX8_drop_65 ?_
          refine o_putf hC (fX8_115 hC rfl) (fwX8 rfl rfl rfl (Or.inl rfl)) dX8_drop_66 (by repeat (first | with_reducible assumption | (rw [rl_u_s]; done) | (rw [rl_u_s]; rfl) | rw [rl_u_n (by first | with_reducible assumption | omega)])) (Nat.le_of_ble_eq_true rfl) ?_
          try simp only [List.set_cons_zero, List.set_cons_succ]
          refine o_iload_n hC dX8_drop_69 (by rfl) ?_
          refine o_iload_n hC dX8_drop_70 (by rfl) ?_
          refine o_icmp_ne (tgt := 78) hC dX8_drop_71 (by decide) (fun c_71 => ?_) (fun c_71 => ?_)
          · refine o_iconst (v := nI 1) hC dX8_drop_78 (by decide +kernel) ?_
            refine o_iret hC hB dX8_drop_79 (Nat.le_of_ble_eq_true rfl) (Nat.le_of_ble_eq_true rfl) ?_
            first
            | (have e1 : dp_pr z.2.2.2.2.2 (nI r) on = z.2.2.2.2.2 ||| (1 : Int64) <<< ((nI r).toInt64 &&& 63) := if_pos c_40; have e : sh_drop z (nI r) on = (if dp_pr z.2.2.2.2.2 (nI r) on = z.2.2.2.2.2 then nI 0 else nI 1, (z.1, z.2.1, z.2.2.1, z.2.2.2.1, z.2.2.2.2.1, dp_pr z.2.2.2.2.2 (nI r) on)) := (if_neg (fun e => e.elim c_6 (fun e => absurd c_14 (Int32.not_lt.mpr e)))); have e2 : (if dp_pr z.2.2.2.2.2 (nI r) on = z.2.2.2.2.2 then nI 0 else nI 1) = nI 1 := (by rw [e1]; exact md_drA r36 c_29); exact ⟨_, rfl, rfl, (by rw [e]; exact ⟨(nI 0, T.2.1, T.2.2.1, z.2.2.2.2.2 ||| (1 : Int64) <<< ((nI r).toInt64 &&& 63), T.2.2.2.2), fu, k, S, ⟨by repeat (first | with_reducible assumption | (rw [rl_u_s]; done) | (rw [rl_u_s]; rfl) | rw [rl_u_n (by first | with_reducible assumption | omega)]), gk, ⟨⟨cl, by repeat (first | with_reducible assumption | (rw [rl_u_s]; done) | (rw [rl_u_s]; rfl) | rw [rl_u_n (by first | with_reducible assumption | omega)])⟩, ⟨tu, by repeat (first | with_reducible assumption | (rw [rl_u_s]; done) | (rw [rl_u_s]; rfl) | rw [rl_u_n (by first | with_reducible assumption | omega)]), b13⟩, ⟨im, by repeat (first | with_reducible assumption | (rw [rl_u_s]; done) | (rw [rl_u_s]; rfl) | rw [rl_u_n (by first | with_reducible assumption | omega)])⟩, ⟨te, by repeat (first | with_reducible assumption | (rw [rl_u_s]; done) | (rw [rl_u_s]; rfl) | rw [rl_u_n (by first | with_reducible assumption | omega)]), b15⟩, ⟨ne, by repeat (first | with_reducible assumption | (rw [rl_u_s]; done) | (rw [rl_u_s]; rfl) | rw [rl_u_n (by first | with_reducible assumption | omega)])⟩, ⟨la, by repeat (first | with_reducible assumption | (rw [rl_u_s]; done) | (rw [rl_u_s]; rfl) | rw [rl_u_n (by first | with_reducible assumption | omega)])⟩, ⟨hn, by repeat (first | with_reducible assumption | (rw [rl_u_s]; done) | (rw [rl_u_s]; rfl) | rw [rl_u_n (by first | with_reducible assumption | omega)])⟩, ⟨hl, by repeat (first | with_reducible assumption | (rw [rl_u_s]; done) | (rw [rl_u_s]; rfl) | rw [rl_u_n (by first | with_reducible assumption | omega)])⟩, ⟨tp, by repeat (first | with_reducible assumption | (rw [rl_u_s]; done) | (rw [rl_u_s]; rfl) | rw [rl_u_n (by first | with_reducible assumption | omega)])⟩, ⟨gr, by repeat (first | with_reducible assumption | (rw [rl_u_s]; done) | (rw [rl_u_s]; rfl) | rw [rl_u_n (by first | with_reducible assumption | omega)]), b21⟩, ⟨it, by repeat (first | with_reducible assumption | (rw [rl_u_s]; done) | (rw [rl_u_s]; rfl) | rw [rl_u_n (by first | with_reducible assumption | omega)])⟩⟩, fun _ _ _ => rfl⟩, ⟨by repeat (first | with_reducible assumption | (rw [rl_u_s]; done) | (rw [rl_u_s]; rfl) | rw [rl_u_n (by first | with_reducible assumption | omega)]), by repeat (first | with_reducible assumption | (rw [rl_u_s]; done) | (rw [rl_u_s]; rfl) | rw [rl_u_n (by first | with_reducible assumption | omega)]), by repeat (first | with_reducible assumption | (rw [rl_u_s]; done) | (rw [rl_u_s]; rfl) | rw [rl_u_n (by first | with_reducible assumption | omega)]), by repeat (first | with_reducible assumption | (rw [rl_u_s]; done) | (rw [rl_u_s]; rfl) | rw [rl_u_n (by first | with_reducible assumption | omega)]), by repeat (first | with_reducible assumption | (rw [rl_u_s]; done) | (rw [rl_u_s]; rfl) | rw [rl_u_n (by first | with_reducible assumption | omega)]), by repeat (first | with_reducible assumption | (rw [rl_u_s]; done) | (rw [rl_u_s]; rfl) | rw [rl_u_n (by first | with_reducible assumption | omega)]), by repeat (first | with_reducible assumption | (rw [rl_u_s]; done) | (rw [rl_u_s]; rfl) | rw [rl_u_n (by first | with_reducible assumption | omega)]), by repeat (first | with_reducible assumption | (rw [rl_u_s]; done) | (rw [rl_u_s]; rfl) | rw [rl_u_n (by first | with_reducible assumption | omega)]), by repeat (first | with_reducible assumption | (rw [rl_u_s]; done) | (rw [rl_u_s]; rfl) | rw [rl_u_n (by first | with_reducible assumption | omega)]), by repeat (first | with_reducible assumption | (rw [rl_u_s]; done) | (rw [rl_u_s]; rfl) | rw [rl_u_n (by first | with_reducible assumption | omega)]), by repeat (first | with_reducible assumption | (rw [rl_u_s]; done) | (rw [rl_u_s]; rfl) | rw [rl_u_n (by first | with_reducible assumption | omega)])⟩, ⟨hsc, hsc4⟩, hwf, ⟨hrr, hr36⟩, ⟨hnc, hn16⟩, hnw, e1.symm, hnv, hwv, ⟨wrc, hrc6, hrc⟩⟩), (by rw [e]; exact e2.symm), fun q hq => by repeat (first | rfl | rw [rl_u_n (by omega)])⟩)
            | (have e1 : dp_pr z.2.2.2.2.2 (nI r) on = z.2.2.2.2.2 ||| (1 : Int64) <<< ((nI r).toInt64 &&& 63) := if_pos c_40; have e : sh_drop z (nI r) on = (if dp_pr z.2.2.2.2.2 (nI r) on = z.2.2.2.2.2 then nI 0 else nI 1, (z.1, z.2.1, z.2.2.1, z.2.2.2.1, z.2.2.2.2.1, dp_pr z.2.2.2.2.2 (nI r) on)) := (if_neg (fun e => e.elim c_6 (fun e => absurd c_14 (Int32.not_lt.mpr e)))); have e2 : (if dp_pr z.2.2.2.2.2 (nI r) on = z.2.2.2.2.2 then nI 0 else nI 1) = nI 0 := (by rw [e1]; exact md_drB r36 c_29); exact ⟨_, rfl, rfl, (by rw [e]; exact ⟨(nI 0, T.2.1, T.2.2.1, z.2.2.2.2.2 ||| (1 : Int64) <<< ((nI r).toInt64 &&& 63), T.2.2.2.2), fu, k, S, ⟨by repeat (first | with_reducible assumption | (rw [rl_u_s]; done) | (rw [rl_u_s]; rfl) | rw [rl_u_n (by first | with_reducible assumption | omega)]), gk, ⟨⟨cl, by repeat (first | with_reducible assumption | (rw [rl_u_s]; done) | (rw [rl_u_s]; rfl) | rw [rl_u_n (by first | with_reducible assumption | omega)])⟩, ⟨tu, by repeat (first | with_reducible assumption | (rw [rl_u_s]; done) | (rw [rl_u_s]; rfl) | rw [rl_u_n (by first | with_reducible assumption | omega)]), b13⟩, ⟨im, by repeat (first | with_reducible assumption | (rw [rl_u_s]; done) | (rw [rl_u_s]; rfl) | rw [rl_u_n (by first | with_reducible assumption | omega)])⟩, ⟨te, by repeat (first | with_reducible assumption | (rw [rl_u_s]; done) | (rw [rl_u_s]; rfl) | rw [rl_u_n (by first | with_reducible assumption | omega)]), b15⟩, ⟨ne, by repeat (first | with_reducible assumption | (rw [rl_u_s]; done) | (rw [rl_u_s]; rfl) | rw [rl_u_n (by first | with_reducible assumption | omega)])⟩, ⟨la, by repeat (first | with_reducible assumption | (rw [rl_u_s]; done) | (rw [rl_u_s]; rfl) | rw [rl_u_n (by first | with_reducible assumption | omega)])⟩, ⟨hn, by repeat (first | with_reducible assumption | (rw [rl_u_s]; done) | (rw [rl_u_s]; rfl) | rw [rl_u_n (by first | with_reducible assumption | omega)])⟩, ⟨hl, by repeat (first | with_reducible assumption | (rw [rl_u_s]; done) | (rw [rl_u_s]; rfl) | rw [rl_u_n (by first | with_reducible assumption | omega)])⟩, ⟨tp, by repeat (first | with_reducible assumption | (rw [rl_u_s]; done) | (rw [rl_u_s]; rfl) | rw [rl_u_n (by first | with_reducible assumption | omega)])⟩, ⟨gr, by repeat (first | with_reducible assumption | (rw [rl_u_s]; done) | (rw [rl_u_s]; rfl) | rw [rl_u_n (by first | with_reducible assumption | omega)]), b21⟩, ⟨it, by repeat (first | with_reducible assumption | (rw [rl_u_s]; done) | (rw [rl_u_s]; rfl) | rw [rl_u_n (by first | with_reducible assumption | omega)])⟩⟩, fun _ _ _ => rfl⟩, ⟨by repeat (first | with_reducible assumption | (rw [rl_u_s]; done) | (rw [rl_u_s]; rfl) | rw [rl_u_n (by first | with_reducible assumption | omega)]), by repeat (first | with_reducible assumption | (rw [rl_u_s]; done) | (rw [rl_u_s]; rfl) | rw [rl_u_n (by first | with_reducible assumption | omega)]), by repeat (first | with_reducible assumption | (rw [rl_u_s]; done) | (rw [rl_u_s]; rfl) | rw [rl_u_n (by first | with_reducible assumption | omega)]), by repeat (first | with_reducible assumption | (rw [rl_u_s]; done) | (rw [rl_u_s]; rfl) | rw [rl_u_n (by first | with_reducible assumption | omega)]), by repeat (first | with_reducible assumption | (rw [rl_u_s]; done) | (rw [rl_u_s]; rfl) | rw [rl_u_n (by first | with_reducible assumption | omega)]), by repeat (first | with_reducible assumption | (rw [rl_u_s]; done) | (rw [rl_u_s]; rfl) | rw [rl_u_n (by first | with_reducible assumption | omega)]), by repeat (first | with_reducible assumption | (rw [rl_u_s]; done) | (rw [rl_u_s]; rfl) | rw [rl_u_n (by first | with_reducible assumption | omega)]), by repeat (first | with_reducible assumption | (rw [rl_u_s]; done) | (rw [rl_u_s]; rfl) | rw [rl_u_n (by first | with_reducible assumption | omega)]), by repeat (first | with_reducible assumption | (rw [rl_u_s]; done) | (rw [rl_u_s]; rfl) | rw [rl_u_n (by first | with_reducible assumption | omega)]), by repeat (first | with_reducible assumption | (rw [rl_u_s]; done) | (rw [rl_u_s]; rfl) | rw [rl_u_n (by first | with_reducible assumption | omega)]), by repeat (first | with_reducible assumption | (rw [rl_u_s]; done) | (rw [rl_u_s]; rfl) | rw [rl_u_n (by first | with_reducible assumption | omega)])⟩, ⟨hsc, hsc4⟩, hwf, ⟨hrr, hr36⟩, ⟨hnc, hn16⟩, hnw, e1.symm, hnv, hwv, ⟨wrc, hrc6, hrc⟩⟩), (by rw [e]; exact e2.symm), fun q hq => by repeat (first | rfl | rw [rl_u_n (by omega)])⟩)
            | exact absurd (c_71.trans c_40) (by decide +kernel)
            | exact absurd c_40.symm c_71
          · refine o_iconst (v := nI 0) hC dX8_drop_74 (by decide +kernel) ?_
            refine o_goto (tgt := 79) hC dX8_drop_75 (by decide) ?_
            refine o_iret hC hB dX8_drop_79 (Nat.le_of_ble_eq_true rfl) (Nat.le_of_ble_eq_true rfl) ?_
            first
            | (have e1 : dp_pr z.2.2.2.2.2 (nI r) on = z.2.2.2.2.2 ||| (1 : Int64) <<< ((nI r).toInt64 &&& 63) := if_pos c_40; have e : sh_drop z (nI r) on = (if dp_pr z.2.2.2.2.2 (nI r) on = z.2.2.2.2.2 then nI 0 else nI 1, (z.1, z.2.1, z.2.2.1, z.2.2.2.1, z.2.2.2.2.1, dp_pr z.2.2.2.2.2 (nI r) on)) := (if_neg (fun e => e.elim c_6 (fun e => absurd c_14 (Int32.not_lt.mpr e)))); have e2 : (if dp_pr z.2.2.2.2.2 (nI r) on = z.2.2.2.2.2 then nI 0 else nI 1) = nI 1 := (by rw [e1]; exact md_drA r36 c_29); exact ⟨_, rfl, rfl, (by rw [e]; exact ⟨(nI 0, T.2.1, T.2.2.1, z.2.2.2.2.2 ||| (1 : Int64) <<< ((nI r).toInt64 &&& 63), T.2.2.2.2), fu, k, S, ⟨by repeat (first | with_reducible assumption | (rw [rl_u_s]; done) | (rw [rl_u_s]; rfl) | rw [rl_u_n (by first | with_reducible assumption | omega)]), gk, ⟨⟨cl, by repeat (first | with_reducible assumption | (rw [rl_u_s]; done) | (rw [rl_u_s]; rfl) | rw [rl_u_n (by first | with_reducible assumption | omega)])⟩, ⟨tu, by repeat (first | with_reducible assumption | (rw [rl_u_s]; done) | (rw [rl_u_s]; rfl) | rw [rl_u_n (by first | with_reducible assumption | omega)]), b13⟩, ⟨im, by repeat (first | with_reducible assumption | (rw [rl_u_s]; done) | (rw [rl_u_s]; rfl) | rw [rl_u_n (by first | with_reducible assumption | omega)])⟩, ⟨te, by repeat (first | with_reducible assumption | (rw [rl_u_s]; done) | (rw [rl_u_s]; rfl) | rw [rl_u_n (by first | with_reducible assumption | omega)]), b15⟩, ⟨ne, by repeat (first | with_reducible assumption | (rw [rl_u_s]; done) | (rw [rl_u_s]; rfl) | rw [rl_u_n (by first | with_reducible assumption | omega)])⟩, ⟨la, by repeat (first | with_reducible assumption | (rw [rl_u_s]; done) | (rw [rl_u_s]; rfl) | rw [rl_u_n (by first | with_reducible assumption | omega)])⟩, ⟨hn, by repeat (first | with_reducible assumption | (rw [rl_u_s]; done) | (rw [rl_u_s]; rfl) | rw [rl_u_n (by first | with_reducible assumption | omega)])⟩, ⟨hl, by repeat (first | with_reducible assumption | (rw [rl_u_s]; done) | (rw [rl_u_s]; rfl) | rw [rl_u_n (by first | with_reducible assumption | omega)])⟩, ⟨tp, by repeat (first | with_reducible assumption | (rw [rl_u_s]; done) | (rw [rl_u_s]; rfl) | rw [rl_u_n (by first | with_reducible assumption | omega)])⟩, ⟨gr, by repeat (first | with_reducible assumption | (rw [rl_u_s]; done) | (rw [rl_u_s]; rfl) | rw [rl_u_n (by first | with_reducible assumption | omega)]), b21⟩, ⟨it, by repeat (first | with_reducible assumption | (rw [rl_u_s]; done) | (rw [rl_u_s]; rfl) | rw [rl_u_n (by first | with_reducible assumption | omega)])⟩⟩, fun _ _ _ => rfl⟩, ⟨by repeat (first | with_reducible assumption | (rw [rl_u_s]; done) | (rw [rl_u_s]; rfl) | rw [rl_u_n (by first | with_reducible assumption | omega)]), by repeat (first | with_reducible assumption | (rw [rl_u_s]; done) | (rw [rl_u_s]; rfl) | rw [rl_u_n (by first | with_reducible assumption | omega)]), by repeat (first | with_reducible assumption | (rw [rl_u_s]; done) | (rw [rl_u_s]; rfl) | rw [rl_u_n (by first | with_reducible assumption | omega)]), by repeat (first | with_reducible assumption | (rw [rl_u_s]; done) | (rw [rl_u_s]; rfl) | rw [rl_u_n (by first | with_reducible assumption | omega)]), by repeat (first | with_reducible assumption | (rw [rl_u_s]; done) | (rw [rl_u_s]; rfl) | rw [rl_u_n (by first | with_reducible assumption | omega)]), by repeat (first | with_reducible assumption | (rw [rl_u_s]; done) | (rw [rl_u_s]; rfl) | rw [rl_u_n (by first | with_reducible assumption | omega)]), by repeat (first | with_reducible assumption | (rw [rl_u_s]; done) | (rw [rl_u_s]; rfl) | rw [rl_u_n (by first | with_reducible assumption | omega)]), by repeat (first | with_reducible assumption | (rw [rl_u_s]; done) | (rw [rl_u_s]; rfl) | rw [rl_u_n (by first | with_reducible assumption | omega)]), by repeat (first | with_reducible assumption | (rw [rl_u_s]; done) | (rw [rl_u_s]; rfl) | rw [rl_u_n (by first | with_reducible assumption | omega)]), by repeat (first | with_reducible assumption | (rw [rl_u_s]; done) | (rw [rl_u_s]; rfl) | rw [rl_u_n (by first | with_reducible assumption | omega)]), by repeat (first | with_reducible assumption | (rw [rl_u_s]; done) | (rw [rl_u_s]; rfl) | rw [rl_u_n (by first | with_reducible assumption | omega)])⟩, ⟨hsc, hsc4⟩, hwf, ⟨hrr, hr36⟩, ⟨hnc, hn16⟩, hnw, e1.symm, hnv, hwv, ⟨wrc, hrc6, hrc⟩⟩), (by rw [e]; exact e2.symm), fun q hq => by repeat (first | rfl | rw [rl_u_n (by omega)])⟩)
            | (have e1 : dp_pr z.2.2.2.2.2 (nI r) on = z.2.2.2.2.2 ||| (1 : Int64) <<< ((nI r).toInt64 &&& 63) := if_pos c_40; have e : sh_drop z (nI r) on = (if dp_pr z.2.2.2.2.2 (nI r) on = z.2.2.2.2.2 then nI 0 else nI 1, (z.1, z.2.1, z.2.2.1, z.2.2.2.1, z.2.2.2.2.1, dp_pr z.2.2.2.2.2 (nI r) on)) := (if_neg (fun e => e.elim c_6 (fun e => absurd c_14 (Int32.not_lt.mpr e)))); have e2 : (if dp_pr z.2.2.2.2.2 (nI r) on = z.2.2.2.2.2 then nI 0 else nI 1) = nI 0 := (by rw [e1]; exact md_drB r36 c_29); exact ⟨_, rfl, rfl, (by rw [e]; exact ⟨(nI 0, T.2.1, T.2.2.1, z.2.2.2.2.2 ||| (1 : Int64) <<< ((nI r).toInt64 &&& 63), T.2.2.2.2), fu, k, S, ⟨by repeat (first | with_reducible assumption | (rw [rl_u_s]; done) | (rw [rl_u_s]; rfl) | rw [rl_u_n (by first | with_reducible assumption | omega)]), gk, ⟨⟨cl, by repeat (first | with_reducible assumption | (rw [rl_u_s]; done) | (rw [rl_u_s]; rfl) | rw [rl_u_n (by first | with_reducible assumption | omega)])⟩, ⟨tu, by repeat (first | with_reducible assumption | (rw [rl_u_s]; done) | (rw [rl_u_s]; rfl) | rw [rl_u_n (by first | with_reducible assumption | omega)]), b13⟩, ⟨im, by repeat (first | with_reducible assumption | (rw [rl_u_s]; done) | (rw [rl_u_s]; rfl) | rw [rl_u_n (by first | with_reducible assumption | omega)])⟩, ⟨te, by repeat (first | with_reducible assumption | (rw [rl_u_s]; done) | (rw [rl_u_s]; rfl) | rw [rl_u_n (by first | with_reducible assumption | omega)]), b15⟩, ⟨ne, by repeat (first | with_reducible assumption | (rw [rl_u_s]; done) | (rw [rl_u_s]; rfl) | rw [rl_u_n (by first | with_reducible assumption | omega)])⟩, ⟨la, by repeat (first | with_reducible assumption | (rw [rl_u_s]; done) | (rw [rl_u_s]; rfl) | rw [rl_u_n (by first | with_reducible assumption | omega)])⟩, ⟨hn, by repeat (first | with_reducible assumption | (rw [rl_u_s]; done) | (rw [rl_u_s]; rfl) | rw [rl_u_n (by first | with_reducible assumption | omega)])⟩, ⟨hl, by repeat (first | with_reducible assumption | (rw [rl_u_s]; done) | (rw [rl_u_s]; rfl) | rw [rl_u_n (by first | with_reducible assumption | omega)])⟩, ⟨tp, by repeat (first | with_reducible assumption | (rw [rl_u_s]; done) | (rw [rl_u_s]; rfl) | rw [rl_u_n (by first | with_reducible assumption | omega)])⟩, ⟨gr, by repeat (first | with_reducible assumption | (rw [rl_u_s]; done) | (rw [rl_u_s]; rfl) | rw [rl_u_n (by first | with_reducible assumption | omega)]), b21⟩, ⟨it, by repeat (first | with_reducible assumption | (rw [rl_u_s]; done) | (rw [rl_u_s]; rfl) | rw [rl_u_n (by first | with_reducible assumption | omega)])⟩⟩, fun _ _ _ => rfl⟩, ⟨by repeat (first | with_reducible assumption | (rw [rl_u_s]; done) | (rw [rl_u_s]; rfl) | rw [rl_u_n (by first | with_reducible assumption | omega)]), by repeat (first | with_reducible assumption | (rw [rl_u_s]; done) | (rw [rl_u_s]; rfl) | rw [rl_u_n (by first | with_reducible assumption | omega)]), by repeat (first | with_reducible assumption | (rw [rl_u_s]; done) | (rw [rl_u_s]; rfl) | rw [rl_u_n (by first | with_reducible assumption | omega)]), by repeat (first | with_reducible assumption | (rw [rl_u_s]; done) | (rw [rl_u_s]; rfl) | rw [rl_u_n (by first | with_reducible assumption | omega)]), by repeat (first | with_reducible assumption | (rw [rl_u_s]; done) | (rw [rl_u_s]; rfl) | rw [rl_u_n (by first | with_reducible assumption | omega)]), by repeat (first | with_reducible assumption | (rw [rl_u_s]; done) | (rw [rl_u_s]; rfl) | rw [rl_u_n (by first | with_reducible assumption | omega)]), by repeat (first | with_reducible assumption | (rw [rl_u_s]; done) | (rw [rl_u_s]; rfl) | rw [rl_u_n (by first | with_reducible assumption | omega)]), by repeat (first | with_reducible assumption | (rw [rl_u_s]; done) | (rw [rl_u_s]; rfl) | rw [rl_u_n (by first | with_reducible assumption | omega)]), by repeat (first | with_reducible assumption | (rw [rl_u_s]; done) | (rw [rl_u_s]; rfl) | rw [rl_u_n (by first | with_reducible assumption | omega)]), by repeat (first | with_reducible assumption | (rw [rl_u_s]; done) | (rw [rl_u_s]; rfl) | rw [rl_u_n (by first | with_reducible assumption | omega)]), by repeat (first | with_reducible assumption | (rw [rl_u_s]; done) | (rw [rl_u_s]; rfl) | rw [rl_u_n (by first | with_reducible assumption | omega)])⟩, ⟨hsc, hsc4⟩, hwf, ⟨hrr, hr36⟩, ⟨hnc, hn16⟩, hnw, e1.symm, hnv, hwv, ⟨wrc, hrc6, hrc⟩⟩), (by rw [e]; exact e2.symm), fun q hq => by repeat (first | rfl | rw [rl_u_n (by omega)])⟩)
            | exact absurd (c_71.trans c_40) (by decide +kernel)
            | exact absurd c_40.symm c_71
        · obtain rfl := hon.resolve_left c_40
          refine o_aload_n hC dX8_drop_43 (by rfl) ?_
          refine o_getf (v := .long z.2.2.2.2.2) hC (fX8_115 hC rfl) dX8_drop_44 (by repeat (first | with_reducible assumption | (rw [rl_u_s]; done) | (rw [rl_u_s]; rfl) | rw [rl_u_n (by first | with_reducible assumption | omega)])) (by rw [← hpr]; rfl) ?_
          refine o_lconst (v := 1) hC dX8_drop_47 (by decide +kernel) ?_
          refine o_iload_n hC dX8_drop_48 (by rfl) ?_
          refine o_lshl hC dX8_drop_49 ?_
          refine o_ldc2 hC nX8_85 dX8_drop_50 ?_
          refine o_lxor hC dX8_drop_53 ?_
          refine o_land hC dX8_drop_54 ?_
          refine o_goto (tgt := 66) hC dX8_drop_55 (by decide) ?_
          refine o_putf hC (fX8_115 hC rfl) (fwX8 rfl rfl rfl (Or.inl rfl)) dX8_drop_66 (by repeat (first | with_reducible assumption | (rw [rl_u_s]; done) | (rw [rl_u_s]; rfl) | rw [rl_u_n (by first | with_reducible assumption | omega)])) (Nat.le_of_ble_eq_true rfl) ?_
          try simp only [List.set_cons_zero, List.set_cons_succ]
          refine o_iload_n hC dX8_drop_69 (by rfl) ?_
          refine o_iload_n hC dX8_drop_70 (by rfl) ?_
          refine o_icmp_ne (tgt := 78) hC dX8_drop_71 (by decide) (fun c_71 => ?_) (fun c_71 => ?_)
          · refine o_iconst (v := nI 1) hC dX8_drop_78 (by decide +kernel) ?_
            refine o_iret hC hB dX8_drop_79 (Nat.le_of_ble_eq_true rfl) (Nat.le_of_ble_eq_true rfl) ?_
            first
            | (have e1 : dp_pr z.2.2.2.2.2 (nI r) (nI 1) = z.2.2.2.2.2 &&& ((1 : Int64) <<< ((nI r).toInt64 &&& 63) ^^^ (-1)) := if_neg (by decide +kernel); have e : sh_drop z (nI r) (nI 1) = (if dp_pr z.2.2.2.2.2 (nI r) (nI 1) = z.2.2.2.2.2 then nI 0 else nI 1, (z.1, z.2.1, z.2.2.1, z.2.2.2.1, z.2.2.2.2.1, dp_pr z.2.2.2.2.2 (nI r) (nI 1))) := (if_neg (fun e => e.elim c_6 (fun e => absurd c_14 (Int32.not_lt.mpr e)))); have e2 : (if dp_pr z.2.2.2.2.2 (nI r) (nI 1) = z.2.2.2.2.2 then nI 0 else nI 1) = nI 0 := (by rw [e1]; exact md_drC r36 c_29); exact ⟨_, rfl, rfl, (by rw [e]; exact ⟨(nI 0, T.2.1, T.2.2.1, z.2.2.2.2.2 &&& ((1 : Int64) <<< ((nI r).toInt64 &&& 63) ^^^ (-1)), T.2.2.2.2), fu, k, S, ⟨by repeat (first | with_reducible assumption | (rw [rl_u_s]; done) | (rw [rl_u_s]; rfl) | rw [rl_u_n (by first | with_reducible assumption | omega)]), gk, ⟨⟨cl, by repeat (first | with_reducible assumption | (rw [rl_u_s]; done) | (rw [rl_u_s]; rfl) | rw [rl_u_n (by first | with_reducible assumption | omega)])⟩, ⟨tu, by repeat (first | with_reducible assumption | (rw [rl_u_s]; done) | (rw [rl_u_s]; rfl) | rw [rl_u_n (by first | with_reducible assumption | omega)]), b13⟩, ⟨im, by repeat (first | with_reducible assumption | (rw [rl_u_s]; done) | (rw [rl_u_s]; rfl) | rw [rl_u_n (by first | with_reducible assumption | omega)])⟩, ⟨te, by repeat (first | with_reducible assumption | (rw [rl_u_s]; done) | (rw [rl_u_s]; rfl) | rw [rl_u_n (by first | with_reducible assumption | omega)]), b15⟩, ⟨ne, by repeat (first | with_reducible assumption | (rw [rl_u_s]; done) | (rw [rl_u_s]; rfl) | rw [rl_u_n (by first | with_reducible assumption | omega)])⟩, ⟨la, by repeat (first | with_reducible assumption | (rw [rl_u_s]; done) | (rw [rl_u_s]; rfl) | rw [rl_u_n (by first | with_reducible assumption | omega)])⟩, ⟨hn, by repeat (first | with_reducible assumption | (rw [rl_u_s]; done) | (rw [rl_u_s]; rfl) | rw [rl_u_n (by first | with_reducible assumption | omega)])⟩, ⟨hl, by repeat (first | with_reducible assumption | (rw [rl_u_s]; done) | (rw [rl_u_s]; rfl) | rw [rl_u_n (by first | with_reducible assumption | omega)])⟩, ⟨tp, by repeat (first | with_reducible assumption | (rw [rl_u_s]; done) | (rw [rl_u_s]; rfl) | rw [rl_u_n (by first | with_reducible assumption | omega)])⟩, ⟨gr, by repeat (first | with_reducible assumption | (rw [rl_u_s]; done) | (rw [rl_u_s]; rfl) | rw [rl_u_n (by first | with_reducible assumption | omega)]), b21⟩, ⟨it, by repeat (first | with_reducible assumption | (rw [rl_u_s]; done) | (rw [rl_u_s]; rfl) | rw [rl_u_n (by first | with_reducible assumption | omega)])⟩⟩, fun _ _ _ => rfl⟩, ⟨by repeat (first | with_reducible assumption | (rw [rl_u_s]; done) | (rw [rl_u_s]; rfl) | rw [rl_u_n (by first | with_reducible assumption | omega)]), by repeat (first | with_reducible assumption | (rw [rl_u_s]; done) | (rw [rl_u_s]; rfl) | rw [rl_u_n (by first | with_reducible assumption | omega)]), by repeat (first | with_reducible assumption | (rw [rl_u_s]; done) | (rw [rl_u_s]; rfl) | rw [rl_u_n (by first | with_reducible assumption | omega)]), by repeat (first | with_reducible assumption | (rw [rl_u_s]; done) | (rw [rl_u_s]; rfl) | rw [rl_u_n (by first | with_reducible assumption | omega)]), by repeat (first | with_reducible assumption | (rw [rl_u_s]; done) | (rw [rl_u_s]; rfl) | rw [rl_u_n (by first | with_reducible assumption | omega)]), by repeat (first | with_reducible assumption | (rw [rl_u_s]; done) | (rw [rl_u_s]; rfl) | rw [rl_u_n (by first | with_reducible assumption | omega)]), by repeat (first | with_reducible assumption | (rw [rl_u_s]; done) | (rw [rl_u_s]; rfl) | rw [rl_u_n (by first | with_reducible assumption | omega)]), by repeat (first | with_reducible assumption | (rw [rl_u_s]; done) | (rw [rl_u_s]; rfl) | rw [rl_u_n (by first | with_reducible assumption | omega)]), by repeat (first | with_reducible assumption | (rw [rl_u_s]; done) | (rw [rl_u_s]; rfl) | rw [rl_u_n (by first | with_reducible assumption | omega)]), by repeat (first | with_reducible assumption | (rw [rl_u_s]; done) | (rw [rl_u_s]; rfl) | rw [rl_u_n (by first | with_reducible assumption | omega)]), by repeat (first | with_reducible assumption | (rw [rl_u_s]; done) | (rw [rl_u_s]; rfl) | rw [rl_u_n (by first | with_reducible assumption | omega)])⟩, ⟨hsc, hsc4⟩, hwf, ⟨hrr, hr36⟩, ⟨hnc, hn16⟩, hnw, e1.symm, hnv, hwv, ⟨wrc, hrc6, hrc⟩⟩), (by rw [e]; exact e2.symm), fun q hq => by repeat (first | rfl | rw [rl_u_n (by omega)])⟩)
            | (have e1 : dp_pr z.2.2.2.2.2 (nI r) (nI 1) = z.2.2.2.2.2 &&& ((1 : Int64) <<< ((nI r).toInt64 &&& 63) ^^^ (-1)) := if_neg (by decide +kernel); have e : sh_drop z (nI r) (nI 1) = (if dp_pr z.2.2.2.2.2 (nI r) (nI 1) = z.2.2.2.2.2 then nI 0 else nI 1, (z.1, z.2.1, z.2.2.1, z.2.2.2.1, z.2.2.2.2.1, dp_pr z.2.2.2.2.2 (nI r) (nI 1))) := (if_neg (fun e => e.elim c_6 (fun e => absurd c_14 (Int32.not_lt.mpr e)))); have e2 : (if dp_pr z.2.2.2.2.2 (nI r) (nI 1) = z.2.2.2.2.2 then nI 0 else nI 1) = nI 1 := (by rw [e1]; exact md_drD r36 c_29); exact ⟨_, rfl, rfl, (by rw [e]; exact ⟨(nI 0, T.2.1, T.2.2.1, z.2.2.2.2.2 &&& ((1 : Int64) <<< ((nI r).toInt64 &&& 63) ^^^ (-1)), T.2.2.2.2), fu, k, S, ⟨by repeat (first | with_reducible assumption | (rw [rl_u_s]; done) | (rw [rl_u_s]; rfl) | rw [rl_u_n (by first | with_reducible assumption | omega)]), gk, ⟨⟨cl, by repeat (first | with_reducible assumption | (rw [rl_u_s]; done) | (rw [rl_u_s]; rfl) | rw [rl_u_n (by first | with_reducible assumption | omega)])⟩, ⟨tu, by repeat (first | with_reducible assumption | (rw [rl_u_s]; done) | (rw [rl_u_s]; rfl) | rw [rl_u_n (by first | with_reducible assumption | omega)]), b13⟩, ⟨im, by repeat (first | with_reducible assumption | (rw [rl_u_s]; done) | (rw [rl_u_s]; rfl) | rw [rl_u_n (by first | with_reducible assumption | omega)])⟩, ⟨te, by repeat (first | with_reducible assumption | (rw [rl_u_s]; done) | (rw [rl_u_s]; rfl) | rw [rl_u_n (by first | with_reducible assumption | omega)]), b15⟩, ⟨ne, by repeat (first | with_reducible assumption | (rw [rl_u_s]; done) | (rw [rl_u_s]; rfl) | rw [rl_u_n (by first | with_reducible assumption | omega)])⟩, ⟨la, by repeat (first | with_reducible assumption | (rw [rl_u_s]; done) | (rw [rl_u_s]; rfl) | rw [rl_u_n (by first | with_reducible assumption | omega)])⟩, ⟨hn, by repeat (first | with_reducible assumption | (rw [rl_u_s]; done) | (rw [rl_u_s]; rfl) | rw [rl_u_n (by first | with_reducible assumption | omega)])⟩, ⟨hl, by repeat (first | with_reducible assumption | (rw [rl_u_s]; done) | (rw [rl_u_s]; rfl) | rw [rl_u_n (by first | with_reducible assumption | omega)])⟩, ⟨tp, by repeat (first | with_reducible assumption | (rw [rl_u_s]; done) | (rw [rl_u_s]; rfl) | rw [rl_u_n (by first | with_reducible assumption | omega)])⟩, ⟨gr, by repeat (first | with_reducible assumption | (rw [rl_u_s]; done) | (rw [rl_u_s]; rfl) | rw [rl_u_n (by first | with_reducible assumption | omega)]), b21⟩, ⟨it, by repeat (first | with_reducible assumption | (rw [rl_u_s]; done) | (rw [rl_u_s]; rfl) | rw [rl_u_n (by first | with_reducible assumption | omega)])⟩⟩, fun _ _ _ => rfl⟩, ⟨by repeat (first | with_reducible assumption | (rw [rl_u_s]; done) | (rw [rl_u_s]; rfl) | rw [rl_u_n (by first | with_reducible assumption | omega)]), by repeat (first | with_reducible assumption | (rw [rl_u_s]; done) | (rw [rl_u_s]; rfl) | rw [rl_u_n (by first | with_reducible assumption | omega)]), by repeat (first | with_reducible assumption | (rw [rl_u_s]; done) | (rw [rl_u_s]; rfl) | rw [rl_u_n (by first | with_reducible assumption | omega)]), by repeat (first | with_reducible assumption | (rw [rl_u_s]; done) | (rw [rl_u_s]; rfl) | rw [rl_u_n (by first | with_reducible assumption | omega)]), by repeat (first | with_reducible assumption | (rw [rl_u_s]; done) | (rw [rl_u_s]; rfl) | rw [rl_u_n (by first | with_reducible assumption | omega)]), by repeat (first | with_reducible assumption | (rw [rl_u_s]; done) | (rw [rl_u_s]; rfl) | rw [rl_u_n (by first | with_reducible assumption | omega)]), by repeat (first | with_reducible assumption | (rw [rl_u_s]; done) | (rw [rl_u_s]; rfl) | rw [rl_u_n (by first | with_reducible assumption | omega)]), by repeat (first | with_reducible assumption | (rw [rl_u_s]; done) | (rw [rl_u_s]; rfl) | rw [rl_u_n (by first | with_reducible assumption | omega)]), by repeat (first | with_reducible assumption | (rw [rl_u_s]; done) | (rw [rl_u_s]; rfl) | rw [rl_u_n (by first | with_reducible assumption | omega)]), by repeat (first | with_reducible assumption | (rw [rl_u_s]; done) | (rw [rl_u_s]; rfl) | rw [rl_u_n (by first | with_reducible assumption | omega)]), by repeat (first | with_reducible assumption | (rw [rl_u_s]; done) | (rw [rl_u_s]; rfl) | rw [rl_u_n (by first | with_reducible assumption | omega)])⟩, ⟨hsc, hsc4⟩, hwf, ⟨hrr, hr36⟩, ⟨hnc, hn16⟩, hnw, e1.symm, hnv, hwv, ⟨wrc, hrc6, hrc⟩⟩), (by rw [e]; exact e2.symm), fun q hq => by repeat (first | rfl | rw [rl_u_n (by omega)])⟩)
            | exact absurd rfl c_71
            | exact absurd c_71 (by decide +kernel)
          · refine o_iconst (v := nI 0) hC dX8_drop_74 (by decide +kernel) ?_
            refine o_goto (tgt := 79) hC dX8_drop_75 (by decide) ?_
            refine o_iret hC hB dX8_drop_79 (Nat.le_of_ble_eq_true rfl) (Nat.le_of_ble_eq_true rfl) ?_
            first
            | (have e1 : dp_pr z.2.2.2.2.2 (nI r) (nI 1) = z.2.2.2.2.2 &&& ((1 : Int64) <<< ((nI r).toInt64 &&& 63) ^^^ (-1)) := if_neg (by decide +kernel); have e : sh_drop z (nI r) (nI 1) = (if dp_pr z.2.2.2.2.2 (nI r) (nI 1) = z.2.2.2.2.2 then nI 0 else nI 1, (z.1, z.2.1, z.2.2.1, z.2.2.2.1, z.2.2.2.2.1, dp_pr z.2.2.2.2.2 (nI r) (nI 1))) := (if_neg (fun e => e.elim c_6 (fun e => absurd c_14 (Int32.not_lt.mpr e)))); have e2 : (if dp_pr z.2.2.2.2.2 (nI r) (nI 1) = z.2.2.2.2.2 then nI 0 else nI 1) = nI 0 := (by rw [e1]; exact md_drC r36 c_29); exact ⟨_, rfl, rfl, (by rw [e]; exact ⟨(nI 0, T.2.1, T.2.2.1, z.2.2.2.2.2 &&& ((1 : Int64) <<< ((nI r).toInt64 &&& 63) ^^^ (-1)), T.2.2.2.2), fu, k, S, ⟨by repeat (first | with_reducible assumption | (rw [rl_u_s]; done) | (rw [rl_u_s]; rfl) | rw [rl_u_n (by first | with_reducible assumption | omega)]), gk, ⟨⟨cl, by repeat (first | with_reducible assumption | (rw [rl_u_s]; done) | (rw [rl_u_s]; rfl) | rw [rl_u_n (by first | with_reducible assumption | omega)])⟩, ⟨tu, by repeat (first | with_reducible assumption | (rw [rl_u_s]; done) | (rw [rl_u_s]; rfl) | rw [rl_u_n (by first | with_reducible assumption | omega)]), b13⟩, ⟨im, by repeat (first | with_reducible assumption | (rw [rl_u_s]; done) | (rw [rl_u_s]; rfl) | rw [rl_u_n (by first | with_reducible assumption | omega)])⟩, ⟨te, by repeat (first | with_reducible assumption | (rw [rl_u_s]; done) | (rw [rl_u_s]; rfl) | rw [rl_u_n (by first | with_reducible assumption | omega)]), b15⟩, ⟨ne, by repeat (first | with_reducible assumption | (rw [rl_u_s]; done) | (rw [rl_u_s]; rfl) | rw [rl_u_n (by first | with_reducible assumption | omega)])⟩, ⟨la, by repeat (first | with_reducible assumption | (rw [rl_u_s]; done) | (rw [rl_u_s]; rfl) | rw [rl_u_n (by first | with_reducible assumption | omega)])⟩, ⟨hn, by repeat (first | with_reducible assumption | (rw [rl_u_s]; done) | (rw [rl_u_s]; rfl) | rw [rl_u_n (by first | with_reducible assumption | omega)])⟩, ⟨hl, by repeat (first | with_reducible assumption | (rw [rl_u_s]; done) | (rw [rl_u_s]; rfl) | rw [rl_u_n (by first | with_reducible assumption | omega)])⟩, ⟨tp, by repeat (first | with_reducible assumption | (rw [rl_u_s]; done) | (rw [rl_u_s]; rfl) | rw [rl_u_n (by first | with_reducible assumption | omega)])⟩, ⟨gr, by repeat (first | with_reducible assumption | (rw [rl_u_s]; done) | (rw [rl_u_s]; rfl) | rw [rl_u_n (by first | with_reducible assumption | omega)]), b21⟩, ⟨it, by repeat (first | with_reducible assumption | (rw [rl_u_s]; done) | (rw [rl_u_s]; rfl) | rw [rl_u_n (by first | with_reducible assumption | omega)])⟩⟩, fun _ _ _ => rfl⟩, ⟨by repeat (first | with_reducible assumption | (rw [rl_u_s]; done) | (rw [rl_u_s]; rfl) | rw [rl_u_n (by first | with_reducible assumption | omega)]), by repeat (first | with_reducible assumption | (rw [rl_u_s]; done) | (rw [rl_u_s]; rfl) | rw [rl_u_n (by first | with_reducible assumption | omega)]), by repeat (first | with_reducible assumption | (rw [rl_u_s]; done) | (rw [rl_u_s]; rfl) | rw [rl_u_n (by first | with_reducible assumption | omega)]), by repeat (first | with_reducible assumption | (rw [rl_u_s]; done) | (rw [rl_u_s]; rfl) | rw [rl_u_n (by first | with_reducible assumption | omega)]), by repeat (first | with_reducible assumption | (rw [rl_u_s]; done) | (rw [rl_u_s]; rfl) | rw [rl_u_n (by first | with_reducible assumption | omega)]), by repeat (first | with_reducible assumption | (rw [rl_u_s]; done) | (rw [rl_u_s]; rfl) | rw [rl_u_n (by first | with_reducible assumption | omega)]), by repeat (first | with_reducible assumption | (rw [rl_u_s]; done) | (rw [rl_u_s]; rfl) | rw [rl_u_n (by first | with_reducible assumption | omega)]), by repeat (first | with_reducible assumption | (rw [rl_u_s]; done) | (rw [rl_u_s]; rfl) | rw [rl_u_n (by first | with_reducible assumption | omega)]), by repeat (first | with_reducible assumption | (rw [rl_u_s]; done) | (rw [rl_u_s]; rfl) | rw [rl_u_n (by first | with_reducible assumption | omega)]), by repeat (first | with_reducible assumption | (rw [rl_u_s]; done) | (rw [rl_u_s]; rfl) | rw [rl_u_n (by first | with_reducible assumption | omega)]), by repeat (first | with_reducible assumption | (rw [rl_u_s]; done) | (rw [rl_u_s]; rfl) | rw [rl_u_n (by first | with_reducible assumption | omega)])⟩, ⟨hsc, hsc4⟩, hwf, ⟨hrr, hr36⟩, ⟨hnc, hn16⟩, hnw, e1.symm, hnv, hwv, ⟨wrc, hrc6, hrc⟩⟩), (by rw [e]; exact e2.symm), fun q hq => by repeat (first | rfl | rw [rl_u_n (by omega)])⟩)
            | (have e1 : dp_pr z.2.2.2.2.2 (nI r) (nI 1) = z.2.2.2.2.2 &&& ((1 : Int64) <<< ((nI r).toInt64 &&& 63) ^^^ (-1)) := if_neg (by decide +kernel); have e : sh_drop z (nI r) (nI 1) = (if dp_pr z.2.2.2.2.2 (nI r) (nI 1) = z.2.2.2.2.2 then nI 0 else nI 1, (z.1, z.2.1, z.2.2.1, z.2.2.2.1, z.2.2.2.2.1, dp_pr z.2.2.2.2.2 (nI r) (nI 1))) := (if_neg (fun e => e.elim c_6 (fun e => absurd c_14 (Int32.not_lt.mpr e)))); have e2 : (if dp_pr z.2.2.2.2.2 (nI r) (nI 1) = z.2.2.2.2.2 then nI 0 else nI 1) = nI 1 := (by rw [e1]; exact md_drD r36 c_29); exact ⟨_, rfl, rfl, (by rw [e]; exact ⟨(nI 0, T.2.1, T.2.2.1, z.2.2.2.2.2 &&& ((1 : Int64) <<< ((nI r).toInt64 &&& 63) ^^^ (-1)), T.2.2.2.2), fu, k, S, ⟨by repeat (first | with_reducible assumption | (rw [rl_u_s]; done) | (rw [rl_u_s]; rfl) | rw [rl_u_n (by first | with_reducible assumption | omega)]), gk, ⟨⟨cl, by repeat (first | with_reducible assumption | (rw [rl_u_s]; done) | (rw [rl_u_s]; rfl) | rw [rl_u_n (by first | with_reducible assumption | omega)])⟩, ⟨tu, by repeat (first | with_reducible assumption | (rw [rl_u_s]; done) | (rw [rl_u_s]; rfl) | rw [rl_u_n (by first | with_reducible assumption | omega)]), b13⟩, ⟨im, by repeat (first | with_reducible assumption | (rw [rl_u_s]; done) | (rw [rl_u_s]; rfl) | rw [rl_u_n (by first | with_reducible assumption | omega)])⟩, ⟨te, by repeat (first | with_reducible assumption | (rw [rl_u_s]; done) | (rw [rl_u_s]; rfl) | rw [rl_u_n (by first | with_reducible assumption | omega)]), b15⟩, ⟨ne, by repeat (first | with_reducible assumption | (rw [rl_u_s]; done) | (rw [rl_u_s]; rfl) | rw [rl_u_n (by first | with_reducible assumption | omega)])⟩, ⟨la, by repeat (first | with_reducible assumption | (rw [rl_u_s]; done) | (rw [rl_u_s]; rfl) | rw [rl_u_n (by first | with_reducible assumption | omega)])⟩, ⟨hn, by repeat (first | with_reducible assumption | (rw [rl_u_s]; done) | (rw [rl_u_s]; rfl) | rw [rl_u_n (by first | with_reducible assumption | omega)])⟩, ⟨hl, by repeat (first | with_reducible assumption | (rw [rl_u_s]; done) | (rw [rl_u_s]; rfl) | rw [rl_u_n (by first | with_reducible assumption | omega)])⟩, ⟨tp, by repeat (first | with_reducible assumption | (rw [rl_u_s]; done) | (rw [rl_u_s]; rfl) | rw [rl_u_n (by first | with_reducible assumption | omega)])⟩, ⟨gr, by repeat (first | with_reducible assumption | (rw [rl_u_s]; done) | (rw [rl_u_s]; rfl) | rw [rl_u_n (by first | with_reducible assumption | omega)]), b21⟩, ⟨it, by repeat (first | with_reducible assumption | (rw [rl_u_s]; done) | (rw [rl_u_s]; rfl) | rw [rl_u_n (by first | with_reducible assumption | omega)])⟩⟩, fun _ _ _ => rfl⟩, ⟨by repeat (first | with_reducible assumption | (rw [rl_u_s]; done) | (rw [rl_u_s]; rfl) | rw [rl_u_n (by first | with_reducible assumption | omega)]), by repeat (first | with_reducible assumption | (rw [rl_u_s]; done) | (rw [rl_u_s]; rfl) | rw [rl_u_n (by first | with_reducible assumption | omega)]), by repeat (first | with_reducible assumption | (rw [rl_u_s]; done) | (rw [rl_u_s]; rfl) | rw [rl_u_n (by first | with_reducible assumption | omega)]), by repeat (first | with_reducible assumption | (rw [rl_u_s]; done) | (rw [rl_u_s]; rfl) | rw [rl_u_n (by first | with_reducible assumption | omega)]), by repeat (first | with_reducible assumption | (rw [rl_u_s]; done) | (rw [rl_u_s]; rfl) | rw [rl_u_n (by first | with_reducible assumption | omega)]), by repeat (first | with_reducible assumption | (rw [rl_u_s]; done) | (rw [rl_u_s]; rfl) | rw [rl_u_n (by first | with_reducible assumption | omega)]), by repeat (first | with_reducible assumption | (rw [rl_u_s]; done) | (rw [rl_u_s]; rfl) | rw [rl_u_n (by first | with_reducible assumption | omega)]), by repeat (first | with_reducible assumption | (rw [rl_u_s]; done) | (rw [rl_u_s]; rfl) | rw [rl_u_n (by first | with_reducible assumption | omega)]), by repeat (first | with_reducible assumption | (rw [rl_u_s]; done) | (rw [rl_u_s]; rfl) | rw [rl_u_n (by first | with_reducible assumption | omega)]), by repeat (first | with_reducible assumption | (rw [rl_u_s]; done) | (rw [rl_u_s]; rfl) | rw [rl_u_n (by first | with_reducible assumption | omega)]), by repeat (first | with_reducible assumption | (rw [rl_u_s]; done) | (rw [rl_u_s]; rfl) | rw [rl_u_n (by first | with_reducible assumption | omega)])⟩, ⟨hsc, hsc4⟩, hwf, ⟨hrr, hr36⟩, ⟨hnc, hn16⟩, hnw, e1.symm, hnv, hwv, ⟨wrc, hrc6, hrc⟩⟩), (by rw [e]; exact e2.symm), fun q hq => by repeat (first | rfl | rw [rl_u_n (by omega)])⟩)
            | exact absurd rfl c_71
            | exact absurd c_71 (by decide +kernel)
    · refine o_iconst (v := (-1 : Int32)) hC dX8_drop_17 (by decide +kernel) ?_
      refine o_iret hC hB dX8_drop_18 (Nat.le_of_ble_eq_true rfl) (Nat.le_of_ble_eq_true rfl) ?_
      first
      | (have e : sh_drop z q on = (-1, z) := if_pos (Or.inl c_6); exact ⟨_, rfl, rfl, (by rw [e]; exact ⟨_, _, _, S, hu.dp hq0 rfl rfl rfl rfl ⟨wrc, hrc6, hrc⟩⟩), (by rw [e]), hq0.fr⟩)
      | (have e : sh_drop z q on = (-1, z) := if_pos (Or.inr (Int32.not_lt.mp c_14)); exact ⟨_, rfl, rfl, (by rw [e]; exact ⟨_, _, _, S, hu.dp hq0 rfl rfl rfl rfl ⟨wrc, hrc6, hrc⟩⟩), (by rw [e]), hq0.fr⟩)

set_option maxHeartbeats 4000000 in
set_option maxRecDepth 100000 in
theorem cm_X8_scan (l : Launch) (D : va_G) (ids : Nat → ClassId) (H0 : Heap) (h : rl_H) (n : Nat) (m : Nat) (T : md_T) (fu : Int32) (k : Nat) (S : md_A) (z : sh_S) (q : Int32) (hu : md_un ids h m T fu k S z) : rl_Met l (rl_e D ids H0) rl_BW rl_Ns yX8_scan cX8_scan 2 (some .int) ({ frames := 1, cells := 0, slots := 0, locals := 28 }) [.ref m, .int q] h n (fun v h' n' => ∃ r : Int32, v = some (.int r) ∧ n' = n ∧ md_ok ids h' m (sh_scan z q).2 ∧ r = (sh_scan z q).1 ∧ rl_fr h h' m (m + 23)) := by
  obtain ⟨hq, hs, ⟨hsc, hsc4⟩, hwf, ⟨hrr, hr36⟩, ⟨hnc, hn16⟩, hnw, hpr, hnv, hwv, wrc, hrc6, hrc⟩ := id hu
  have hq0 := hq.ob (nI 0, T.2) fu k hq.2.1
  have g0 := hq.1
  obtain ⟨-, gk, ⟨⟨cl, g12⟩, ⟨tu, g13, b13⟩, ⟨im, g14⟩, ⟨te, g15, b15⟩, ⟨ne, g16⟩, ⟨la, g17⟩, ⟨hn, g18⟩, ⟨hl, g19⟩, ⟨tp, g20⟩, ⟨gr, g21, b21⟩, ⟨it, g22⟩⟩, gf⟩ := id hq
  obtain ⟨a1, a2, a3, a4, a5, a6, a7, a8, a9, a10, a11⟩ := id hs
  have hu0 : md_un ids _ m (nI 0, T.2) fu k S z := hu.dp hq0 rfl rfl rfl rfl ⟨wrc, hrc6, hrc⟩
  refine rl_Met.of (by decide +kernel) (Nat.le_of_ble_eq_true rfl) ?_
  intro X hC hB
  show rl_G X (rl_e D ids H0) 0 [some (.ref m), some (.int q)] [] h n 0 0
  refine o_aload_n hC dX8_scan_0 (by rfl) ?_
  refine o_iconst (v := nI 0) hC dX8_scan_1 (by decide +kernel) ?_
  refine o_putf hC (fX8_78 hC rfl) (fwX8 rfl rfl rfl (Or.inl rfl)) dX8_scan_2 (by repeat (first | with_reducible assumption | (rw [rl_u_s]; done) | (rw [rl_u_s]; rfl) | rw [rl_u_n (by first | with_reducible assumption | omega)])) (Nat.le_of_ble_eq_true rfl) ?_
  try simp only [List.set_cons_zero, List.set_cons_succ]
  refine o_iload_n hC dX8_scan_5 (by rfl) ?_
  refine o_if_lt (tgt := 17) hC dX8_scan_6 (by decide) (fun c_6 => ?_) (fun c_6 => ?_)
  · refine o_iconst (v := (-1 : Int32)) hC dX8_scan_17 (by decide +kernel) ?_
    refine o_iret hC hB dX8_scan_18 (Nat.le_of_ble_eq_true rfl) (Nat.le_of_ble_eq_true rfl) ?_
    first
    | (have e : sh_scan z q = (-1, z) := if_pos (Or.inl c_6); exact ⟨_, rfl, rfl, (by rw [e]; exact ⟨_, _, _, S, hu.dp hq0 rfl rfl rfl rfl ⟨wrc, hrc6, hrc⟩⟩), (by rw [e]), hq0.fr⟩)
    | (have e : sh_scan z q = (-1, z) := if_pos (Or.inr (Int32.not_lt.mp c_14)); exact ⟨_, rfl, rfl, (by rw [e]; exact ⟨_, _, _, S, hu.dp hq0 rfl rfl rfl rfl ⟨wrc, hrc6, hrc⟩⟩), (by rw [e]), hq0.fr⟩)
  · refine o_iload_n hC dX8_scan_9 (by rfl) ?_
    refine o_aload_n hC dX8_scan_10 (by rfl) ?_
    refine o_getf (v := .int (nI z.1)) hC (fX8_109 hC rfl) dX8_scan_11 (by repeat (first | with_reducible assumption | (rw [rl_u_s]; done) | (rw [rl_u_s]; rfl) | rw [rl_u_n (by first | with_reducible assumption | omega)])) (by rw [← hsc]; rfl) ?_
    refine o_icmp_lt (tgt := 19) hC dX8_scan_14 (by decide) (fun c_14 => ?_) (fun c_14 => ?_)
    · obtain ⟨j, hj, rfl⟩ := nI_of_lt (k := z.1) (by omega) c_6 (fun e => absurd c_14 (Int32.not_lt.mpr e))
      obtain ⟨w, w1, w2, w3⟩ := hwv j hj
      refine o_aload_n hC dX8_scan_19 (by rfl) ?_
      refine o_iconst (v := nI 0) hC dX8_scan_20 (by decide +kernel) ?_
      refine o_iload_n hC dX8_scan_21 (by rfl) ?_
      refine o_iconst (v := nI 0) hC dX8_scan_22 (by decide +kernel) ?_
      refine o_iconst (v := nI 0) hC dX8_scan_23 (by decide +kernel) ?_
      refine o_iconst (v := nI 0) hC dX8_scan_24 (by decide +kernel) ?_
      refine o_iconst (v := nI 0) hC dX8_scan_25 (by decide +kernel) ?_
      refine o_iconst (v := nI 0) hC dX8_scan_26 (by decide +kernel) ?_
      refine o_aload_n hC dX8_scan_27 (by rfl) ?_
      refine o_getf hC (fX8_7 hC rfl) dX8_scan_28 (by repeat (first | with_reducible assumption | (rw [rl_u_s]; done) | (rw [rl_u_s]; rfl) | rw [rl_u_n (by first | with_reducible assumption | omega)])) (by first | rfl | with_reducible assumption) ?_
      refine o_iload_n hC dX8_scan_31 (by rfl) ?_
      refine o_ialdN (t0 := 0) (k := j) hC rfl dX8_scan_32 (by repeat (first | with_reducible assumption | (rw [rl_u_s]; done) | (rw [rl_u_s]; rfl) | rw [rl_u_n (by first | with_reducible assumption | omega)])) (by omega) (by decide) ?_
      rw [w3]
      refine o_callV8 hC rl_BW_good rl_Ns_nw (by exact hB.2.2.2.2.2) YX8_node IX8_node VX8_node (mX8_122 hC) (by rw [hB.1]; exact cm_X8_node l D ids H0 _ _ m _ _ _ S z _ _ _ _ _ _ _ _ hu0 (fun h16 => md_nv.new (op := 0) (w := w) (by decide) w1 (by omega) (fun q => absurd q (by decide)) (fun q => absurd q (by decide)) (fun q => absurd q (by decide)) (fun q => absurd q (by decide)) (fun q => absurd q (by decide)))) (by exact hu0.1.1) rfl rfl (Nat.le_of_ble_eq_true rfl) (by rw [hB.2.1]; first | exact Nat.le_of_ble_eq_true rfl | (dsimp only; omega)) (by rw [hB.2.1]; first | exact Nat.le_of_ble_eq_true rfl | (dsimp only; omega)) (by rw [hB.2.1]; first | exact Nat.le_of_ble_eq_true rfl | (dsimp only; omega)) (by rw [hB.2.1]; first | exact Nat.le_of_ble_eq_true rfl | (dsimp only; omega)) dX8_scan_33 (fun v h_33 n_33 p_33 => ?_)
      obtain ⟨r33, rfl, rfl, o1, o2, o3⟩ := p_33
      try dsimp only [Option.toList, List.cons_append, List.nil_append]
      refine o_iret hC hB dX8_scan_36 (Nat.le_of_ble_eq_true rfl) (Nat.le_of_ble_eq_true rfl) ?_
      (have e : sh_scan z (nI j) = sh_node z (nI w) := (if_neg (fun e => e.elim c_6 (fun e => absurd c_14 (Int32.not_lt.mpr e)))).trans (congrArg (sh_node z) (by rw [rl_cl (N := 4) (by omega) (by decide), ← hwf]; exact w3)); exact ⟨_, rfl, rfl, (by rw [e]; exact o1), (by rw [e]; exact o2), (fun q hq => (o3 q hq).trans (hq0.fr q hq))⟩)
    · refine o_iconst (v := (-1 : Int32)) hC dX8_scan_17 (by decide +kernel) ?_
      refine o_iret hC hB dX8_scan_18 (Nat.le_of_ble_eq_true rfl) (Nat.le_of_ble_eq_true rfl) ?_
      first
      | (have e : sh_scan z q = (-1, z) := if_pos (Or.inl c_6); exact ⟨_, rfl, rfl, (by rw [e]; exact ⟨_, _, _, S, hu.dp hq0 rfl rfl rfl rfl ⟨wrc, hrc6, hrc⟩⟩), (by rw [e]), hq0.fr⟩)
      | (have e : sh_scan z q = (-1, z) := if_pos (Or.inr (Int32.not_lt.mp c_14)); exact ⟨_, rfl, rfl, (by rw [e]; exact ⟨_, _, _, S, hu.dp hq0 rfl rfl rfl rfl ⟨wrc, hrc6, hrc⟩⟩), (by rw [e]), hq0.fr⟩)

set_option maxHeartbeats 4000000 in
set_option maxRecDepth 100000 in
theorem cm_X8_pick (l : Launch) (D : va_G) (ids : Nat → ClassId) (H0 : Heap) (h : rl_H) (n : Nat) (m : Nat) (T : md_T) (fu : Int32) (k : Nat) (S : md_A) (z : sh_S) (q kk sg ot vv : Int32) (hu : md_un ids h m T fu k S z) : rl_Met l (rl_e D ids H0) rl_BW rl_Ns yX8_pick cX8_pick 6 (some .int) ({ frames := 1, cells := 0, slots := 0, locals := 28 }) [.ref m, .int q, .int kk, .int sg, .int ot, .int vv] h n (fun v h' n' => ∃ r : Int32, v = some (.int r) ∧ n' = n ∧ md_ok ids h' m (sh_pick z q kk sg ot).2 ∧ r = (sh_pick z q kk sg ot).1 ∧ rl_fr h h' m (m + 23)) := by
  obtain ⟨hq, hs, ⟨hsc, hsc4⟩, hwf, ⟨hrr, hr36⟩, ⟨hnc, hn16⟩, hnw, hpr, hnv, hwv, wrc, hrc6, hrc⟩ := id hu
  have hq0 := hq.ob (nI 0, T.2) fu k hq.2.1
  have g0 := hq.1
  obtain ⟨-, gk, ⟨⟨cl, g12⟩, ⟨tu, g13, b13⟩, ⟨im, g14⟩, ⟨te, g15, b15⟩, ⟨ne, g16⟩, ⟨la, g17⟩, ⟨hn, g18⟩, ⟨hl, g19⟩, ⟨tp, g20⟩, ⟨gr, g21, b21⟩, ⟨it, g22⟩⟩, gf⟩ := id hq
  obtain ⟨a1, a2, a3, a4, a5, a6, a7, a8, a9, a10, a11⟩ := id hs
  have hu0 : md_un ids _ m (nI 0, T.2) fu k S z := hu.dp hq0 rfl rfl rfl rfl ⟨wrc, hrc6, hrc⟩
  refine rl_Met.of (by decide +kernel) (Nat.le_of_ble_eq_true rfl) ?_
  intro X hC hB
  show rl_G X (rl_e D ids H0) 0 [some (.ref m), some (.int q), some (.int kk), some (.int sg), some (.int ot), some (.int vv)] [] h n 0 0
  refine o_aload_n hC dX8_pick_0 (by rfl) ?_
  refine o_iconst (v := nI 0) hC dX8_pick_1 (by decide +kernel) ?_
  refine o_putf hC (fX8_78 hC rfl) (fwX8 rfl rfl rfl (Or.inl rfl)) dX8_pick_2 (by repeat (first | with_reducible assumption | (rw [rl_u_s]; done) | (rw [rl_u_s]; rfl) | rw [rl_u_n (by first | with_reducible assumption | omega)])) (Nat.le_of_ble_eq_true rfl) ?_
  try simp only [List.set_cons_zero, List.set_cons_succ]
  refine o_aload_n hC dX8_pick_5 (by rfl) ?_
  refine o_iload_n hC dX8_pick_6 (by rfl) ?_
  refine o_callV1 hC rl_BW_good rl_Ns_nw (by exact hB.2.2.2.2.2) YX8_isNode IX8_isNode VX8_isNode (mX8_126 hC) (by rw [hB.1]; exact cm_X8_isNode l D ids H0 _ _ m _ _ _ S z _ hu0) (by exact hu0.1.1) rfl rfl (Nat.le_of_ble_eq_true rfl) (by rw [hB.2.1]; first | exact Nat.le_of_ble_eq_true rfl | (dsimp only; omega)) (by rw [hB.2.1]; first | exact Nat.le_of_ble_eq_true rfl | (dsimp only; omega)) (by rw [hB.2.1]; first | exact Nat.le_of_ble_eq_true rfl | (dsimp only; omega)) (by rw [hB.2.1]; first | exact Nat.le_of_ble_eq_true rfl | (dsimp only; omega)) dX8_pick_7 (fun v h_7 n_7 p_7 => ?_)
  obtain ⟨z7, rfl, rfl, rfl, hz7⟩ := p_7
  try dsimp only [Option.toList, List.cons_append, List.nil_append]
  refine o_if_eq (tgt := 38) hC dX8_pick_10 (by decide) (fun c_10 => ?_) (fun c_10 => ?_)
  · refine o_iconst (v := (-1 : Int32)) hC dX8_pick_38 (by decide +kernel) ?_
    refine o_iret hC hB dX8_pick_39 (Nat.le_of_ble_eq_true rfl) (Nat.le_of_ble_eq_true rfl) ?_
    first
    | (have e : sh_pick z q kk sg ot = (-1, z) := if_pos (Or.inl (Or.inl (hz7.elim (fun a => a.2) (fun a => absurd (c_10.symm.trans a.1) (by decide +kernel))))); exact ⟨_, rfl, rfl, (by rw [e]; exact ⟨_, _, _, S, hu.dp hq0 rfl rfl rfl rfl ⟨wrc, hrc6, hrc⟩⟩), (by rw [e]), hq0.fr⟩)
    | (have e : sh_pick z (nI j) kk sg ot = (-1, z) := if_pos (Or.inl (hz16.elim (fun a => a.2) (fun a => absurd (c_19.symm.trans a.1) (by decide +kernel)))); exact ⟨_, rfl, rfl, (by rw [e]; exact ⟨_, _, _, S, hu.dp hq0 rfl rfl rfl rfl ⟨wrc, hrc6, hrc⟩⟩), (by rw [e]), hq0.fr⟩)
    | (have e : sh_pick z (nI j) kk sg ot = (-1, z) := if_pos (Or.inr ⟨c_25, (hz32.elim (fun a => a.2) (fun a => absurd (c_35.symm.trans a.1) (by decide +kernel)))⟩); exact ⟨_, rfl, rfl, (by rw [e]; exact ⟨_, _, _, S, hu.dp hq0 rfl rfl rfl rfl ⟨wrc, hrc6, hrc⟩⟩), (by rw [e]), hq0.fr⟩)
  · have nn : ¬ sh_nn z q := (hz7.elim (fun a => absurd a.1 c_10) (fun a => a.2))
    obtain ⟨j, w, hj, hj16, rfl, w1, w2, w3, w4⟩ := hu.nd nn
    refine o_aload_n hC dX8_pick_13 (by rfl) ?_
    refine o_iload_n hC dX8_pick_14 (by rfl) ?_
    refine o_iload_n hC dX8_pick_15 (by rfl) ?_
    refine o_callV2 hC rl_BW_good rl_Ns_nw (by exact hB.2.2.2.2.2) YX8_isColumn IX8_isColumn VX8_isColumn (mX8_129 hC) (by rw [hB.1]; exact cm_X8_isColumn l D ids H0 _ _ m _ _ _ S z j _ hu0 hj16) (by exact hu0.1.1) rfl rfl (Nat.le_of_ble_eq_true rfl) (by rw [hB.2.1]; first | exact Nat.le_of_ble_eq_true rfl | (dsimp only; omega)) (by rw [hB.2.1]; first | exact Nat.le_of_ble_eq_true rfl | (dsimp only; omega)) (by rw [hB.2.1]; first | exact Nat.le_of_ble_eq_true rfl | (dsimp only; omega)) (by rw [hB.2.1]; first | exact Nat.le_of_ble_eq_true rfl | (dsimp only; omega)) dX8_pick_16 (fun v h_16 n_16 p_16 => ?_)
    obtain ⟨z16, rfl, rfl, rfl, hz16⟩ := p_16
    replace hz16 := md_nkz nn (w4.trans w3.symm) hz16
    try dsimp only [Option.toList, List.cons_append, List.nil_append]
    refine o_if_eq (tgt := 38) hC dX8_pick_19 (by decide) (fun c_19 => ?_) (fun c_19 => ?_)
    · refine o_iconst (v := (-1 : Int32)) hC dX8_pick_38 (by decide +kernel) ?_
      refine o_iret hC hB dX8_pick_39 (Nat.le_of_ble_eq_true rfl) (Nat.le_of_ble_eq_true rfl) ?_
      first
      | (have e : sh_pick z q kk sg ot = (-1, z) := if_pos (Or.inl (Or.inl (hz7.elim (fun a => a.2) (fun a => absurd (c_10.symm.trans a.1) (by decide +kernel))))); exact ⟨_, rfl, rfl, (by rw [e]; exact ⟨_, _, _, S, hu.dp hq0 rfl rfl rfl rfl ⟨wrc, hrc6, hrc⟩⟩), (by rw [e]), hq0.fr⟩)
      | (have e : sh_pick z (nI j) kk sg ot = (-1, z) := if_pos (Or.inl (hz16.elim (fun a => a.2) (fun a => absurd (c_19.symm.trans a.1) (by decide +kernel)))); exact ⟨_, rfl, rfl, (by rw [e]; exact ⟨_, _, _, S, hu.dp hq0 rfl rfl rfl rfl ⟨wrc, hrc6, hrc⟩⟩), (by rw [e]), hq0.fr⟩)
      | (have e : sh_pick z (nI j) kk sg ot = (-1, z) := if_pos (Or.inr ⟨c_25, (hz32.elim (fun a => a.2) (fun a => absurd (c_35.symm.trans a.1) (by decide +kernel)))⟩); exact ⟨_, rfl, rfl, (by rw [e]; exact ⟨_, _, _, S, hu.dp hq0 rfl rfl rfl rfl ⟨wrc, hrc6, hrc⟩⟩), (by rw [e]), hq0.fr⟩)
    · refine o_iload hC dX8_pick_22 (by rfl) ?_
      refine o_iconst (v := (-1 : Int32)) hC dX8_pick_24 (by decide +kernel) ?_
      refine o_icmp_eq (tgt := 40) hC dX8_pick_25 (by decide) (fun c_25 => ?_) (fun c_25 => ?_)
      · have nk : ¬ (sh_nk z (nI j) kk ∨ (ot ≠ -1 ∧ sh_nk z (nI j) ot)) := by
          first
          | exact fun w => w.elim (hz16.elim (fun a => absurd a.1 c_19) (fun a => a.2)) (fun w => w.1 c_25)
          | exact fun w => w.elim (hz16.elim (fun a => absurd a.1 c_19) (fun a => a.2)) (fun w => (hz32.elim (fun a => absurd a.1 c_35) (fun a => a.2)) w.2)
        refine o_iload_n hC dX8_pick_40 (by rfl) ?_
        refine o_if_lt (tgt := 49) hC dX8_pick_41 (by decide) (fun c_41 => ?_) (fun c_41 => ?_)
        · refine o_bipush (v := (-2 : Int32)) hC dX8_pick_49 (by decide +kernel) ?_
          refine o_iret hC hB dX8_pick_51 (Nat.le_of_ble_eq_true rfl) (Nat.le_of_ble_eq_true rfl) ?_
          first
          | (have e : sh_pick z (nI j) kk sg ot = (-2, z) := (if_neg nk).trans (if_pos (Or.inl c_41)); exact ⟨_, rfl, rfl, (by rw [e]; exact ⟨_, _, _, S, hu.dp hq0 rfl rfl rfl rfl ⟨wrc, hrc6, hrc⟩⟩), (by rw [e]), hq0.fr⟩)
          | (have e : sh_pick z (nI j) kk sg ot = (-2, z) := (if_neg nk).trans (if_pos (Or.inr c_46)); exact ⟨_, rfl, rfl, (by rw [e]; exact ⟨_, _, _, S, hu.dp hq0 rfl rfl rfl rfl ⟨wrc, hrc6, hrc⟩⟩), (by rw [e]), hq0.fr⟩)
        · refine o_iload_n hC dX8_pick_44 (by rfl) ?_
          refine o_iconst (v := nI 2) hC dX8_pick_45 (by decide +kernel) ?_
          refine o_icmp_le (tgt := 52) hC dX8_pick_46 (by decide) (fun c_46 => ?_) (fun c_46 => ?_)
          · obtain ⟨c9, hc9, rfl⟩ := md_co w4 w2 (fun w => nk (Or.inl w))
            have hot : ot = -1 ∨ ∃ c5 : Nat, c5 < 6 ∧ ot = nI c5 := by
              by_cases eo : ot = -1
              · exact Or.inl eo
              · exact Or.inr (md_co w4 w2 (fun w => nk (Or.inr ⟨eo, w⟩)))
            refine o_aload_n hC dX8_pick_52 (by rfl) ?_
            refine o_iconst (v := nI 1) hC dX8_pick_53 (by decide +kernel) ?_
            refine o_iload_n hC dX8_pick_54 (by rfl) ?_
            refine o_iconst (v := nI 0) hC dX8_pick_55 (by decide +kernel) ?_
            refine o_iload_n hC dX8_pick_56 (by rfl) ?_
            refine o_iload_n hC dX8_pick_57 (by rfl) ?_
            refine o_iload hC dX8_pick_58 (by rfl) ?_
            refine o_iload hC dX8_pick_60 (by rfl) ?_
            refine o_aload_n hC dX8_pick_62 (by rfl) ?_
            refine o_getf hC (fX8_40 hC rfl) dX8_pick_63 (by repeat (first | with_reducible assumption | (rw [rl_u_s]; done) | (rw [rl_u_s]; rfl) | rw [rl_u_n (by first | with_reducible assumption | omega)])) (by first | rfl | with_reducible assumption) ?_
            refine o_iload_n hC dX8_pick_66 (by rfl) ?_
            refine o_ialdN (t0 := 0) (k := j) hC rfl dX8_pick_67 (by repeat (first | with_reducible assumption | (rw [rl_u_s]; done) | (rw [rl_u_s]; rfl) | rw [rl_u_n (by first | with_reducible assumption | omega)])) (by omega) (by decide) ?_
            rw [w3]
            refine o_callV8 hC rl_BW_good rl_Ns_nw (by exact hB.2.2.2.2.2) YX8_node IX8_node VX8_node (mX8_122 hC) (by rw [hB.1]; exact cm_X8_node l D ids H0 _ _ m _ _ _ S z _ _ _ _ _ _ _ _ hu0 (fun h16 => md_nv.new (op := 1) (w := w) (by decide) w1 w2 (fun _ => ⟨j, w, hj, w2, rfl, w3, fun q => absurd q (by decide)⟩) (fun _ => ⟨c9, hc9, rfl⟩) (fun _ => hot) (fun q => absurd q (by decide)) (fun q => absurd q (by decide)))) (by exact hu0.1.1) rfl rfl (Nat.le_of_ble_eq_true rfl) (by rw [hB.2.1]; first | exact Nat.le_of_ble_eq_true rfl | (dsimp only; omega)) (by rw [hB.2.1]; first | exact Nat.le_of_ble_eq_true rfl | (dsimp only; omega)) (by rw [hB.2.1]; first | exact Nat.le_of_ble_eq_true rfl | (dsimp only; omega)) (by rw [hB.2.1]; first | exact Nat.le_of_ble_eq_true rfl | (dsimp only; omega)) dX8_pick_68 (fun v h_68 n_68 p_68 => ?_)
            obtain ⟨r68, rfl, rfl, o1, o2, o3⟩ := p_68
            try dsimp only [Option.toList, List.cons_append, List.nil_append]
            refine o_iret hC hB dX8_pick_71 (Nat.le_of_ble_eq_true rfl) (Nat.le_of_ble_eq_true rfl) ?_
            (have e : sh_pick z (nI j) (nI c9) sg ot = sh_node z (nI w) := ((if_neg nk).trans (if_neg (fun w => w.elim c_41 (fun w => w c_46)))).trans (congrArg (sh_node z) w4); exact ⟨_, rfl, rfl, (by rw [e]; exact o1), (by rw [e]; exact o2), (fun q hq => (o3 q hq).trans (hq0.fr q hq))⟩)
          · refine o_bipush (v := (-2 : Int32)) hC dX8_pick_49 (by decide +kernel) ?_
            refine o_iret hC hB dX8_pick_51 (Nat.le_of_ble_eq_true rfl) (Nat.le_of_ble_eq_true rfl) ?_
            first
            | (have e : sh_pick z (nI j) kk sg ot = (-2, z) := (if_neg nk).trans (if_pos (Or.inl c_41)); exact ⟨_, rfl, rfl, (by rw [e]; exact ⟨_, _, _, S, hu.dp hq0 rfl rfl rfl rfl ⟨wrc, hrc6, hrc⟩⟩), (by rw [e]), hq0.fr⟩)
            | (have e : sh_pick z (nI j) kk sg ot = (-2, z) := (if_neg nk).trans (if_pos (Or.inr c_46)); exact ⟨_, rfl, rfl, (by rw [e]; exact ⟨_, _, _, S, hu.dp hq0 rfl rfl rfl rfl ⟨wrc, hrc6, hrc⟩⟩), (by rw [e]), hq0.fr⟩)
      · refine o_aload_n hC dX8_pick_28 (by rfl) ?_
        refine o_iload_n hC dX8_pick_29 (by rfl) ?_
        refine o_iload hC dX8_pick_30 (by rfl) ?_
        refine o_callV2 hC rl_BW_good rl_Ns_nw (by exact hB.2.2.2.2.2) YX8_isColumn IX8_isColumn VX8_isColumn (mX8_129 hC) (by rw [hB.1]; exact cm_X8_isColumn l D ids H0 _ _ m _ _ _ S z j _ hu0 hj16) (by exact hu0.1.1) rfl rfl (Nat.le_of_ble_eq_true rfl) (by rw [hB.2.1]; first | exact Nat.le_of_ble_eq_true rfl | (dsimp only; omega)) (by rw [hB.2.1]; first | exact Nat.le_of_ble_eq_true rfl | (dsimp only; omega)) (by rw [hB.2.1]; first | exact Nat.le_of_ble_eq_true rfl | (dsimp only; omega)) (by rw [hB.2.1]; first | exact Nat.le_of_ble_eq_true rfl | (dsimp only; omega)) dX8_pick_32 (fun v h_32 n_32 p_32 => ?_)
        obtain ⟨z32, rfl, rfl, rfl, hz32⟩ := p_32
        replace hz32 := md_nkz nn (w4.trans w3.symm) hz32
        try dsimp only [Option.toList, List.cons_append, List.nil_append]
        refine o_if_ne (tgt := 40) hC dX8_pick_35 (by decide) (fun c_35 => ?_) (fun c_35 => ?_)
        · have nk : ¬ (sh_nk z (nI j) kk ∨ (ot ≠ -1 ∧ sh_nk z (nI j) ot)) := by
            first
            | exact fun w => w.elim (hz16.elim (fun a => absurd a.1 c_19) (fun a => a.2)) (fun w => w.1 c_25)
            | exact fun w => w.elim (hz16.elim (fun a => absurd a.1 c_19) (fun a => a.2)) (fun w => (hz32.elim (fun a => absurd a.1 c_35) (fun a => a.2)) w.2)
          refine o_iload_n hC dX8_pick_40 (by rfl) ?_
          refine o_if_lt (tgt := 49) hC dX8_pick_41 (by decide) (fun c_41 => ?_) (fun c_41 => ?_)
          · refine o_bipush (v := (-2 : Int32)) hC dX8_pick_49 (by decide +kernel) ?_
            refine o_iret hC hB dX8_pick_51 (Nat.le_of_ble_eq_true rfl) (Nat.le_of_ble_eq_true rfl) ?_
            first
            | (have e : sh_pick z (nI j) kk sg ot = (-2, z) := (if_neg nk).trans (if_pos (Or.inl c_41)); exact ⟨_, rfl, rfl, (by rw [e]; exact ⟨_, _, _, S, hu.dp hq0 rfl rfl rfl rfl ⟨wrc, hrc6, hrc⟩⟩), (by rw [e]), hq0.fr⟩)
            | (have e : sh_pick z (nI j) kk sg ot = (-2, z) := (if_neg nk).trans (if_pos (Or.inr c_46)); exact ⟨_, rfl, rfl, (by rw [e]; exact ⟨_, _, _, S, hu.dp hq0 rfl rfl rfl rfl ⟨wrc, hrc6, hrc⟩⟩), (by rw [e]), hq0.fr⟩)
          · refine o_iload_n hC dX8_pick_44 (by rfl) ?_
            refine o_iconst (v := nI 2) hC dX8_pick_45 (by decide +kernel) ?_
            refine o_icmp_le (tgt := 52) hC dX8_pick_46 (by decide) (fun c_46 => ?_) (fun c_46 => ?_)
            · obtain ⟨c9, hc9, rfl⟩ := md_co w4 w2 (fun w => nk (Or.inl w))
              have hot : ot = -1 ∨ ∃ c5 : Nat, c5 < 6 ∧ ot = nI c5 := by
                by_cases eo : ot = -1
                · exact Or.inl eo
                · exact Or.inr (md_co w4 w2 (fun w => nk (Or.inr ⟨eo, w⟩)))
              refine o_aload_n hC dX8_pick_52 (by rfl) ?_
              refine o_iconst (v := nI 1) hC dX8_pick_53 (by decide +kernel) ?_
              refine o_iload_n hC dX8_pick_54 (by rfl) ?_
              refine o_iconst (v := nI 0) hC dX8_pick_55 (by decide +kernel) ?_
              refine o_iload_n hC dX8_pick_56 (by rfl) ?_
              refine o_iload_n hC dX8_pick_57 (by rfl) ?_
              refine o_iload hC dX8_pick_58 (by rfl) ?_
              refine o_iload hC dX8_pick_60 (by rfl) ?_
              refine o_aload_n hC dX8_pick_62 (by rfl) ?_
              refine o_getf hC (fX8_40 hC rfl) dX8_pick_63 (by repeat (first | with_reducible assumption | (rw [rl_u_s]; done) | (rw [rl_u_s]; rfl) | rw [rl_u_n (by first | with_reducible assumption | omega)])) (by first | rfl | with_reducible assumption) ?_
              refine o_iload_n hC dX8_pick_66 (by rfl) ?_
              refine o_ialdN (t0 := 0) (k := j) hC rfl dX8_pick_67 (by repeat (first | with_reducible assumption | (rw [rl_u_s]; done) | (rw [rl_u_s]; rfl) | rw [rl_u_n (by first | with_reducible assumption | omega)])) (by omega) (by decide) ?_
              rw [w3]
              refine o_callV8 hC rl_BW_good rl_Ns_nw (by exact hB.2.2.2.2.2) YX8_node IX8_node VX8_node (mX8_122 hC) (by rw [hB.1]; exact cm_X8_node l D ids H0 _ _ m _ _ _ S z _ _ _ _ _ _ _ _ hu0 (fun h16 => md_nv.new (op := 1) (w := w) (by decide) w1 w2 (fun _ => ⟨j, w, hj, w2, rfl, w3, fun q => absurd q (by decide)⟩) (fun _ => ⟨c9, hc9, rfl⟩) (fun _ => hot) (fun q => absurd q (by decide)) (fun q => absurd q (by decide)))) (by exact hu0.1.1) rfl rfl (Nat.le_of_ble_eq_true rfl) (by rw [hB.2.1]; first | exact Nat.le_of_ble_eq_true rfl | (dsimp only; omega)) (by rw [hB.2.1]; first | exact Nat.le_of_ble_eq_true rfl | (dsimp only; omega)) (by rw [hB.2.1]; first | exact Nat.le_of_ble_eq_true rfl | (dsimp only; omega)) (by rw [hB.2.1]; first | exact Nat.le_of_ble_eq_true rfl | (dsimp only; omega)) dX8_pick_68 (fun v h_68 n_68 p_68 => ?_)
              obtain ⟨r68, rfl, rfl, o1, o2, o3⟩ := p_68
              try dsimp only [Option.toList, List.cons_append, List.nil_append]
              refine o_iret hC hB dX8_pick_71 (Nat.le_of_ble_eq_true rfl) (Nat.le_of_ble_eq_true rfl) ?_
              (have e : sh_pick z (nI j) (nI c9) sg ot = sh_node z (nI w) := ((if_neg nk).trans (if_neg (fun w => w.elim c_41 (fun w => w c_46)))).trans (congrArg (sh_node z) w4); exact ⟨_, rfl, rfl, (by rw [e]; exact o1), (by rw [e]; exact o2), (fun q hq => (o3 q hq).trans (hq0.fr q hq))⟩)
            · refine o_bipush (v := (-2 : Int32)) hC dX8_pick_49 (by decide +kernel) ?_
              refine o_iret hC hB dX8_pick_51 (Nat.le_of_ble_eq_true rfl) (Nat.le_of_ble_eq_true rfl) ?_
              first
              | (have e : sh_pick z (nI j) kk sg ot = (-2, z) := (if_neg nk).trans (if_pos (Or.inl c_41)); exact ⟨_, rfl, rfl, (by rw [e]; exact ⟨_, _, _, S, hu.dp hq0 rfl rfl rfl rfl ⟨wrc, hrc6, hrc⟩⟩), (by rw [e]), hq0.fr⟩)
              | (have e : sh_pick z (nI j) kk sg ot = (-2, z) := (if_neg nk).trans (if_pos (Or.inr c_46)); exact ⟨_, rfl, rfl, (by rw [e]; exact ⟨_, _, _, S, hu.dp hq0 rfl rfl rfl rfl ⟨wrc, hrc6, hrc⟩⟩), (by rw [e]), hq0.fr⟩)
        · refine o_iconst (v := (-1 : Int32)) hC dX8_pick_38 (by decide +kernel) ?_
          refine o_iret hC hB dX8_pick_39 (Nat.le_of_ble_eq_true rfl) (Nat.le_of_ble_eq_true rfl) ?_
          first
          | (have e : sh_pick z q kk sg ot = (-1, z) := if_pos (Or.inl (Or.inl (hz7.elim (fun a => a.2) (fun a => absurd (c_10.symm.trans a.1) (by decide +kernel))))); exact ⟨_, rfl, rfl, (by rw [e]; exact ⟨_, _, _, S, hu.dp hq0 rfl rfl rfl rfl ⟨wrc, hrc6, hrc⟩⟩), (by rw [e]), hq0.fr⟩)
          | (have e : sh_pick z (nI j) kk sg ot = (-1, z) := if_pos (Or.inl (hz16.elim (fun a => a.2) (fun a => absurd (c_19.symm.trans a.1) (by decide +kernel)))); exact ⟨_, rfl, rfl, (by rw [e]; exact ⟨_, _, _, S, hu.dp hq0 rfl rfl rfl rfl ⟨wrc, hrc6, hrc⟩⟩), (by rw [e]), hq0.fr⟩)
          | (have e : sh_pick z (nI j) kk sg ot = (-1, z) := if_pos (Or.inr ⟨c_25, (hz32.elim (fun a => a.2) (fun a => absurd (c_35.symm.trans a.1) (by decide +kernel)))⟩); exact ⟨_, rfl, rfl, (by rw [e]; exact ⟨_, _, _, S, hu.dp hq0 rfl rfl rfl rfl ⟨wrc, hrc6, hrc⟩⟩), (by rw [e]), hq0.fr⟩)

set_option maxHeartbeats 4000000 in
set_option maxRecDepth 100000 in
theorem cm_X8_join (l : Launch) (D : va_G) (ids : Nat → ClassId) (H0 : Heap) (h : rl_H) (n : Nat) (m : Nat) (T : md_T) (fu : Int32) (k : Nat) (S : md_A) (z : sh_S) (a b i jj : Int32) (hu : md_un ids h m T fu k S z) : rl_Met l (rl_e D ids H0) rl_BW rl_Ns yX8_join cX8_join 6 (some .int) ({ frames := 1, cells := 0, slots := 0, locals := 28 }) [.ref m, .int a, .int b, .int i, .int jj] h n (fun v h' n' => ∃ r : Int32, v = some (.int r) ∧ n' = n ∧ md_ok ids h' m (sh_join z a b i jj).2 ∧ r = (sh_join z a b i jj).1 ∧ rl_fr h h' m (m + 23)) := by
  obtain ⟨hq, hs, ⟨hsc, hsc4⟩, hwf, ⟨hrr, hr36⟩, ⟨hnc, hn16⟩, hnw, hpr, hnv, hwv, wrc, hrc6, hrc⟩ := id hu
  have hq0 := hq.ob (nI 0, T.2) fu k hq.2.1
  have g0 := hq.1
  obtain ⟨-, gk, ⟨⟨cl, g12⟩, ⟨tu, g13, b13⟩, ⟨im, g14⟩, ⟨te, g15, b15⟩, ⟨ne, g16⟩, ⟨la, g17⟩, ⟨hn, g18⟩, ⟨hl, g19⟩, ⟨tp, g20⟩, ⟨gr, g21, b21⟩, ⟨it, g22⟩⟩, gf⟩ := id hq
  obtain ⟨a1, a2, a3, a4, a5, a6, a7, a8, a9, a10, a11⟩ := id hs
  have hu0 : md_un ids _ m (nI 0, T.2) fu k S z := hu.dp hq0 rfl rfl rfl rfl ⟨wrc, hrc6, hrc⟩
  refine rl_Met.of (by decide +kernel) (Nat.le_of_ble_eq_true rfl) ?_
  intro X hC hB
  show rl_G X (rl_e D ids H0) 0 [some (.ref m), some (.int a), some (.int b), some (.int i), some (.int jj), none] [] h n 0 0
  refine o_aload_n hC dX8_join_0 (by rfl) ?_
  refine o_iconst (v := nI 0) hC dX8_join_1 (by decide +kernel) ?_
  refine o_putf hC (fX8_78 hC rfl) (fwX8 rfl rfl rfl (Or.inl rfl)) dX8_join_2 (by repeat (first | with_reducible assumption | (rw [rl_u_s]; done) | (rw [rl_u_s]; rfl) | rw [rl_u_n (by first | with_reducible assumption | omega)])) (Nat.le_of_ble_eq_true rfl) ?_
  try simp only [List.set_cons_zero, List.set_cons_succ]
  refine o_aload_n hC dX8_join_5 (by rfl) ?_
  refine o_iload_n hC dX8_join_6 (by rfl) ?_
  refine o_callV1 hC rl_BW_good rl_Ns_nw (by exact hB.2.2.2.2.2) YX8_isNode IX8_isNode VX8_isNode (mX8_126 hC) (by rw [hB.1]; exact cm_X8_isNode l D ids H0 _ _ m _ _ _ S z _ hu0) (by exact hu0.1.1) rfl rfl (Nat.le_of_ble_eq_true rfl) (by rw [hB.2.1]; first | exact Nat.le_of_ble_eq_true rfl | (dsimp only; omega)) (by rw [hB.2.1]; first | exact Nat.le_of_ble_eq_true rfl | (dsimp only; omega)) (by rw [hB.2.1]; first | exact Nat.le_of_ble_eq_true rfl | (dsimp only; omega)) (by rw [hB.2.1]; first | exact Nat.le_of_ble_eq_true rfl | (dsimp only; omega)) dX8_join_7 (fun v h_7 n_7 p_7 => ?_)
  obtain ⟨z7, rfl, rfl, rfl, hz7⟩ := p_7
  try dsimp only [Option.toList, List.cons_append, List.nil_append]
  refine o_if_eq (tgt := 40) hC dX8_join_10 (by decide) (fun c_10 => ?_) (fun c_10 => ?_)
  · refine o_iconst (v := (-1 : Int32)) hC dX8_join_40 (by decide +kernel) ?_
    refine o_iret hC hB dX8_join_41 (Nat.le_of_ble_eq_true rfl) (Nat.le_of_ble_eq_true rfl) ?_
    first
    | (have e : sh_join z a b i jj = (-1, z) := if_pos (Or.inl (Or.inl (hz7.elim (fun a => a.2) (fun a => absurd (c_10.symm.trans a.1) (by decide +kernel))))); exact ⟨_, rfl, rfl, (by rw [e]; exact ⟨_, _, _, S, hu.dp hq0 rfl rfl rfl rfl ⟨wrc, hrc6, hrc⟩⟩), (by rw [e]), hq0.fr⟩)
    | (have e : sh_join z a b i jj = (-1, z) := if_pos (Or.inr (Or.inl (hz15.elim (fun a => a.2) (fun a => absurd (c_18.symm.trans a.1) (by decide +kernel))))); exact ⟨_, rfl, rfl, (by rw [e]; exact ⟨_, _, _, S, hu.dp hq0 rfl rfl rfl rfl ⟨wrc, hrc6, hrc⟩⟩), (by rw [e]), hq0.fr⟩)
    | (have e : sh_join z (nI ja) (nI jb) i jj = (-1, z) := if_pos (Or.inl (hz24.elim (fun a => a.2) (fun a => absurd (c_27.symm.trans a.1) (by decide +kernel)))); exact ⟨_, rfl, rfl, (by rw [e]; exact ⟨_, _, _, S, hu.dp hq0 rfl rfl rfl rfl ⟨wrc, hrc6, hrc⟩⟩), (by rw [e]), hq0.fr⟩)
    | (have e : sh_join z (nI ja) (nI jb) i jj = (-1, z) := if_pos (Or.inr (hz34.elim (fun a => a.2) (fun a => absurd (c_37.symm.trans a.1) (by decide +kernel)))); exact ⟨_, rfl, rfl, (by rw [e]; exact ⟨_, _, _, S, hu.dp hq0 rfl rfl rfl rfl ⟨wrc, hrc6, hrc⟩⟩), (by rw [e]), hq0.fr⟩)
  · refine o_aload_n hC dX8_join_13 (by rfl) ?_
    refine o_iload_n hC dX8_join_14 (by rfl) ?_
    refine o_callV1 hC rl_BW_good rl_Ns_nw (by exact hB.2.2.2.2.2) YX8_isNode IX8_isNode VX8_isNode (mX8_126 hC) (by rw [hB.1]; exact cm_X8_isNode l D ids H0 _ _ m _ _ _ S z _ hu0) (by exact hu0.1.1) rfl rfl (Nat.le_of_ble_eq_true rfl) (by rw [hB.2.1]; first | exact Nat.le_of_ble_eq_true rfl | (dsimp only; omega)) (by rw [hB.2.1]; first | exact Nat.le_of_ble_eq_true rfl | (dsimp only; omega)) (by rw [hB.2.1]; first | exact Nat.le_of_ble_eq_true rfl | (dsimp only; omega)) (by rw [hB.2.1]; first | exact Nat.le_of_ble_eq_true rfl | (dsimp only; omega)) dX8_join_15 (fun v h_15 n_15 p_15 => ?_)
    obtain ⟨z15, rfl, rfl, rfl, hz15⟩ := p_15
    try dsimp only [Option.toList, List.cons_append, List.nil_append]
    refine o_if_eq (tgt := 40) hC dX8_join_18 (by decide) (fun c_18 => ?_) (fun c_18 => ?_)
    · refine o_iconst (v := (-1 : Int32)) hC dX8_join_40 (by decide +kernel) ?_
      refine o_iret hC hB dX8_join_41 (Nat.le_of_ble_eq_true rfl) (Nat.le_of_ble_eq_true rfl) ?_
      first
      | (have e : sh_join z a b i jj = (-1, z) := if_pos (Or.inl (Or.inl (hz7.elim (fun a => a.2) (fun a => absurd (c_10.symm.trans a.1) (by decide +kernel))))); exact ⟨_, rfl, rfl, (by rw [e]; exact ⟨_, _, _, S, hu.dp hq0 rfl rfl rfl rfl ⟨wrc, hrc6, hrc⟩⟩), (by rw [e]), hq0.fr⟩)
      | (have e : sh_join z a b i jj = (-1, z) := if_pos (Or.inr (Or.inl (hz15.elim (fun a => a.2) (fun a => absurd (c_18.symm.trans a.1) (by decide +kernel))))); exact ⟨_, rfl, rfl, (by rw [e]; exact ⟨_, _, _, S, hu.dp hq0 rfl rfl rfl rfl ⟨wrc, hrc6, hrc⟩⟩), (by rw [e]), hq0.fr⟩)
      | (have e : sh_join z (nI ja) (nI jb) i jj = (-1, z) := if_pos (Or.inl (hz24.elim (fun a => a.2) (fun a => absurd (c_27.symm.trans a.1) (by decide +kernel)))); exact ⟨_, rfl, rfl, (by rw [e]; exact ⟨_, _, _, S, hu.dp hq0 rfl rfl rfl rfl ⟨wrc, hrc6, hrc⟩⟩), (by rw [e]), hq0.fr⟩)
      | (have e : sh_join z (nI ja) (nI jb) i jj = (-1, z) := if_pos (Or.inr (hz34.elim (fun a => a.2) (fun a => absurd (c_37.symm.trans a.1) (by decide +kernel)))); exact ⟨_, rfl, rfl, (by rw [e]; exact ⟨_, _, _, S, hu.dp hq0 rfl rfl rfl rfl ⟨wrc, hrc6, hrc⟩⟩), (by rw [e]), hq0.fr⟩)
    · have nna : ¬ sh_nn z a := (hz7.elim (fun a => absurd a.1 c_10) (fun a => a.2))
      obtain ⟨ja, wa, hja, hj16a, rfl, w1a, w2a, w3a, w4a⟩ := hu.nd nna
      have nnb : ¬ sh_nn z b := (hz15.elim (fun a => absurd a.1 c_18) (fun a => a.2))
      obtain ⟨jb, wb, hjb, hj16b, rfl, w1b, w2b, w3b, w4b⟩ := hu.nd nnb
      have ew : sh_w z (nI ja) + sh_w z (nI jb) = nI (wa + wb) := by rw [w4a, w4b, nI_add]
      refine o_aload_n hC dX8_join_21 (by rfl) ?_
      refine o_iload_n hC dX8_join_22 (by rfl) ?_
      refine o_iload_n hC dX8_join_23 (by rfl) ?_
      refine o_callV2 hC rl_BW_good rl_Ns_nw (by exact hB.2.2.2.2.2) YX8_isColumn IX8_isColumn VX8_isColumn (mX8_129 hC) (by rw [hB.1]; exact cm_X8_isColumn l D ids H0 _ _ m _ _ _ S z ja _ hu0 hj16a) (by exact hu0.1.1) rfl rfl (Nat.le_of_ble_eq_true rfl) (by rw [hB.2.1]; first | exact Nat.le_of_ble_eq_true rfl | (dsimp only; omega)) (by rw [hB.2.1]; first | exact Nat.le_of_ble_eq_true rfl | (dsimp only; omega)) (by rw [hB.2.1]; first | exact Nat.le_of_ble_eq_true rfl | (dsimp only; omega)) (by rw [hB.2.1]; first | exact Nat.le_of_ble_eq_true rfl | (dsimp only; omega)) dX8_join_24 (fun v h_24 n_24 p_24 => ?_)
      obtain ⟨z24, rfl, rfl, rfl, hz24⟩ := p_24
      replace hz24 := md_nkz nna (w4a.trans w3a.symm) hz24
      try dsimp only [Option.toList, List.cons_append, List.nil_append]
      refine o_if_eq (tgt := 40) hC dX8_join_27 (by decide) (fun c_27 => ?_) (fun c_27 => ?_)
      · refine o_iconst (v := (-1 : Int32)) hC dX8_join_40 (by decide +kernel) ?_
        refine o_iret hC hB dX8_join_41 (Nat.le_of_ble_eq_true rfl) (Nat.le_of_ble_eq_true rfl) ?_
        first
        | (have e : sh_join z a b i jj = (-1, z) := if_pos (Or.inl (Or.inl (hz7.elim (fun a => a.2) (fun a => absurd (c_10.symm.trans a.1) (by decide +kernel))))); exact ⟨_, rfl, rfl, (by rw [e]; exact ⟨_, _, _, S, hu.dp hq0 rfl rfl rfl rfl ⟨wrc, hrc6, hrc⟩⟩), (by rw [e]), hq0.fr⟩)
        | (have e : sh_join z a b i jj = (-1, z) := if_pos (Or.inr (Or.inl (hz15.elim (fun a => a.2) (fun a => absurd (c_18.symm.trans a.1) (by decide +kernel))))); exact ⟨_, rfl, rfl, (by rw [e]; exact ⟨_, _, _, S, hu.dp hq0 rfl rfl rfl rfl ⟨wrc, hrc6, hrc⟩⟩), (by rw [e]), hq0.fr⟩)
        | (have e : sh_join z (nI ja) (nI jb) i jj = (-1, z) := if_pos (Or.inl (hz24.elim (fun a => a.2) (fun a => absurd (c_27.symm.trans a.1) (by decide +kernel)))); exact ⟨_, rfl, rfl, (by rw [e]; exact ⟨_, _, _, S, hu.dp hq0 rfl rfl rfl rfl ⟨wrc, hrc6, hrc⟩⟩), (by rw [e]), hq0.fr⟩)
        | (have e : sh_join z (nI ja) (nI jb) i jj = (-1, z) := if_pos (Or.inr (hz34.elim (fun a => a.2) (fun a => absurd (c_37.symm.trans a.1) (by decide +kernel)))); exact ⟨_, rfl, rfl, (by rw [e]; exact ⟨_, _, _, S, hu.dp hq0 rfl rfl rfl rfl ⟨wrc, hrc6, hrc⟩⟩), (by rw [e]), hq0.fr⟩)
      · refine o_aload_n hC dX8_join_30 (by rfl) ?_
        refine o_iload_n hC dX8_join_31 (by rfl) ?_
        refine o_iload hC dX8_join_32 (by rfl) ?_
        refine o_callV2 hC rl_BW_good rl_Ns_nw (by exact hB.2.2.2.2.2) YX8_isColumn IX8_isColumn VX8_isColumn (mX8_129 hC) (by rw [hB.1]; exact cm_X8_isColumn l D ids H0 _ _ m _ _ _ S z jb _ hu0 hj16b) (by exact hu0.1.1) rfl rfl (Nat.le_of_ble_eq_true rfl) (by rw [hB.2.1]; first | exact Nat.le_of_ble_eq_true rfl | (dsimp only; omega)) (by rw [hB.2.1]; first | exact Nat.le_of_ble_eq_true rfl | (dsimp only; omega)) (by rw [hB.2.1]; first | exact Nat.le_of_ble_eq_true rfl | (dsimp only; omega)) (by rw [hB.2.1]; first | exact Nat.le_of_ble_eq_true rfl | (dsimp only; omega)) dX8_join_34 (fun v h_34 n_34 p_34 => ?_)
        obtain ⟨z34, rfl, rfl, rfl, hz34⟩ := p_34
        replace hz34 := md_nkz nnb (w4b.trans w3b.symm) hz34
        try dsimp only [Option.toList, List.cons_append, List.nil_append]
        refine o_if_ne (tgt := 42) hC dX8_join_37 (by decide) (fun c_37 => ?_) (fun c_37 => ?_)
        · have nk : ¬ (sh_nk z (nI ja) i ∨ sh_nk z (nI jb) jj) := fun w => w.elim (hz24.elim (fun a => absurd a.1 c_27) (fun a => a.2)) (hz34.elim (fun a => absurd a.1 c_37) (fun a => a.2))
          refine o_aload_n hC dX8_join_42 (by rfl) ?_
          refine o_getf hC (fX8_40 hC rfl) dX8_join_43 (by repeat (first | with_reducible assumption | (rw [rl_u_s]; done) | (rw [rl_u_s]; rfl) | rw [rl_u_n (by first | with_reducible assumption | omega)])) (by first | rfl | with_reducible assumption) ?_
          refine o_iload_n hC dX8_join_46 (by rfl) ?_
          refine o_ialdN (t0 := 0) (k := ja) hC rfl dX8_join_47 (by repeat (first | with_reducible assumption | (rw [rl_u_s]; done) | (rw [rl_u_s]; rfl) | rw [rl_u_n (by first | with_reducible assumption | omega)])) (by omega) (by decide) ?_
          rw [w3a]
          refine o_aload_n hC dX8_join_48 (by rfl) ?_
          refine o_getf hC (fX8_40 hC rfl) dX8_join_49 (by repeat (first | with_reducible assumption | (rw [rl_u_s]; done) | (rw [rl_u_s]; rfl) | rw [rl_u_n (by first | with_reducible assumption | omega)])) (by first | rfl | with_reducible assumption) ?_
          refine o_iload_n hC dX8_join_52 (by rfl) ?_
          refine o_ialdN (t0 := 0) (k := jb) hC rfl dX8_join_53 (by repeat (first | with_reducible assumption | (rw [rl_u_s]; done) | (rw [rl_u_s]; rfl) | rw [rl_u_n (by first | with_reducible assumption | omega)])) (by omega) (by decide) ?_
          rw [w3b]
          refine o_iadd hC dX8_join_54 ?_
          try rw [nI_add]
          refine o_istore hC dX8_join_55 (Nat.le_of_ble_eq_true rfl) ?_
          refine o_iload hC dX8_join_57 (by rfl) ?_
          refine o_bipush (v := nI 6) hC dX8_join_59 (by decide +kernel) ?_
          refine o_icmp_le (tgt := 69) hC dX8_join_61 (by decide) (fun c_61 => ?_) (fun c_61 => ?_)
          · obtain ⟨ci, hci, rfl⟩ := md_co w4a w2a (fun w => nk (Or.inl w))
            obtain ⟨cj, hcj, rfl⟩ := md_co w4b w2b (fun w => nk (Or.inr w))
            have hw6 : wa + wb ≤ 6 := (nI_leI (by omega) (by decide)).mp c_61
            refine o_aload_n hC dX8_join_69 (by rfl) ?_
            refine o_iconst (v := nI 3) hC dX8_join_70 (by decide +kernel) ?_
            refine o_iload_n hC dX8_join_71 (by rfl) ?_
            refine o_iload_n hC dX8_join_72 (by rfl) ?_
            refine o_iload_n hC dX8_join_73 (by rfl) ?_
            refine o_iload hC dX8_join_74 (by rfl) ?_
            refine o_iconst (v := nI 0) hC dX8_join_76 (by decide +kernel) ?_
            refine o_iconst (v := nI 0) hC dX8_join_77 (by decide +kernel) ?_
            refine o_iload hC dX8_join_78 (by rfl) ?_
            refine o_callV8 hC rl_BW_good rl_Ns_nw (by exact hB.2.2.2.2.2) YX8_node IX8_node VX8_node (mX8_122 hC) (by rw [hB.1]; exact cm_X8_node l D ids H0 _ _ m _ _ _ S z _ _ _ _ _ _ _ _ hu0 (fun h16 => md_nv.new (op := 3) (w := wa + wb) (by decide) (by omega) hw6 (fun _ => ⟨ja, wa, hja, w2a, rfl, w3a, fun _ => ⟨jb, wb, hjb, w2b, rfl, w3b, fun _ => hw6⟩⟩) (fun _ => ⟨ci, hci, rfl⟩) (fun q => absurd q (by decide)) (fun q => absurd q (by decide)) (fun _ => ⟨cj, hcj, rfl⟩))) (by exact hu0.1.1) rfl rfl (Nat.le_of_ble_eq_true rfl) (by rw [hB.2.1]; first | exact Nat.le_of_ble_eq_true rfl | (dsimp only; omega)) (by rw [hB.2.1]; first | exact Nat.le_of_ble_eq_true rfl | (dsimp only; omega)) (by rw [hB.2.1]; first | exact Nat.le_of_ble_eq_true rfl | (dsimp only; omega)) (by rw [hB.2.1]; first | exact Nat.le_of_ble_eq_true rfl | (dsimp only; omega)) dX8_join_80 (fun v h_80 n_80 p_80 => ?_)
            obtain ⟨r80, rfl, rfl, o1, o2, o3⟩ := p_80
            try dsimp only [Option.toList, List.cons_append, List.nil_append]
            refine o_iret hC hB dX8_join_83 (Nat.le_of_ble_eq_true rfl) (Nat.le_of_ble_eq_true rfl) ?_
            first
            | (have e : sh_join z (nI ja) (nI jb) i jj = (-2, z) := (if_neg nk).trans (if_pos (by rw [ew]; exact c_61)); exact ⟨_, rfl, rfl, (by rw [e]; exact ⟨_, _, _, S, hu.dp hq0 rfl rfl rfl rfl ⟨wrc, hrc6, hrc⟩⟩), (by rw [e]), hq0.fr⟩)
            | (have e : sh_join z (nI ja) (nI jb) (nI ci) (nI cj) = sh_node z (nI (wa + wb)) := ((if_neg nk).trans (if_neg (fun w => w (by rw [ew]; exact c_61)))).trans (congrArg (sh_node z) ew); exact ⟨_, rfl, rfl, (by rw [e]; exact o1), (by rw [e]; exact o2), (fun q hq => (o3 q hq).trans (hq0.fr q hq))⟩)
          · refine o_bipush (v := (-2 : Int32)) hC dX8_join_64 (by decide +kernel) ?_
            refine o_goto (tgt := 83) hC dX8_join_66 (by decide) ?_
            refine o_iret hC hB dX8_join_83 (Nat.le_of_ble_eq_true rfl) (Nat.le_of_ble_eq_true rfl) ?_
            first
            | (have e : sh_join z (nI ja) (nI jb) i jj = (-2, z) := (if_neg nk).trans (if_pos (by rw [ew]; exact c_61)); exact ⟨_, rfl, rfl, (by rw [e]; exact ⟨_, _, _, S, hu.dp hq0 rfl rfl rfl rfl ⟨wrc, hrc6, hrc⟩⟩), (by rw [e]), hq0.fr⟩)
            | (have e : sh_join z (nI ja) (nI jb) (nI ci) (nI cj) = sh_node z (nI (wa + wb)) := ((if_neg nk).trans (if_neg (fun w => w (by rw [ew]; exact c_61)))).trans (congrArg (sh_node z) ew); exact ⟨_, rfl, rfl, (by rw [e]; exact o1), (by rw [e]; exact o2), (fun q hq => (o3 q hq).trans (hq0.fr q hq))⟩)
        · refine o_iconst (v := (-1 : Int32)) hC dX8_join_40 (by decide +kernel) ?_
          refine o_iret hC hB dX8_join_41 (Nat.le_of_ble_eq_true rfl) (Nat.le_of_ble_eq_true rfl) ?_
          first
          | (have e : sh_join z a b i jj = (-1, z) := if_pos (Or.inl (Or.inl (hz7.elim (fun a => a.2) (fun a => absurd (c_10.symm.trans a.1) (by decide +kernel))))); exact ⟨_, rfl, rfl, (by rw [e]; exact ⟨_, _, _, S, hu.dp hq0 rfl rfl rfl rfl ⟨wrc, hrc6, hrc⟩⟩), (by rw [e]), hq0.fr⟩)
          | (have e : sh_join z a b i jj = (-1, z) := if_pos (Or.inr (Or.inl (hz15.elim (fun a => a.2) (fun a => absurd (c_18.symm.trans a.1) (by decide +kernel))))); exact ⟨_, rfl, rfl, (by rw [e]; exact ⟨_, _, _, S, hu.dp hq0 rfl rfl rfl rfl ⟨wrc, hrc6, hrc⟩⟩), (by rw [e]), hq0.fr⟩)
          | (have e : sh_join z (nI ja) (nI jb) i jj = (-1, z) := if_pos (Or.inl (hz24.elim (fun a => a.2) (fun a => absurd (c_27.symm.trans a.1) (by decide +kernel)))); exact ⟨_, rfl, rfl, (by rw [e]; exact ⟨_, _, _, S, hu.dp hq0 rfl rfl rfl rfl ⟨wrc, hrc6, hrc⟩⟩), (by rw [e]), hq0.fr⟩)
          | (have e : sh_join z (nI ja) (nI jb) i jj = (-1, z) := if_pos (Or.inr (hz34.elim (fun a => a.2) (fun a => absurd (c_37.symm.trans a.1) (by decide +kernel)))); exact ⟨_, rfl, rfl, (by rw [e]; exact ⟨_, _, _, S, hu.dp hq0 rfl rfl rfl rfl ⟨wrc, hrc6, hrc⟩⟩), (by rw [e]), hq0.fr⟩)

set_option maxHeartbeats 4000000 in
set_option maxRecDepth 100000 in
theorem cm_X8_pair (l : Launch) (D : va_G) (ids : Nat → ClassId) (H0 : Heap) (h : rl_H) (n : Nat) (m : Nat) (T : md_T) (fu : Int32) (k : Nat) (S : md_A) (z : sh_S) (op : Nat) (a b : Int32) (hu : md_un ids h m T fu k S z) (hop : op = 4 ∨ op = 5) : rl_Met l (rl_e D ids H0) rl_BW rl_Ns yX8_pair cX8_pair 4 (some .int) ({ frames := 1, cells := 0, slots := 0, locals := 28 }) [.ref m, .int (nI op), .int a, .int b] h n (fun v h' n' => ∃ r : Int32, v = some (.int r) ∧ n' = n ∧ md_ok ids h' m (sh_pair z a b).2 ∧ r = (sh_pair z a b).1 ∧ rl_fr h h' m (m + 23)) := by
  obtain ⟨hq, hs, ⟨hsc, hsc4⟩, hwf, ⟨hrr, hr36⟩, ⟨hnc, hn16⟩, hnw, hpr, hnv, hwv, wrc, hrc6, hrc⟩ := id hu
  have g0 := hq.1
  obtain ⟨-, gk, ⟨⟨cl, g12⟩, ⟨tu, g13, b13⟩, ⟨im, g14⟩, ⟨te, g15, b15⟩, ⟨ne, g16⟩, ⟨la, g17⟩, ⟨hn, g18⟩, ⟨hl, g19⟩, ⟨tp, g20⟩, ⟨gr, g21, b21⟩, ⟨it, g22⟩⟩, gf⟩ := id hq
  obtain ⟨a1, a2, a3, a4, a5, a6, a7, a8, a9, a10, a11⟩ := id hs
  refine rl_Met.of (by decide +kernel) (Nat.le_of_ble_eq_true rfl) ?_
  intro X hC hB
  show rl_G X (rl_e D ids H0) 0 [some (.ref m), some (.int (nI op)), some (.int a), some (.int b)] [] h n 0 0
  refine o_aload_n hC dX8_pair_0 (by rfl) ?_
  refine o_iload_n hC dX8_pair_1 (by rfl) ?_
  refine o_callV1 hC rl_BW_good rl_Ns_nw (by exact hB.2.2.2.2.2) YX8_isNode IX8_isNode VX8_isNode (mX8_126 hC) (by rw [hB.1]; exact cm_X8_isNode l D ids H0 _ _ m _ _ _ S z _ hu) (by exact hu.1.1) rfl rfl (Nat.le_of_ble_eq_true rfl) (by rw [hB.2.1]; first | exact Nat.le_of_ble_eq_true rfl | (dsimp only; omega)) (by rw [hB.2.1]; first | exact Nat.le_of_ble_eq_true rfl | (dsimp only; omega)) (by rw [hB.2.1]; first | exact Nat.le_of_ble_eq_true rfl | (dsimp only; omega)) (by rw [hB.2.1]; first | exact Nat.le_of_ble_eq_true rfl | (dsimp only; omega)) dX8_pair_2 (fun v h_2 n_2 p_2 => ?_)
  obtain ⟨z2, rfl, rfl, rfl, hz2⟩ := p_2
  try dsimp only [Option.toList, List.cons_append, List.nil_append]
  refine o_if_eq (tgt := 16) hC dX8_pair_5 (by decide) (fun c_5 => ?_) (fun c_5 => ?_)
  · refine o_iconst (v := (-1 : Int32)) hC dX8_pair_16 (by decide +kernel) ?_
    refine o_iret hC hB dX8_pair_17 (Nat.le_of_ble_eq_true rfl) (Nat.le_of_ble_eq_true rfl) ?_
    first
    | (have e : sh_pair z a b = (-1, z) := if_pos (Or.inl (hz2.elim (fun a => a.2) (fun a => absurd (c_5.symm.trans a.1) (by decide +kernel)))); exact ⟨_, rfl, rfl, (by rw [e]; exact ⟨_, _, _, S, hu⟩), (by rw [e]), rl_fr.rf⟩)
    | (have e : sh_pair z a b = (-1, z) := if_pos (Or.inr (hz10.elim (fun a => a.2) (fun a => absurd (c_13.symm.trans a.1) (by decide +kernel)))); exact ⟨_, rfl, rfl, (by rw [e]; exact ⟨_, _, _, S, hu⟩), (by rw [e]), rl_fr.rf⟩)
  · refine o_aload_n hC dX8_pair_8 (by rfl) ?_
    refine o_iload_n hC dX8_pair_9 (by rfl) ?_
    refine o_callV1 hC rl_BW_good rl_Ns_nw (by exact hB.2.2.2.2.2) YX8_isNode IX8_isNode VX8_isNode (mX8_126 hC) (by rw [hB.1]; exact cm_X8_isNode l D ids H0 _ _ m _ _ _ S z _ hu) (by exact hu.1.1) rfl rfl (Nat.le_of_ble_eq_true rfl) (by rw [hB.2.1]; first | exact Nat.le_of_ble_eq_true rfl | (dsimp only; omega)) (by rw [hB.2.1]; first | exact Nat.le_of_ble_eq_true rfl | (dsimp only; omega)) (by rw [hB.2.1]; first | exact Nat.le_of_ble_eq_true rfl | (dsimp only; omega)) (by rw [hB.2.1]; first | exact Nat.le_of_ble_eq_true rfl | (dsimp only; omega)) dX8_pair_10 (fun v h_10 n_10 p_10 => ?_)
    obtain ⟨z10, rfl, rfl, rfl, hz10⟩ := p_10
    try dsimp only [Option.toList, List.cons_append, List.nil_append]
    refine o_if_ne (tgt := 18) hC dX8_pair_13 (by decide) (fun c_13 => ?_) (fun c_13 => ?_)
    · have nna : ¬ sh_nn z a := (hz2.elim (fun a => absurd a.1 c_5) (fun a => a.2))
      obtain ⟨ja, wa, hja, hj16a, rfl, w1a, w2a, w3a, w4a⟩ := hu.nd nna
      have nnb : ¬ sh_nn z b := (hz10.elim (fun a => absurd a.1 c_13) (fun a => a.2))
      obtain ⟨jb, wb, hjb, hj16b, rfl, w1b, w2b, w3b, w4b⟩ := hu.nd nnb
      refine o_aload_n hC dX8_pair_18 (by rfl) ?_
      refine o_getf hC (fX8_40 hC rfl) dX8_pair_19 (by repeat (first | with_reducible assumption | (rw [rl_u_s]; done) | (rw [rl_u_s]; rfl) | rw [rl_u_n (by first | with_reducible assumption | omega)])) (by first | rfl | with_reducible assumption) ?_
      refine o_iload_n hC dX8_pair_22 (by rfl) ?_
      refine o_ialdN (t0 := 0) (k := ja) hC rfl dX8_pair_23 (by repeat (first | with_reducible assumption | (rw [rl_u_s]; done) | (rw [rl_u_s]; rfl) | rw [rl_u_n (by first | with_reducible assumption | omega)])) (by omega) (by decide) ?_
      rw [w3a]
      refine o_aload_n hC dX8_pair_24 (by rfl) ?_
      refine o_getf hC (fX8_40 hC rfl) dX8_pair_25 (by repeat (first | with_reducible assumption | (rw [rl_u_s]; done) | (rw [rl_u_s]; rfl) | rw [rl_u_n (by first | with_reducible assumption | omega)])) (by first | rfl | with_reducible assumption) ?_
      refine o_iload_n hC dX8_pair_28 (by rfl) ?_
      refine o_ialdN (t0 := 0) (k := jb) hC rfl dX8_pair_29 (by repeat (first | with_reducible assumption | (rw [rl_u_s]; done) | (rw [rl_u_s]; rfl) | rw [rl_u_n (by first | with_reducible assumption | omega)])) (by omega) (by decide) ?_
      rw [w3b]
      refine o_icmp_eq (tgt := 38) hC dX8_pair_30 (by decide) (fun c_30 => ?_) (fun c_30 => ?_)
      · refine o_aload_n hC dX8_pair_38 (by rfl) ?_
        refine o_iload_n hC dX8_pair_39 (by rfl) ?_
        refine o_iload_n hC dX8_pair_40 (by rfl) ?_
        refine o_iload_n hC dX8_pair_41 (by rfl) ?_
        refine o_iconst (v := nI 0) hC dX8_pair_42 (by decide +kernel) ?_
        refine o_iconst (v := nI 0) hC dX8_pair_43 (by decide +kernel) ?_
        refine o_iconst (v := nI 0) hC dX8_pair_44 (by decide +kernel) ?_
        refine o_iconst (v := nI 0) hC dX8_pair_45 (by decide +kernel) ?_
        refine o_aload_n hC dX8_pair_46 (by rfl) ?_
        refine o_getf hC (fX8_40 hC rfl) dX8_pair_47 (by repeat (first | with_reducible assumption | (rw [rl_u_s]; done) | (rw [rl_u_s]; rfl) | rw [rl_u_n (by first | with_reducible assumption | omega)])) (by first | rfl | with_reducible assumption) ?_
        refine o_iload_n hC dX8_pair_50 (by rfl) ?_
        refine o_ialdN (t0 := 0) (k := ja) hC rfl dX8_pair_51 (by repeat (first | with_reducible assumption | (rw [rl_u_s]; done) | (rw [rl_u_s]; rfl) | rw [rl_u_n (by first | with_reducible assumption | omega)])) (by omega) (by decide) ?_
        rw [w3a]
        refine o_callV8 hC rl_BW_good rl_Ns_nw (by exact hB.2.2.2.2.2) YX8_node IX8_node VX8_node (mX8_122 hC) (by rw [hB.1]; exact cm_X8_node l D ids H0 _ _ m _ _ _ S z _ _ _ _ _ _ _ _ hu (fun h16 => md_nv.new (op := op) (w := wa) (by omega) w1a w2a (fun _ => ⟨ja, wa, hja, w2a, rfl, w3a, fun _ => ⟨jb, wb, hjb, w2b, rfl, w3b, fun q => absurd q (by omega)⟩⟩) (fun q => absurd q (by omega)) (fun q => absurd q (by omega)) (fun q => absurd q (by omega)) (fun q => absurd q (by omega)))) (by exact hu.1.1) rfl rfl (Nat.le_of_ble_eq_true rfl) (by rw [hB.2.1]; first | exact Nat.le_of_ble_eq_true rfl | (dsimp only; omega)) (by rw [hB.2.1]; first | exact Nat.le_of_ble_eq_true rfl | (dsimp only; omega)) (by rw [hB.2.1]; first | exact Nat.le_of_ble_eq_true rfl | (dsimp only; omega)) (by rw [hB.2.1]; first | exact Nat.le_of_ble_eq_true rfl | (dsimp only; omega)) dX8_pair_52 (fun v h_52 n_52 p_52 => ?_)
        obtain ⟨r52, rfl, rfl, o1, o2, o3⟩ := p_52
        try dsimp only [Option.toList, List.cons_append, List.nil_append]
        refine o_iret hC hB dX8_pair_55 (Nat.le_of_ble_eq_true rfl) (Nat.le_of_ble_eq_true rfl) ?_
        have nk : ¬ (sh_nn z (nI ja) ∨ sh_nn z (nI jb)) := fun w => w.elim nna nnb
        first
        | (have e : sh_pair z (nI ja) (nI jb) = (-2, z) := (if_neg nk).trans (if_pos (fun w => c_30 (w4a.symm.trans (w.trans w4b)))); exact ⟨_, rfl, rfl, (by rw [e]; exact ⟨_, _, _, S, hu⟩), (by rw [e]), rl_fr.rf⟩)
        | (have e : sh_pair z (nI ja) (nI jb) = sh_node z (nI wa) := (if_neg nk).trans ((if_neg (fun w => w (w4a.trans (c_30.trans w4b.symm)))).trans (congrArg (sh_node z) w4a)); exact ⟨_, rfl, rfl, (by rw [e]; exact o1), (by rw [e]; exact o2), o3⟩)
      · refine o_bipush (v := (-2 : Int32)) hC dX8_pair_33 (by decide +kernel) ?_
        refine o_goto (tgt := 55) hC dX8_pair_35 (by decide) ?_
        refine o_iret hC hB dX8_pair_55 (Nat.le_of_ble_eq_true rfl) (Nat.le_of_ble_eq_true rfl) ?_
        have nk : ¬ (sh_nn z (nI ja) ∨ sh_nn z (nI jb)) := fun w => w.elim nna nnb
        first
        | (have e : sh_pair z (nI ja) (nI jb) = (-2, z) := (if_neg nk).trans (if_pos (fun w => c_30 (w4a.symm.trans (w.trans w4b)))); exact ⟨_, rfl, rfl, (by rw [e]; exact ⟨_, _, _, S, hu⟩), (by rw [e]), rl_fr.rf⟩)
        | (have e : sh_pair z (nI ja) (nI jb) = sh_node z (nI wa) := (if_neg nk).trans ((if_neg (fun w => w (w4a.trans (c_30.trans w4b.symm)))).trans (congrArg (sh_node z) w4a)); exact ⟨_, rfl, rfl, (by rw [e]; exact o1), (by rw [e]; exact o2), o3⟩)
    · refine o_iconst (v := (-1 : Int32)) hC dX8_pair_16 (by decide +kernel) ?_
      refine o_iret hC hB dX8_pair_17 (Nat.le_of_ble_eq_true rfl) (Nat.le_of_ble_eq_true rfl) ?_
      first
      | (have e : sh_pair z a b = (-1, z) := if_pos (Or.inl (hz2.elim (fun a => a.2) (fun a => absurd (c_5.symm.trans a.1) (by decide +kernel)))); exact ⟨_, rfl, rfl, (by rw [e]; exact ⟨_, _, _, S, hu⟩), (by rw [e]), rl_fr.rf⟩)
      | (have e : sh_pair z a b = (-1, z) := if_pos (Or.inr (hz10.elim (fun a => a.2) (fun a => absurd (c_13.symm.trans a.1) (by decide +kernel)))); exact ⟨_, rfl, rfl, (by rw [e]; exact ⟨_, _, _, S, hu⟩), (by rw [e]), rl_fr.rf⟩)

set_option maxHeartbeats 4000000 in
set_option maxRecDepth 100000 in
theorem cm_X8_unite (l : Launch) (D : va_G) (ids : Nat → ClassId) (H0 : Heap) (h : rl_H) (n : Nat) (m : Nat) (T : md_T) (fu : Int32) (k : Nat) (S : md_A) (z : sh_S) (a b : Int32) (hu : md_un ids h m T fu k S z) : rl_Met l (rl_e D ids H0) rl_BW rl_Ns yX8_unite cX8_unite 3 (some .int) ({ frames := 2, cells := 0, slots := 0, locals := 51 }) [.ref m, .int a, .int b] h n (fun v h' n' => ∃ r : Int32, v = some (.int r) ∧ n' = n ∧ md_ok ids h' m (sh_pair z a b).2 ∧ r = (sh_pair z a b).1 ∧ rl_fr h h' m (m + 23)) := by
  obtain ⟨hq, hs, ⟨hsc, hsc4⟩, hwf, ⟨hrr, hr36⟩, ⟨hnc, hn16⟩, hnw, hpr, hnv, hwv, wrc, hrc6, hrc⟩ := id hu
  have hq0 := hq.ob (nI 0, T.2) fu k hq.2.1
  have g0 := hq.1
  obtain ⟨-, gk, ⟨⟨cl, g12⟩, ⟨tu, g13, b13⟩, ⟨im, g14⟩, ⟨te, g15, b15⟩, ⟨ne, g16⟩, ⟨la, g17⟩, ⟨hn, g18⟩, ⟨hl, g19⟩, ⟨tp, g20⟩, ⟨gr, g21, b21⟩, ⟨it, g22⟩⟩, gf⟩ := id hq
  obtain ⟨a1, a2, a3, a4, a5, a6, a7, a8, a9, a10, a11⟩ := id hs
  have hu0 : md_un ids _ m (nI 0, T.2) fu k S z := hu.dp hq0 rfl rfl rfl rfl ⟨wrc, hrc6, hrc⟩
  refine rl_Met.of (by decide +kernel) (Nat.le_of_ble_eq_true rfl) ?_
  intro X hC hB
  show rl_G X (rl_e D ids H0) 0 [some (.ref m), some (.int a), some (.int b)] [] h n 0 0
  refine o_aload_n hC dX8_unite_0 (by rfl) ?_
  refine o_iconst (v := nI 0) hC dX8_unite_1 (by decide +kernel) ?_
  refine o_putf hC (fX8_78 hC rfl) (fwX8 rfl rfl rfl (Or.inl rfl)) dX8_unite_2 (by repeat (first | with_reducible assumption | (rw [rl_u_s]; done) | (rw [rl_u_s]; rfl) | rw [rl_u_n (by first | with_reducible assumption | omega)])) (Nat.le_of_ble_eq_true rfl) ?_
  try simp only [List.set_cons_zero, List.set_cons_succ]
  refine o_aload_n hC dX8_unite_5 (by rfl) ?_
  refine o_iconst (v := nI 4) hC dX8_unite_6 (by decide +kernel) ?_
  refine o_iload_n hC dX8_unite_7 (by rfl) ?_
  refine o_iload_n hC dX8_unite_8 (by rfl) ?_
  refine o_callV3 hC rl_BW_good rl_Ns_nw (by exact hB.2.2.2.2.2) YX8_pair IX8_pair VX8_pair (mX8_134 hC) (by rw [hB.1]; exact cm_X8_pair l D ids H0 _ _ m _ _ _ S z 4 _ _ hu0 (by decide)) (by exact hu0.1.1) rfl rfl (Nat.le_of_ble_eq_true rfl) (by rw [hB.2.1]; first | exact Nat.le_of_ble_eq_true rfl | (dsimp only; omega)) (by rw [hB.2.1]; first | exact Nat.le_of_ble_eq_true rfl | (dsimp only; omega)) (by rw [hB.2.1]; first | exact Nat.le_of_ble_eq_true rfl | (dsimp only; omega)) (by rw [hB.2.1]; first | exact Nat.le_of_ble_eq_true rfl | (dsimp only; omega)) dX8_unite_9 (fun v h_9 n_9 p_9 => ?_)
  obtain ⟨r9, rfl, rfl, o1, o2, o3⟩ := p_9
  try dsimp only [Option.toList, List.cons_append, List.nil_append]
  refine o_iret hC hB dX8_unite_12 (Nat.le_of_ble_eq_true rfl) (Nat.le_of_ble_eq_true rfl) ?_
  exact ⟨_, rfl, rfl, o1, o2, (fun q hq => (o3 q hq).trans (hq0.fr q hq))⟩

set_option maxHeartbeats 4000000 in
set_option maxRecDepth 100000 in
theorem cm_X8_minus (l : Launch) (D : va_G) (ids : Nat → ClassId) (H0 : Heap) (h : rl_H) (n : Nat) (m : Nat) (T : md_T) (fu : Int32) (k : Nat) (S : md_A) (z : sh_S) (a b : Int32) (hu : md_un ids h m T fu k S z) : rl_Met l (rl_e D ids H0) rl_BW rl_Ns yX8_minus cX8_minus 3 (some .int) ({ frames := 2, cells := 0, slots := 0, locals := 51 }) [.ref m, .int a, .int b] h n (fun v h' n' => ∃ r : Int32, v = some (.int r) ∧ n' = n ∧ md_ok ids h' m (sh_pair z a b).2 ∧ r = (sh_pair z a b).1 ∧ rl_fr h h' m (m + 23)) := by
  obtain ⟨hq, hs, ⟨hsc, hsc4⟩, hwf, ⟨hrr, hr36⟩, ⟨hnc, hn16⟩, hnw, hpr, hnv, hwv, wrc, hrc6, hrc⟩ := id hu
  have hq0 := hq.ob (nI 0, T.2) fu k hq.2.1
  have g0 := hq.1
  obtain ⟨-, gk, ⟨⟨cl, g12⟩, ⟨tu, g13, b13⟩, ⟨im, g14⟩, ⟨te, g15, b15⟩, ⟨ne, g16⟩, ⟨la, g17⟩, ⟨hn, g18⟩, ⟨hl, g19⟩, ⟨tp, g20⟩, ⟨gr, g21, b21⟩, ⟨it, g22⟩⟩, gf⟩ := id hq
  obtain ⟨a1, a2, a3, a4, a5, a6, a7, a8, a9, a10, a11⟩ := id hs
  have hu0 : md_un ids _ m (nI 0, T.2) fu k S z := hu.dp hq0 rfl rfl rfl rfl ⟨wrc, hrc6, hrc⟩
  refine rl_Met.of (by decide +kernel) (Nat.le_of_ble_eq_true rfl) ?_
  intro X hC hB
  show rl_G X (rl_e D ids H0) 0 [some (.ref m), some (.int a), some (.int b)] [] h n 0 0
  refine o_aload_n hC dX8_minus_0 (by rfl) ?_
  refine o_iconst (v := nI 0) hC dX8_minus_1 (by decide +kernel) ?_
  refine o_putf hC (fX8_78 hC rfl) (fwX8 rfl rfl rfl (Or.inl rfl)) dX8_minus_2 (by repeat (first | with_reducible assumption | (rw [rl_u_s]; done) | (rw [rl_u_s]; rfl) | rw [rl_u_n (by first | with_reducible assumption | omega)])) (Nat.le_of_ble_eq_true rfl) ?_
  try simp only [List.set_cons_zero, List.set_cons_succ]
  refine o_aload_n hC dX8_minus_5 (by rfl) ?_
  refine o_iconst (v := nI 5) hC dX8_minus_6 (by decide +kernel) ?_
  refine o_iload_n hC dX8_minus_7 (by rfl) ?_
  refine o_iload_n hC dX8_minus_8 (by rfl) ?_
  refine o_callV3 hC rl_BW_good rl_Ns_nw (by exact hB.2.2.2.2.2) YX8_pair IX8_pair VX8_pair (mX8_134 hC) (by rw [hB.1]; exact cm_X8_pair l D ids H0 _ _ m _ _ _ S z 5 _ _ hu0 (by decide)) (by exact hu0.1.1) rfl rfl (Nat.le_of_ble_eq_true rfl) (by rw [hB.2.1]; first | exact Nat.le_of_ble_eq_true rfl | (dsimp only; omega)) (by rw [hB.2.1]; first | exact Nat.le_of_ble_eq_true rfl | (dsimp only; omega)) (by rw [hB.2.1]; first | exact Nat.le_of_ble_eq_true rfl | (dsimp only; omega)) (by rw [hB.2.1]; first | exact Nat.le_of_ble_eq_true rfl | (dsimp only; omega)) dX8_minus_9 (fun v h_9 n_9 p_9 => ?_)
  obtain ⟨r9, rfl, rfl, o1, o2, o3⟩ := p_9
  try dsimp only [Option.toList, List.cons_append, List.nil_append]
  refine o_iret hC hB dX8_minus_12 (Nat.le_of_ble_eq_true rfl) (Nat.le_of_ble_eq_true rfl) ?_
  exact ⟨_, rfl, rfl, o1, o2, (fun q hq => (o3 q hq).trans (hq0.fr q hq))⟩

set_option maxHeartbeats 4000000 in
set_option maxRecDepth 100000 in
theorem cm_X8_fold (l : Launch) (D : va_G) (ids : Nat → ClassId) (H0 : Heap) (h : rl_H) (n : Nat) (m : Nat) (T : md_T) (fu : Int32) (k : Nat) (S : md_A) (z : sh_S) (q kk jj kd : Int32) (hu : md_un ids h m T fu k S z) : rl_Met l (rl_e D ids H0) rl_BW rl_Ns yX8_fold cX8_fold 5 (some .int) ({ frames := 1, cells := 0, slots := 0, locals := 28 }) [.ref m, .int q, .int kk, .int jj, .int kd] h n (fun v h' n' => ∃ r : Int32, v = some (.int r) ∧ n' = n ∧ md_ok ids h' m (sh_fold z q kk jj kd).2 ∧ r = (sh_fold z q kk jj kd).1 ∧ rl_fr h h' m (m + 23)) := by
  obtain ⟨hq, hs, ⟨hsc, hsc4⟩, hwf, ⟨hrr, hr36⟩, ⟨hnc, hn16⟩, hnw, hpr, hnv, hwv, wrc, hrc6, hrc⟩ := id hu
  have hq0 := hq.ob (nI 0, T.2) fu k hq.2.1
  have g0 := hq.1
  obtain ⟨-, gk, ⟨⟨cl, g12⟩, ⟨tu, g13, b13⟩, ⟨im, g14⟩, ⟨te, g15, b15⟩, ⟨ne, g16⟩, ⟨la, g17⟩, ⟨hn, g18⟩, ⟨hl, g19⟩, ⟨tp, g20⟩, ⟨gr, g21, b21⟩, ⟨it, g22⟩⟩, gf⟩ := id hq
  obtain ⟨a1, a2, a3, a4, a5, a6, a7, a8, a9, a10, a11⟩ := id hs
  have hu0 : md_un ids _ m (nI 0, T.2) fu k S z := hu.dp hq0 rfl rfl rfl rfl ⟨wrc, hrc6, hrc⟩
  refine rl_Met.of (by decide +kernel) (Nat.le_of_ble_eq_true rfl) ?_
  intro X hC hB
  show rl_G X (rl_e D ids H0) 0 [some (.ref m), some (.int q), some (.int kk), some (.int jj), some (.int kd)] [] h n 0 0
  refine o_aload_n hC dX8_fold_0 (by rfl) ?_
  refine o_iconst (v := nI 0) hC dX8_fold_1 (by decide +kernel) ?_
  refine o_putf hC (fX8_78 hC rfl) (fwX8 rfl rfl rfl (Or.inl rfl)) dX8_fold_2 (by repeat (first | with_reducible assumption | (rw [rl_u_s]; done) | (rw [rl_u_s]; rfl) | rw [rl_u_n (by first | with_reducible assumption | omega)])) (Nat.le_of_ble_eq_true rfl) ?_
  try simp only [List.set_cons_zero, List.set_cons_succ]
  refine o_aload_n hC dX8_fold_5 (by rfl) ?_
  refine o_iload_n hC dX8_fold_6 (by rfl) ?_
  refine o_callV1 hC rl_BW_good rl_Ns_nw (by exact hB.2.2.2.2.2) YX8_isNode IX8_isNode VX8_isNode (mX8_126 hC) (by rw [hB.1]; exact cm_X8_isNode l D ids H0 _ _ m _ _ _ S z _ hu0) (by exact hu0.1.1) rfl rfl (Nat.le_of_ble_eq_true rfl) (by rw [hB.2.1]; first | exact Nat.le_of_ble_eq_true rfl | (dsimp only; omega)) (by rw [hB.2.1]; first | exact Nat.le_of_ble_eq_true rfl | (dsimp only; omega)) (by rw [hB.2.1]; first | exact Nat.le_of_ble_eq_true rfl | (dsimp only; omega)) (by rw [hB.2.1]; first | exact Nat.le_of_ble_eq_true rfl | (dsimp only; omega)) dX8_fold_7 (fun v h_7 n_7 p_7 => ?_)
  obtain ⟨z7, rfl, rfl, rfl, hz7⟩ := p_7
  try dsimp only [Option.toList, List.cons_append, List.nil_append]
  refine o_if_eq (tgt := 31) hC dX8_fold_10 (by decide) (fun c_10 => ?_) (fun c_10 => ?_)
  · refine o_iconst (v := (-1 : Int32)) hC dX8_fold_31 (by decide +kernel) ?_
    refine o_iret hC hB dX8_fold_32 (Nat.le_of_ble_eq_true rfl) (Nat.le_of_ble_eq_true rfl) ?_
    first
    | (have e : sh_fold z q kk jj kd = (-1, z) := if_pos (Or.inl (Or.inl (hz7.elim (fun a => a.2) (fun a => absurd (c_10.symm.trans a.1) (by decide +kernel))))); exact ⟨_, rfl, rfl, (by rw [e]; exact ⟨_, _, _, S, hu.dp hq0 rfl rfl rfl rfl ⟨wrc, hrc6, hrc⟩⟩), (by rw [e]), hq0.fr⟩)
    | (have e : sh_fold z (nI j) kk jj kd = (-1, z) := if_pos (Or.inl (hz16.elim (fun a => a.2) (fun a => absurd (c_19.symm.trans a.1) (by decide +kernel)))); exact ⟨_, rfl, rfl, (by rw [e]; exact ⟨_, _, _, S, hu.dp hq0 rfl rfl rfl rfl ⟨wrc, hrc6, hrc⟩⟩), (by rw [e]), hq0.fr⟩)
    | (have e : sh_fold z (nI j) kk jj kd = (-1, z) := if_pos (Or.inr (hz25.elim (fun a => a.2) (fun a => absurd (c_28.symm.trans a.1) (by decide +kernel)))); exact ⟨_, rfl, rfl, (by rw [e]; exact ⟨_, _, _, S, hu.dp hq0 rfl rfl rfl rfl ⟨wrc, hrc6, hrc⟩⟩), (by rw [e]), hq0.fr⟩)
  · have nn : ¬ sh_nn z q := (hz7.elim (fun a => absurd a.1 c_10) (fun a => a.2))
    obtain ⟨j, w, hj, hj16, rfl, w1, w2, w3, w4⟩ := hu.nd nn
    refine o_aload_n hC dX8_fold_13 (by rfl) ?_
    refine o_iload_n hC dX8_fold_14 (by rfl) ?_
    refine o_iload_n hC dX8_fold_15 (by rfl) ?_
    refine o_callV2 hC rl_BW_good rl_Ns_nw (by exact hB.2.2.2.2.2) YX8_isColumn IX8_isColumn VX8_isColumn (mX8_129 hC) (by rw [hB.1]; exact cm_X8_isColumn l D ids H0 _ _ m _ _ _ S z j _ hu0 hj16) (by exact hu0.1.1) rfl rfl (Nat.le_of_ble_eq_true rfl) (by rw [hB.2.1]; first | exact Nat.le_of_ble_eq_true rfl | (dsimp only; omega)) (by rw [hB.2.1]; first | exact Nat.le_of_ble_eq_true rfl | (dsimp only; omega)) (by rw [hB.2.1]; first | exact Nat.le_of_ble_eq_true rfl | (dsimp only; omega)) (by rw [hB.2.1]; first | exact Nat.le_of_ble_eq_true rfl | (dsimp only; omega)) dX8_fold_16 (fun v h_16 n_16 p_16 => ?_)
    obtain ⟨z16, rfl, rfl, rfl, hz16⟩ := p_16
    replace hz16 := md_nkz nn (w4.trans w3.symm) hz16
    try dsimp only [Option.toList, List.cons_append, List.nil_append]
    refine o_if_eq (tgt := 31) hC dX8_fold_19 (by decide) (fun c_19 => ?_) (fun c_19 => ?_)
    · refine o_iconst (v := (-1 : Int32)) hC dX8_fold_31 (by decide +kernel) ?_
      refine o_iret hC hB dX8_fold_32 (Nat.le_of_ble_eq_true rfl) (Nat.le_of_ble_eq_true rfl) ?_
      first
      | (have e : sh_fold z q kk jj kd = (-1, z) := if_pos (Or.inl (Or.inl (hz7.elim (fun a => a.2) (fun a => absurd (c_10.symm.trans a.1) (by decide +kernel))))); exact ⟨_, rfl, rfl, (by rw [e]; exact ⟨_, _, _, S, hu.dp hq0 rfl rfl rfl rfl ⟨wrc, hrc6, hrc⟩⟩), (by rw [e]), hq0.fr⟩)
      | (have e : sh_fold z (nI j) kk jj kd = (-1, z) := if_pos (Or.inl (hz16.elim (fun a => a.2) (fun a => absurd (c_19.symm.trans a.1) (by decide +kernel)))); exact ⟨_, rfl, rfl, (by rw [e]; exact ⟨_, _, _, S, hu.dp hq0 rfl rfl rfl rfl ⟨wrc, hrc6, hrc⟩⟩), (by rw [e]), hq0.fr⟩)
      | (have e : sh_fold z (nI j) kk jj kd = (-1, z) := if_pos (Or.inr (hz25.elim (fun a => a.2) (fun a => absurd (c_28.symm.trans a.1) (by decide +kernel)))); exact ⟨_, rfl, rfl, (by rw [e]; exact ⟨_, _, _, S, hu.dp hq0 rfl rfl rfl rfl ⟨wrc, hrc6, hrc⟩⟩), (by rw [e]), hq0.fr⟩)
    · refine o_aload_n hC dX8_fold_22 (by rfl) ?_
      refine o_iload_n hC dX8_fold_23 (by rfl) ?_
      refine o_iload_n hC dX8_fold_24 (by rfl) ?_
      refine o_callV2 hC rl_BW_good rl_Ns_nw (by exact hB.2.2.2.2.2) YX8_isColumn IX8_isColumn VX8_isColumn (mX8_129 hC) (by rw [hB.1]; exact cm_X8_isColumn l D ids H0 _ _ m _ _ _ S z j _ hu0 hj16) (by exact hu0.1.1) rfl rfl (Nat.le_of_ble_eq_true rfl) (by rw [hB.2.1]; first | exact Nat.le_of_ble_eq_true rfl | (dsimp only; omega)) (by rw [hB.2.1]; first | exact Nat.le_of_ble_eq_true rfl | (dsimp only; omega)) (by rw [hB.2.1]; first | exact Nat.le_of_ble_eq_true rfl | (dsimp only; omega)) (by rw [hB.2.1]; first | exact Nat.le_of_ble_eq_true rfl | (dsimp only; omega)) dX8_fold_25 (fun v h_25 n_25 p_25 => ?_)
      obtain ⟨z25, rfl, rfl, rfl, hz25⟩ := p_25
      replace hz25 := md_nkz nn (w4.trans w3.symm) hz25
      try dsimp only [Option.toList, List.cons_append, List.nil_append]
      refine o_if_ne (tgt := 33) hC dX8_fold_28 (by decide) (fun c_28 => ?_) (fun c_28 => ?_)
      · have nk : ¬ (sh_nk z (nI j) kk ∨ sh_nk z (nI j) jj) := fun w => w.elim (hz16.elim (fun a => absurd a.1 c_19) (fun a => a.2)) (hz25.elim (fun a => absurd a.1 c_28) (fun a => a.2))
        refine o_iload hC dX8_fold_33 (by rfl) ?_
        refine o_if_lt (tgt := 44) hC dX8_fold_35 (by decide) (fun c_35 => ?_) (fun c_35 => ?_)
        · refine o_bipush (v := (-2 : Int32)) hC dX8_fold_44 (by decide +kernel) ?_
          refine o_goto (tgt := 63) hC dX8_fold_46 (by decide) ?_
          refine o_iret hC hB dX8_fold_63 (Nat.le_of_ble_eq_true rfl) (Nat.le_of_ble_eq_true rfl) ?_
          first
          | (have e : sh_fold z (nI j) kk jj kd = (-2, z) := (if_neg nk).trans (if_pos (Or.inl c_35)); exact ⟨_, rfl, rfl, (by rw [e]; exact ⟨_, _, _, S, hu.dp hq0 rfl rfl rfl rfl ⟨wrc, hrc6, hrc⟩⟩), (by rw [e]), hq0.fr⟩)
          | (have e : sh_fold z (nI j) kk jj kd = (-2, z) := (if_neg nk).trans (if_pos (Or.inr c_41)); exact ⟨_, rfl, rfl, (by rw [e]; exact ⟨_, _, _, S, hu.dp hq0 rfl rfl rfl rfl ⟨wrc, hrc6, hrc⟩⟩), (by rw [e]), hq0.fr⟩)
          | (have e : sh_fold z (nI j) (nI ck) (nI cj) kd = sh_node z (nI 2) := ((if_neg nk).trans (if_neg (fun w => w.elim c_35 (fun w => w c_41)))); exact ⟨_, rfl, rfl, (by rw [e]; exact o1), (by rw [e]; exact o2), (fun q hq => (o3 q hq).trans (hq0.fr q hq))⟩)
        · refine o_iload hC dX8_fold_38 (by rfl) ?_
          refine o_iconst (v := nI 3) hC dX8_fold_40 (by decide +kernel) ?_
          refine o_icmp_le (tgt := 49) hC dX8_fold_41 (by decide) (fun c_41 => ?_) (fun c_41 => ?_)
          · obtain ⟨ck, hck, rfl⟩ := md_co w4 w2 (fun w => nk (Or.inl w))
            obtain ⟨cj, hcj, rfl⟩ := md_co w4 w2 (fun w => nk (Or.inr w))
            refine o_aload_n hC dX8_fold_49 (by rfl) ?_
            refine o_bipush (v := nI 6) hC dX8_fold_50 (by decide +kernel) ?_
            refine o_iload_n hC dX8_fold_52 (by rfl) ?_
            refine o_iconst (v := nI 0) hC dX8_fold_53 (by decide +kernel) ?_
            refine o_iload_n hC dX8_fold_54 (by rfl) ?_
            refine o_iload_n hC dX8_fold_55 (by rfl) ?_
            refine o_iload hC dX8_fold_56 (by rfl) ?_
            refine o_iconst (v := nI 0) hC dX8_fold_58 (by decide +kernel) ?_
            refine o_iconst (v := nI 2) hC dX8_fold_59 (by decide +kernel) ?_
            refine o_callV8 hC rl_BW_good rl_Ns_nw (by exact hB.2.2.2.2.2) YX8_node IX8_node VX8_node (mX8_122 hC) (by rw [hB.1]; exact cm_X8_node l D ids H0 _ _ m _ _ _ S z _ _ _ _ _ _ _ _ hu0 (fun h16 => md_nv.new (op := 6) (w := 2) (by decide) (by decide) (by decide) (fun _ => ⟨j, w, hj, w2, rfl, w3, fun q => absurd q (by decide)⟩) (fun _ => ⟨ck, hck, rfl⟩) (fun q => absurd q (by decide)) (fun q => absurd q (by decide)) (fun _ => ⟨cj, hcj, rfl⟩))) (by exact hu0.1.1) rfl rfl (Nat.le_of_ble_eq_true rfl) (by rw [hB.2.1]; first | exact Nat.le_of_ble_eq_true rfl | (dsimp only; omega)) (by rw [hB.2.1]; first | exact Nat.le_of_ble_eq_true rfl | (dsimp only; omega)) (by rw [hB.2.1]; first | exact Nat.le_of_ble_eq_true rfl | (dsimp only; omega)) (by rw [hB.2.1]; first | exact Nat.le_of_ble_eq_true rfl | (dsimp only; omega)) dX8_fold_60 (fun v h_60 n_60 p_60 => ?_)
            obtain ⟨r60, rfl, rfl, o1, o2, o3⟩ := p_60
            try dsimp only [Option.toList, List.cons_append, List.nil_append]
            refine o_iret hC hB dX8_fold_63 (Nat.le_of_ble_eq_true rfl) (Nat.le_of_ble_eq_true rfl) ?_
            first
            | (have e : sh_fold z (nI j) kk jj kd = (-2, z) := (if_neg nk).trans (if_pos (Or.inl c_35)); exact ⟨_, rfl, rfl, (by rw [e]; exact ⟨_, _, _, S, hu.dp hq0 rfl rfl rfl rfl ⟨wrc, hrc6, hrc⟩⟩), (by rw [e]), hq0.fr⟩)
            | (have e : sh_fold z (nI j) kk jj kd = (-2, z) := (if_neg nk).trans (if_pos (Or.inr c_41)); exact ⟨_, rfl, rfl, (by rw [e]; exact ⟨_, _, _, S, hu.dp hq0 rfl rfl rfl rfl ⟨wrc, hrc6, hrc⟩⟩), (by rw [e]), hq0.fr⟩)
            | (have e : sh_fold z (nI j) (nI ck) (nI cj) kd = sh_node z (nI 2) := ((if_neg nk).trans (if_neg (fun w => w.elim c_35 (fun w => w c_41)))); exact ⟨_, rfl, rfl, (by rw [e]; exact o1), (by rw [e]; exact o2), (fun q hq => (o3 q hq).trans (hq0.fr q hq))⟩)
          · refine o_bipush (v := (-2 : Int32)) hC dX8_fold_44 (by decide +kernel) ?_
            refine o_goto (tgt := 63) hC dX8_fold_46 (by decide) ?_
            refine o_iret hC hB dX8_fold_63 (Nat.le_of_ble_eq_true rfl) (Nat.le_of_ble_eq_true rfl) ?_
            first
            | (have e : sh_fold z (nI j) kk jj kd = (-2, z) := (if_neg nk).trans (if_pos (Or.inl c_35)); exact ⟨_, rfl, rfl, (by rw [e]; exact ⟨_, _, _, S, hu.dp hq0 rfl rfl rfl rfl ⟨wrc, hrc6, hrc⟩⟩), (by rw [e]), hq0.fr⟩)
            | (have e : sh_fold z (nI j) kk jj kd = (-2, z) := (if_neg nk).trans (if_pos (Or.inr c_41)); exact ⟨_, rfl, rfl, (by rw [e]; exact ⟨_, _, _, S, hu.dp hq0 rfl rfl rfl rfl ⟨wrc, hrc6, hrc⟩⟩), (by rw [e]), hq0.fr⟩)
            | (have e : sh_fold z (nI j) (nI ck) (nI cj) kd = sh_node z (nI 2) := ((if_neg nk).trans (if_neg (fun w => w.elim c_35 (fun w => w c_41)))); exact ⟨_, rfl, rfl, (by rw [e]; exact o1), (by rw [e]; exact o2), (fun q hq => (o3 q hq).trans (hq0.fr q hq))⟩)
      · refine o_iconst (v := (-1 : Int32)) hC dX8_fold_31 (by decide +kernel) ?_
        refine o_iret hC hB dX8_fold_32 (Nat.le_of_ble_eq_true rfl) (Nat.le_of_ble_eq_true rfl) ?_
        first
        | (have e : sh_fold z q kk jj kd = (-1, z) := if_pos (Or.inl (Or.inl (hz7.elim (fun a => a.2) (fun a => absurd (c_10.symm.trans a.1) (by decide +kernel))))); exact ⟨_, rfl, rfl, (by rw [e]; exact ⟨_, _, _, S, hu.dp hq0 rfl rfl rfl rfl ⟨wrc, hrc6, hrc⟩⟩), (by rw [e]), hq0.fr⟩)
        | (have e : sh_fold z (nI j) kk jj kd = (-1, z) := if_pos (Or.inl (hz16.elim (fun a => a.2) (fun a => absurd (c_19.symm.trans a.1) (by decide +kernel)))); exact ⟨_, rfl, rfl, (by rw [e]; exact ⟨_, _, _, S, hu.dp hq0 rfl rfl rfl rfl ⟨wrc, hrc6, hrc⟩⟩), (by rw [e]), hq0.fr⟩)
        | (have e : sh_fold z (nI j) kk jj kd = (-1, z) := if_pos (Or.inr (hz25.elim (fun a => a.2) (fun a => absurd (c_28.symm.trans a.1) (by decide +kernel)))); exact ⟨_, rfl, rfl, (by rw [e]; exact ⟨_, _, _, S, hu.dp hq0 rfl rfl rfl rfl ⟨wrc, hrc6, hrc⟩⟩), (by rw [e]), hq0.fr⟩)

set_option maxHeartbeats 4000000 in
set_option maxRecDepth 100000 in
theorem cm_X8_columns (l : Launch) (D : va_G) (ids : Nat → ClassId) (H0 : Heap) (h : rl_H) (n : Nat) (m : Nat) (T : md_T) (fu : Int32) (k : Nat) (S : md_A) (z : sh_S) (q : Int32) (hu : md_un ids h m T fu k S z) : rl_Met l (rl_e D ids H0) rl_BW rl_Ns yX8_columns cX8_columns 2 (some .int) ({ frames := 1, cells := 0, slots := 0, locals := 21 }) [.ref m, .int q] h n (fun v h' n' => ∃ r : Int32, v = some (.int r) ∧ n' = n ∧ md_ok ids h' m (sh_columns z q).2 ∧ r = (sh_columns z q).1 ∧ rl_fr h h' m (m + 23)) := by
  obtain ⟨hq, hs, ⟨hsc, hsc4⟩, hwf, ⟨hrr, hr36⟩, ⟨hnc, hn16⟩, hnw, hpr, hnv, hwv, wrc, hrc6, hrc⟩ := id hu
  have hq0 := hq.ob (nI 0, T.2) fu k hq.2.1
  have g0 := hq.1
  obtain ⟨-, gk, ⟨⟨cl, g12⟩, ⟨tu, g13, b13⟩, ⟨im, g14⟩, ⟨te, g15, b15⟩, ⟨ne, g16⟩, ⟨la, g17⟩, ⟨hn, g18⟩, ⟨hl, g19⟩, ⟨tp, g20⟩, ⟨gr, g21, b21⟩, ⟨it, g22⟩⟩, gf⟩ := id hq
  obtain ⟨a1, a2, a3, a4, a5, a6, a7, a8, a9, a10, a11⟩ := id hs
  have hu0 : md_un ids _ m (nI 0, T.2) fu k S z := hu.dp hq0 rfl rfl rfl rfl ⟨wrc, hrc6, hrc⟩
  refine rl_Met.of (by decide +kernel) (Nat.le_of_ble_eq_true rfl) ?_
  intro X hC hB
  show rl_G X (rl_e D ids H0) 0 [some (.ref m), some (.int q)] [] h n 0 0
  refine o_aload_n hC dX8_columns_0 (by rfl) ?_
  refine o_iconst (v := nI 0) hC dX8_columns_1 (by decide +kernel) ?_
  refine o_putf hC (fX8_78 hC rfl) (fwX8 rfl rfl rfl (Or.inl rfl)) dX8_columns_2 (by repeat (first | with_reducible assumption | (rw [rl_u_s]; done) | (rw [rl_u_s]; rfl) | rw [rl_u_n (by first | with_reducible assumption | omega)])) (Nat.le_of_ble_eq_true rfl) ?_
  try simp only [List.set_cons_zero, List.set_cons_succ]
  refine o_aload_n hC dX8_columns_5 (by rfl) ?_
  refine o_iload_n hC dX8_columns_6 (by rfl) ?_
  refine o_callV1 hC rl_BW_good rl_Ns_nw (by exact hB.2.2.2.2.2) YX8_isNode IX8_isNode VX8_isNode (mX8_126 hC) (by rw [hB.1]; exact cm_X8_isNode l D ids H0 _ _ m _ _ _ S z _ hu0) (by exact hu0.1.1) rfl rfl (Nat.le_of_ble_eq_true rfl) (by rw [hB.2.1]; first | exact Nat.le_of_ble_eq_true rfl | (dsimp only; omega)) (by rw [hB.2.1]; first | exact Nat.le_of_ble_eq_true rfl | (dsimp only; omega)) (by rw [hB.2.1]; first | exact Nat.le_of_ble_eq_true rfl | (dsimp only; omega)) (by rw [hB.2.1]; first | exact Nat.le_of_ble_eq_true rfl | (dsimp only; omega)) dX8_columns_7 (fun v h_7 n_7 p_7 => ?_)
  obtain ⟨z7, rfl, rfl, rfl, hz7⟩ := p_7
  try dsimp only [Option.toList, List.cons_append, List.nil_append]
  refine o_if_eq (tgt := 22) hC dX8_columns_10 (by decide) (fun c_10 => ?_) (fun c_10 => ?_)
  · refine o_iconst (v := (-1 : Int32)) hC dX8_columns_22 (by decide +kernel) ?_
    refine o_iret hC hB dX8_columns_23 (Nat.le_of_ble_eq_true rfl) (Nat.le_of_ble_eq_true rfl) ?_
    first
    | (have e : sh_columns z q = (-1, z) := if_pos (hz7.elim (fun a => a.2) (fun a => absurd (c_10.symm.trans a.1) (by decide +kernel))); exact ⟨_, rfl, rfl, (by rw [e]; exact ⟨_, _, _, S, hu.dp hq0 rfl rfl rfl rfl ⟨wrc, hrc6, hrc⟩⟩), (by rw [e]), hq0.fr⟩)
    | (have e : sh_columns z (nI j) = (nI w, z) := (if_neg nn).trans (by rw [w4]); exact ⟨_, rfl, rfl, (by rw [e]; exact ⟨_, _, _, S, hu0⟩), (by rw [e]), hq0.fr⟩)
  · have nn : ¬ sh_nn z q := (hz7.elim (fun a => absurd a.1 c_10) (fun a => a.2))
    obtain ⟨j, w, hj, hj16, rfl, w1, w2, w3, w4⟩ := hu.nd nn
    refine o_aload_n hC dX8_columns_13 (by rfl) ?_
    refine o_getf hC (fX8_40 hC rfl) dX8_columns_14 (by repeat (first | with_reducible assumption | (rw [rl_u_s]; done) | (rw [rl_u_s]; rfl) | rw [rl_u_n (by first | with_reducible assumption | omega)])) (by first | rfl | with_reducible assumption) ?_
    refine o_iload_n hC dX8_columns_17 (by rfl) ?_
    refine o_ialdN (t0 := 0) (k := j) hC rfl dX8_columns_18 (by repeat (first | with_reducible assumption | (rw [rl_u_s]; done) | (rw [rl_u_s]; rfl) | rw [rl_u_n (by first | with_reducible assumption | omega)])) (by omega) (by decide) ?_
    rw [w3]
    refine o_goto (tgt := 23) hC dX8_columns_19 (by decide) ?_
    refine o_iret hC hB dX8_columns_23 (Nat.le_of_ble_eq_true rfl) (Nat.le_of_ble_eq_true rfl) ?_
    first
    | (have e : sh_columns z q = (-1, z) := if_pos (hz7.elim (fun a => a.2) (fun a => absurd (c_10.symm.trans a.1) (by decide +kernel))); exact ⟨_, rfl, rfl, (by rw [e]; exact ⟨_, _, _, S, hu.dp hq0 rfl rfl rfl rfl ⟨wrc, hrc6, hrc⟩⟩), (by rw [e]), hq0.fr⟩)
    | (have e : sh_columns z (nI j) = (nI w, z) := (if_neg nn).trans (by rw [w4]); exact ⟨_, rfl, rfl, (by rw [e]; exact ⟨_, _, _, S, hu0⟩), (by rw [e]), hq0.fr⟩)
