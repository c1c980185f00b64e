/-! THE MODEL, functionally: stand, rowsOf, count -/
theorem rin_s (all : Int64) (i : Nat) : rin all (i + 1) = rin all i ++ (if bt all i then [i] else []) := by
  unfold rin
  rw [List.range_succ, List.filter_append]
  congr 1
  cases h : bt all i with
  | false => rw [List.filter_cons_of_neg (by rw [h]; decide)]; rfl
  | true => rw [List.filter_cons_of_pos h]; rfl
theorem rin_le (all : Int64) (i : Nat) : (rin all i).length ≤ i := by
  have := List.length_filter_le (fun i => bt all i) (List.range i)
  rw [List.length_range] at this
  exact this
theorem us_k32 : ∀ k : Nat, k < 17 → (nI k &&& 31).toBitVec.smod 32 = BitVec.ofNat 32 k := by decide +kernel
theorem sbit {s i : Nat} (hs : s ≤ 65536) (hi : i < 16) : ((nI s >>> (nI i &&& 31)) &&& nI 1 = nI 1) ↔ s / 2 ^ i % 2 = 1 := by
  have k1 := us_k32 i (by omega)
  have kn : (BitVec.ofNat 32 i).toNat = i := by
    rw [BitVec.toNat_ofNat]
    exact Nat.mod_eq_of_lt (by omega)
  have sn : (BitVec.ofNat 32 s).toNat = s := by
    rw [BitVec.toNat_ofNat]
    exact Nat.mod_eq_of_lt (by omega)
  have ms : (BitVec.ofNat 32 s).msb = false := by
    rw [BitVec.msb_eq_decide, sn]
    exact decide_eq_false (by omega)
  have e1 : (nI s >>> (nI i &&& 31)).toBitVec = BitVec.ofNat 32 s >>> i := by
    rw [Int32.toBitVec_shiftRight, k1, BitVec.sshiftRight', kn]
    show (BitVec.ofNat 32 s).sshiftRight i = _
    rw [BitVec.sshiftRight_eq_of_msb_false ms]
  have e2 : ((nI s >>> (nI i &&& 31)) &&& nI 1).toBitVec.toNat = s / 2 ^ i % 2 := by
    rw [Int32.toBitVec_and, BitVec.toNat_and, e1, BitVec.toNat_ushiftRight, sn, Nat.shiftRight_eq_div_pow]
    show s / 2 ^ i &&& 1 = _
    rw [Nat.and_one_is_mod]
  constructor
  · intro e
    rw [← e2, e]
    rfl
  · intro e
    apply Int32.toBitVec_inj.mp
    apply BitVec.eq_of_toNat_eq
    exact e2.trans e
theorem or_as (a b c : Int64) : (a ||| b) ||| c = a ||| (b ||| c) := by
  apply Int64.toBitVec_inj.mp
  rw [Int64.toBitVec_or, Int64.toBitVec_or, Int64.toBitVec_or, Int64.toBitVec_or, BitVec.or_assoc]
theorem or_z (a : Int64) : a ||| 0 = a := by
  apply Int64.toBitVec_inj.mp
  rw [Int64.toBitVec_or]
  exact BitVec.or_zero
theorem rsn_drop {E : List Nat} {i s : Nat} (h : i < E.length) : rsn (E.drop i) s = (if s % 2 = 1 then tbt (E.getD i 0) else 0) ||| rsn (E.drop (i + 1)) (s / 2) := by
  rw [List.drop_eq_getElem_cons h]
  show (if s % 2 = 1 then tbt E[i] else 0) ||| rsn (E.drop (i + 1)) (s / 2) = _
  rw [List.getD_eq_getElem?_getD, List.getElem?_eq_getElem h]
  rfl
/-- inTerms -/
abbrev mit (it : Nat → Int32) (E : List Nat) : Prop := ∀ p : Nat, p < E.length → it p = nI (E.getD p 0)
theorem mit_s {it : Nat → Int32} {E : List Nat} {i : Nat} (h : mit it E) : mit (upd it E.length (nI i)) (E ++ [i]) := by
  intro p hp
  rw [List.length_append, List.length_singleton] at hp
  rw [List.getD_eq_getElem?_getD]
  by_cases e : p = E.length
  · rw [e, upd_at, List.getElem?_append_right (Nat.le_refl _), Nat.sub_self]
    rfl
  · rw [upd_lt (by omega), h p (by omega), List.getElem?_append_left (by omega), List.getD_eq_getElem?_getD]

set_option maxHeartbeats 4000000 in
set_option maxRecDepth 100000 in
theorem cf_X8_stand (l : Launch) (D : va_G) (ids : Nat → ClassId) (H0 : Heap) (h : rl_H) (n : Nat) (m : Nat) (T : md_T) (fu : Int32) (k : Nat) (A : md_D) (t rr : Nat) (W : List tT) (hq : mf ids h h m T fu k A) (ht : t < 80) (hw : mws A (1280 + t) W) (hrr : T.2.2.1 = nI rr) (hr36 : rr ≤ 36) (hal : l64 (trw W) < 2 ^ 36) : rl_Met l (rl_e D ids H0) rl_BW rl_Ns yX8_stand cX8_stand 6 (some .boolean) ({ frames := 0, cells := 0, slots := 0, locals := 0 }) [.ref m, .int (nI t)] h n (fun v h' n' => ∃ it : Nat → Int32, v = some (.int (if (rin (trw W) rr).length ≤ 16 then nI 1 else nI 0)) ∧ n' = n ∧ mf ids h h' m (T.1, T.2.1, T.2.2.1, T.2.2.2.1, T.2.2.2.2.1, T.2.2.2.2.2.1, nI (rin (trw W) rr).length) fu k (A.1, A.2.1, A.2.2.1, A.2.2.2.1, A.2.2.2.2.1, A.2.2.2.2.2.1, A.2.2.2.2.2.2.1, A.2.2.2.2.2.2.2.1, A.2.2.2.2.2.2.2.2.1, A.2.2.2.2.2.2.2.2.2.1, it) ∧ mit it (rin (trw W) rr) ∧ ∀ q : Nat, m + 12 ≤ q → q < m + 22 → h' q = h q) := by
  obtain ⟨hm0, g12, g13, g14, g15, g16, g17, g18, g19, g20, g21, g22⟩ := id hq
  have g0 := hm0.1
  have gk := hm0.2.1
  have b13 := hq.b13
  have b15 := hq.b15
  have b21 := hq.b21
  have w12 := hw.2.1
  refine rl_Met.of (by decide +kernel) (Nat.le_of_ble_eq_true rfl) ?_
  intro X hC hB
  have loop2 : ∀ (mm i : Nat) (h1 : rl_H) (it : Nat → Int32), i + mm = rr → mf ids h h1 m (T.1, T.2.1, T.2.2.1, T.2.2.2.1, T.2.2.2.2.1, T.2.2.2.2.2.1, nI (rin (trw W) i).length) fu k (A.1, A.2.1, A.2.2.1, A.2.2.2.1, A.2.2.2.2.1, A.2.2.2.2.2.1, A.2.2.2.2.2.2.1, A.2.2.2.2.2.2.2.1, A.2.2.2.2.2.2.2.2.1, A.2.2.2.2.2.2.2.2.2.1, it) → mit it (rin (trw W) i) → (∀ q : Nat, m + 12 ≤ q → q < m + 22 → h1 q = h q) → rl_G X (rl_e D ids H0) 68 [some (.ref m), some (.int (nI t)), some (.long (trw W)), none, some (.int (nI (1280 + t))), some (.int (nI i))] [] h1 n 0 0 := by
    intro mm
    induction mm with
    | zero =>
      intro i h1 it hm hq1 hit hdd
      have ei : i = rr := by omega
      subst ei
      have il := rin_le (trw W) i
      obtain ⟨hm0, g12, g13, g14, g15, g16, g17, g18, g19, g20, g21, g22⟩ := id hq1
      have g0 := hm0.1
      have gk := hm0.2.1
      refine o_iload hC dX8_stand_68 (by rfl) ?_
      refine o_aload_n hC dX8_stand_70 (by rfl) ?_
      refine o_getf hC (fX8_112 hC rfl) dX8_stand_71 (by repeat (first | with_reducible assumption | (rw [rl_u_s]; done) | (rw [rl_u_s]; rfl) | rw [rl_u_n (by first | with_reducible assumption | omega)])) (by first | rfl | with_reducible assumption) ?_
      rw [hrr]
      refine o_icmp_ge (tgt := 115) hC dX8_stand_74 (by decide) (fun c_74 => ?_) (fun c_74 => ?_)
      · refine o_aload_n hC dX8_stand_115 (by rfl) ?_
        refine o_getf hC (fX8_210 hC rfl) dX8_stand_116 (by repeat (first | with_reducible assumption | (rw [rl_u_s]; done) | (rw [rl_u_s]; rfl) | rw [rl_u_n (by first | with_reducible assumption | omega)])) (by first | rfl | with_reducible assumption) ?_
        refine o_bipush (v := nI 16) hC dX8_stand_119 (by decide +kernel) ?_
        refine o_icmp_gt (tgt := 128) hC dX8_stand_121 (by decide) (fun c_121 => ?_) (fun c_121 => ?_)
        · refine o_iconst (v := nI 0) hC dX8_stand_128 (by decide +kernel) ?_
          refine o_zret hC hB dX8_stand_129 (by first | rfl | decide +kernel) (Nat.le_of_ble_eq_true rfl) (Nat.le_of_ble_eq_true rfl) ?_
          first
          | exact ⟨it, by rw [if_pos (show (rin (trw W) i).length ≤ 16 from (nI_leI (by omega) (by decide)).mp (Int32.not_lt.mp c_121))], rfl, hq1, hit, hdd⟩
          | exact ⟨it, by rw [if_neg (show ¬ (rin (trw W) i).length ≤ 16 from fun u => absurd c_121 (Int32.not_lt.mpr (nI_le u (by decide))))], rfl, hq1, hit, hdd⟩
        · refine o_iconst (v := nI 1) hC dX8_stand_124 (by decide +kernel) ?_
          refine o_goto (tgt := 129) hC dX8_stand_125 (by decide) ?_
          refine o_zret hC hB dX8_stand_129 (by first | rfl | decide +kernel) (Nat.le_of_ble_eq_true rfl) (Nat.le_of_ble_eq_true rfl) ?_
          first
          | exact ⟨it, by rw [if_pos (show (rin (trw W) i).length ≤ 16 from (nI_leI (by omega) (by decide)).mp (Int32.not_lt.mp c_121))], rfl, hq1, hit, hdd⟩
          | exact ⟨it, by rw [if_neg (show ¬ (rin (trw W) i).length ≤ 16 from fun u => absurd c_121 (Int32.not_lt.mpr (nI_le u (by decide))))], rfl, hq1, hit, hdd⟩
      · exact absurd (nI_le (by omega) (by omega)) c_74
    | succ mm ih =>
      intro i h1 it hm hq1 hit hdd
      have il := rin_le (trw W) i
      obtain ⟨hm0, g12, g13, g14, g15, g16, g17, g18, g19, g20, g21, g22⟩ := id hq1
      have g0 := hm0.1
      have gk := hm0.2.1
      refine o_iload hC dX8_stand_68 (by rfl) ?_
      refine o_aload_n hC dX8_stand_70 (by rfl) ?_
      refine o_getf hC (fX8_112 hC rfl) dX8_stand_71 (by repeat (first | with_reducible assumption | (rw [rl_u_s]; done) | (rw [rl_u_s]; rfl) | rw [rl_u_n (by first | with_reducible assumption | omega)])) (by first | rfl | with_reducible assumption) ?_
      rw [hrr]
      refine o_icmp_ge (tgt := 115) hC dX8_stand_74 (by decide) (fun c_74 => ?_) (fun c_74 => ?_)
      · exact absurd c_74 (nI_ge (by omega) (by omega))
      · refine o_lload_n hC dX8_stand_77 (by rfl) ?_
        refine o_iload hC dX8_stand_78 (by rfl) ?_
        refine o_lshr hC dX8_stand_80 ?_
        refine o_lconst (v := 1) hC dX8_stand_81 (by decide +kernel) ?_
        refine o_land hC dX8_stand_82 ?_
        refine o_lconst (v := 1) hC dX8_stand_83 (by decide +kernel) ?_
        refine o_lcmp hC dX8_stand_84 ?_
        refine o_if_ne (tgt := 109) hC dX8_stand_85 (by decide) (fun c_85 => ?_) (fun c_85 => ?_)
        · refine o_iinc hC dX8_stand_109 (by rfl) (rl_inc _) (Nat.le_of_ble_eq_true rfl) ?_
          refine o_goto (tgt := 68) hC dX8_stand_112 (by decide) ?_
          first
          | (have eb : bt (trw W) i = true := by
               rw [bt_nat]
               exact decide_eq_true ((bit_i hal (by omega)).mp ((lg_cmp_eq _ _).mp (by first | exact c_85 | exact Classical.not_not.mp c_85)))
             have er : rin (trw W) (i + 1) = rin (trw W) i ++ [i] := by rw [rin_s, eb]; rfl
             have el : (rin (trw W) (i + 1)).length = (rin (trw W) i).length + 1 := by rw [er, List.length_append]; rfl
             refine ih (i + 1) _ (upd it (rin (trw W) i).length (nI i)) (by omega) ?_ (by rw [er]; exact mit_s hit) (fun q a b => (rl_u_n (by omega)).trans ((rl_u_n (by omega)).trans (hdd q a b)))
             rw [el]
             exact (hq1.s22 _).ob (T.1, T.2.1, T.2.2.1, T.2.2.2.1, T.2.2.2.2.1, T.2.2.2.2.2.1, nI ((rin (trw W) i).length + 1)) fu k gk)
          | (have eb : bt (trw W) i = false := by
               rw [bt_nat]
               exact decide_eq_false (fun u => c_85 ((lg_cmp_eq _ _).mpr ((bit_i hal (by omega)).mpr u)))
             have er : rin (trw W) (i + 1) = rin (trw W) i := by rw [rin_s, eb]; exact List.append_nil _
             exact ih (i + 1) _ it (by omega) (by rw [er]; exact hq1) (by rw [er]; exact hit) hdd)
        · refine o_aload_n hC dX8_stand_88 (by rfl) ?_
          refine o_getf hC (fX8_75 hC rfl) dX8_stand_89 (by repeat (first | with_reducible assumption | (rw [rl_u_s]; done) | (rw [rl_u_s]; rfl) | rw [rl_u_n (by first | with_reducible assumption | omega)])) (by first | rfl | with_reducible assumption) ?_
          refine o_aload_n hC dX8_stand_92 (by rfl) ?_
          refine o_getf hC (fX8_210 hC rfl) dX8_stand_93 (by repeat (first | with_reducible assumption | (rw [rl_u_s]; done) | (rw [rl_u_s]; rfl) | rw [rl_u_n (by first | with_reducible assumption | omega)])) (by first | rfl | with_reducible assumption) ?_
          refine o_iload hC dX8_stand_96 (by rfl) ?_
          refine o_iastN (t0 := 0) hC rfl dX8_stand_98 (by repeat (first | with_reducible assumption | (rw [rl_u_s]; done) | (rw [rl_u_s]; rfl) | rw [rl_u_n (by first | with_reducible assumption | omega)])) (by omega) (by decide) ?_
          refine o_aload_n hC dX8_stand_99 (by rfl) ?_
          refine o_dup hC dX8_stand_100 rfl ?_
          refine o_getf hC (fX8_210 hC rfl) dX8_stand_101 (by repeat (first | with_reducible assumption | (rw [rl_u_s]; done) | (rw [rl_u_s]; rfl) | rw [rl_u_n (by first | with_reducible assumption | omega)])) (by first | rfl | with_reducible assumption) ?_
          refine o_iconst (v := nI 1) hC dX8_stand_104 (by decide +kernel) ?_
          refine o_iadd hC dX8_stand_105 ?_
          try rw [nI_add]
          refine o_putf hC (fX8_210 hC rfl) (fwX8 rfl rfl rfl (Or.inl rfl)) dX8_stand_106 (by repeat (first | with_reducible assumption | (rw [rl_u_s]; done) | (rw [rl_u_s]; rfl) | rw [rl_u_n (by first | with_reducible assumption | omega)])) (Nat.le_of_ble_eq_true rfl) ?_
          try simp only [List.set_cons_zero, List.set_cons_succ]
          refine o_iinc hC dX8_stand_109 (by rfl) (rl_inc _) (Nat.le_of_ble_eq_true rfl) ?_
          refine o_goto (tgt := 68) hC dX8_stand_112 (by decide) ?_
          first
          | (have eb : bt (trw W) i = true := by
               rw [bt_nat]
               exact decide_eq_true ((bit_i hal (by omega)).mp ((lg_cmp_eq _ _).mp (by first | exact c_85 | exact Classical.not_not.mp c_85)))
             have er : rin (trw W) (i + 1) = rin (trw W) i ++ [i] := by rw [rin_s, eb]; rfl
             have el : (rin (trw W) (i + 1)).length = (rin (trw W) i).length + 1 := by rw [er, List.length_append]; rfl
             refine ih (i + 1) _ (upd it (rin (trw W) i).length (nI i)) (by omega) ?_ (by rw [er]; exact mit_s hit) (fun q a b => (rl_u_n (by omega)).trans ((rl_u_n (by omega)).trans (hdd q a b)))
             rw [el]
             exact (hq1.s22 _).ob (T.1, T.2.1, T.2.2.1, T.2.2.2.1, T.2.2.2.2.1, T.2.2.2.2.2.1, nI ((rin (trw W) i).length + 1)) fu k gk)
          | (have eb : bt (trw W) i = false := by
               rw [bt_nat]
               exact decide_eq_false (fun u => c_85 ((lg_cmp_eq _ _).mpr ((bit_i hal (by omega)).mpr u)))
             have er : rin (trw W) (i + 1) = rin (trw W) i := by rw [rin_s, eb]; exact List.append_nil _
             exact ih (i + 1) _ it (by omega) (by rw [er]; exact hq1) (by rw [er]; exact hit) hdd)
  have loop1 : ∀ (mm i : Nat) (al : Int64), i + mm = W.length → (W.drop i).foldl (fun a t => a ||| (t.1 ||| t.2)) al = trw W → rl_G X (rl_e D ids H0) 12 [some (.ref m), some (.int (nI t)), some (.long al), none, some (.int (nI (1280 + t))), some (.int (nI i))] [] h n 0 0 := by
    intro mm
    induction mm with
    | zero =>
      intro i al hm hi
      rw [List.drop_eq_nil_of_le (by omega)] at hi
      have hi : al = trw W := hi
      subst hi
      refine o_iload hC dX8_stand_12 (by rfl) ?_
      refine o_aload_n hC dX8_stand_14 (by rfl) ?_
      refine o_getf hC (fX8_53 hC rfl) dX8_stand_15 (by repeat (first | with_reducible assumption | (rw [rl_u_s]; done) | (rw [rl_u_s]; rfl) | rw [rl_u_n (by first | with_reducible assumption | omega)])) (by first | rfl | with_reducible assumption) ?_
      refine o_iload hC dX8_stand_18 (by rfl) ?_
      refine o_ialdN (t0 := 0) (k := 1280 + t) hC rfl dX8_stand_20 (by repeat (first | with_reducible assumption | (rw [rl_u_s]; done) | (rw [rl_u_s]; rfl) | rw [rl_u_n (by first | with_reducible assumption | omega)])) (by omega) (by decide) ?_
      rw [hw.1]
      refine o_icmp_ge (tgt := 60) hC dX8_stand_21 (by decide) (fun c_21 => ?_) (fun c_21 => ?_)
      · refine o_aload_n hC dX8_stand_60 (by rfl) ?_
        refine o_iconst (v := nI 0) hC dX8_stand_61 (by decide +kernel) ?_
        refine o_putf hC (fX8_210 hC rfl) (fwX8 rfl rfl rfl (Or.inl rfl)) dX8_stand_62 (by repeat (first | with_reducible assumption | (rw [rl_u_s]; done) | (rw [rl_u_s]; rfl) | rw [rl_u_n (by first | with_reducible assumption | omega)])) (Nat.le_of_ble_eq_true rfl) ?_
        try simp only [List.set_cons_zero, List.set_cons_succ]
        refine o_iconst (v := nI 0) hC dX8_stand_65 (by decide +kernel) ?_
        refine o_istore hC dX8_stand_66 (Nat.le_of_ble_eq_true rfl) ?_
        exact loop2 rr 0 _ A.2.2.2.2.2.2.2.2.2.2 (by omega) (hq.ob (T.1, T.2.1, T.2.2.1, T.2.2.2.1, T.2.2.2.2.1, T.2.2.2.2.2.1, nI 0) fu k gk) (fun p hp => absurd hp (Nat.not_lt_zero p)) (fun q a b => rl_u_n (by omega))
      · exact absurd (nI_le (by omega) (by omega)) c_21
    | succ mm ih =>
      intro i al hm hi
      have hil : i < W.length := by omega
      rw [drop_s hil, mws_fn hw hil] at hi
      refine o_iload hC dX8_stand_12 (by rfl) ?_
      refine o_aload_n hC dX8_stand_14 (by rfl) ?_
      refine o_getf hC (fX8_53 hC rfl) dX8_stand_15 (by repeat (first | with_reducible assumption | (rw [rl_u_s]; done) | (rw [rl_u_s]; rfl) | rw [rl_u_n (by first | with_reducible assumption | omega)])) (by first | rfl | with_reducible assumption) ?_
      refine o_iload hC dX8_stand_18 (by rfl) ?_
      refine o_ialdN (t0 := 0) (k := 1280 + t) hC rfl dX8_stand_20 (by repeat (first | with_reducible assumption | (rw [rl_u_s]; done) | (rw [rl_u_s]; rfl) | rw [rl_u_n (by first | with_reducible assumption | omega)])) (by omega) (by decide) ?_
      rw [hw.1]
      refine o_icmp_ge (tgt := 60) hC dX8_stand_21 (by decide) (fun c_21 => ?_) (fun c_21 => ?_)
      · exact absurd c_21 (nI_ge (by omega) (by omega))
      · refine o_lload_n hC dX8_stand_24 (by rfl) ?_
        refine o_aload_n hC dX8_stand_25 (by rfl) ?_
        refine o_getf hC (fX8_56 hC rfl) dX8_stand_26 (by repeat (first | with_reducible assumption | (rw [rl_u_s]; done) | (rw [rl_u_s]; rfl) | rw [rl_u_n (by first | with_reducible assumption | omega)])) (by first | rfl | with_reducible assumption) ?_
        refine o_bipush (v := nI 12) hC dX8_stand_29 (by decide +kernel) ?_
        refine o_iload hC dX8_stand_31 (by rfl) ?_
        refine o_imul hC dX8_stand_33 ?_
        try rw [nI_mul]
        refine o_iload hC dX8_stand_34 (by rfl) ?_
        refine o_iadd hC dX8_stand_36 ?_
        try rw [nI_add]
        refine o_laldN (t0 := 1) hC rfl dX8_stand_37 (by repeat (first | with_reducible assumption | (rw [rl_u_s]; done) | (rw [rl_u_s]; rfl) | rw [rl_u_n (by first | with_reducible assumption | omega)])) (by omega) (by decide) ?_
        refine o_aload_n hC dX8_stand_38 (by rfl) ?_
        refine o_getf hC (fX8_60 hC rfl) dX8_stand_39 (by repeat (first | with_reducible assumption | (rw [rl_u_s]; done) | (rw [rl_u_s]; rfl) | rw [rl_u_n (by first | with_reducible assumption | omega)])) (by first | rfl | with_reducible assumption) ?_
        refine o_bipush (v := nI 12) hC dX8_stand_42 (by decide +kernel) ?_
        refine o_iload hC dX8_stand_44 (by rfl) ?_
        refine o_imul hC dX8_stand_46 ?_
        try rw [nI_mul]
        refine o_iload hC dX8_stand_47 (by rfl) ?_
        refine o_iadd hC dX8_stand_49 ?_
        try rw [nI_add]
        refine o_laldN (t0 := 1) hC rfl dX8_stand_50 (by repeat (first | with_reducible assumption | (rw [rl_u_s]; done) | (rw [rl_u_s]; rfl) | rw [rl_u_n (by first | with_reducible assumption | omega)])) (by omega) (by decide) ?_
        refine o_lor hC dX8_stand_51 ?_
        refine o_lor hC dX8_stand_52 ?_
        refine o_lstore_n hC dX8_stand_53 (Nat.le_of_ble_eq_true rfl) ?_
        refine o_iinc hC dX8_stand_54 (by rfl) (rl_inc _) (Nat.le_of_ble_eq_true rfl) ?_
        refine o_goto (tgt := 12) hC dX8_stand_57 (by decide) ?_
        exact ih (i + 1) _ (by omega) hi
  show rl_G X (rl_e D ids H0) 0 [some (.ref m), some (.int (nI t)), none, none, none, none] [] h n 0 0
  refine o_lconst (v := 0) hC dX8_stand_0 (by decide +kernel) ?_
  refine o_lstore_n hC dX8_stand_1 (Nat.le_of_ble_eq_true rfl) ?_
  refine o_sipush (v := nI 1280) hC dX8_stand_2 (by decide +kernel) ?_
  refine o_iload_n hC dX8_stand_5 (by rfl) ?_
  refine o_iadd hC dX8_stand_6 ?_
  try rw [nI_add]
  refine o_istore hC dX8_stand_7 (Nat.le_of_ble_eq_true rfl) ?_
  refine o_iconst (v := nI 0) hC dX8_stand_9 (by decide +kernel) ?_
  refine o_istore hC dX8_stand_10 (Nat.le_of_ble_eq_true rfl) ?_
  exact loop1 W.length 0 _ (by omega) rfl

set_option maxHeartbeats 4000000 in
set_option maxRecDepth 100000 in
theorem cf_X8_rowsOf (l : Launch) (D : va_G) (ids : Nat → ClassId) (H0 : Heap) (h : rl_H) (n : Nat) (m : Nat) (T : md_T) (fu : Int32) (k : Nat) (A : md_D) (sn : Nat) (Es : List Nat) (hq : mf ids h h m T fu k A) (him : T.2.2.2.2.2.2 = nI Es.length) (hit : mit A.2.2.2.2.2.2.2.2.2.2 Es) (h16 : Es.length ≤ 16) (hsn : sn ≤ 65536) : rl_Met l (rl_e D ids H0) rl_BW rl_Ns yX8_rowsOf cX8_rowsOf 5 (some .long) ({ frames := 0, cells := 0, slots := 0, locals := 0 }) [.ref m, .int (nI sn)] h n (fun v h' n' => v = some (.long (rsn Es sn)) ∧ h' = h ∧ n' = n) := by
  obtain ⟨hm0, g12, g13, g14, g15, g16, g17, g18, g19, g20, g21, g22⟩ := id hq
  have g0 := hm0.1
  have gk := hm0.2.1
  have b13 := hq.b13
  have b15 := hq.b15
  have b21 := hq.b21
  refine rl_Met.of (by decide +kernel) (Nat.le_of_ble_eq_true rfl) ?_
  intro X hC hB
  have loop : ∀ (mm i : Nat) (al : Int64), i + mm = Es.length → al ||| rsn (Es.drop i) (sn / 2 ^ i) = rsn Es sn → rl_G X (rl_e D ids H0) 5 [some (.ref m), some (.int (nI sn)), some (.long al), none, some (.int (nI i))] [] h n 0 0 := by
    intro mm
    induction mm with
    | zero =>
      intro i al hm hi
      rw [List.drop_eq_nil_of_le (by omega)] at hi
      have hi : al ||| 0 = rsn Es sn := hi
      rw [or_z] at hi
      refine o_iload hC dX8_rowsOf_5 (by rfl) ?_
      refine o_aload_n hC dX8_rowsOf_7 (by rfl) ?_
      refine o_getf hC (fX8_210 hC rfl) dX8_rowsOf_8 (by repeat (first | with_reducible assumption | (rw [rl_u_s]; done) | (rw [rl_u_s]; rfl) | rw [rl_u_n (by first | with_reducible assumption | omega)])) (by first | rfl | with_reducible assumption) ?_
      rw [him]
      refine o_icmp_ge (tgt := 46) hC dX8_rowsOf_11 (by decide) (fun c_11 => ?_) (fun c_11 => ?_)
      · refine o_lload_n hC dX8_rowsOf_46 (by rfl) ?_
        refine o_lret hC hB dX8_rowsOf_47 (Nat.le_of_ble_eq_true rfl) (Nat.le_of_ble_eq_true rfl) ?_
        exact ⟨by rw [hi], rfl, rfl⟩
      · exact absurd (nI_le (by omega) (by omega)) c_11
    | succ mm ih =>
      intro i al hm hi
      have hil : i < Es.length := by omega
      have e9 : sn / 2 ^ i / 2 = sn / 2 ^ (i + 1) := by rw [Nat.pow_succ, Nat.div_div_eq_div_mul]
      rw [rsn_drop hil, e9] at hi
      have hpi := hit i hil
      refine o_iload hC dX8_rowsOf_5 (by rfl) ?_
      refine o_aload_n hC dX8_rowsOf_7 (by rfl) ?_
      refine o_getf hC (fX8_210 hC rfl) dX8_rowsOf_8 (by repeat (first | with_reducible assumption | (rw [rl_u_s]; done) | (rw [rl_u_s]; rfl) | rw [rl_u_n (by first | with_reducible assumption | omega)])) (by first | rfl | with_reducible assumption) ?_
      rw [him]
      refine o_icmp_ge (tgt := 46) hC dX8_rowsOf_11 (by decide) (fun c_11 => ?_) (fun c_11 => ?_)
      · exact absurd c_11 (nI_ge (by omega) (by omega))
      · refine o_lload_n hC dX8_rowsOf_14 (by rfl) ?_
        refine o_iload_n hC dX8_rowsOf_15 (by rfl) ?_
        refine o_iload hC dX8_rowsOf_16 (by rfl) ?_
        refine o_ishr hC dX8_rowsOf_18 ?_
        refine o_iconst (v := nI 1) hC dX8_rowsOf_19 (by decide +kernel) ?_
        refine o_iand hC dX8_rowsOf_20 ?_
        refine o_iconst (v := nI 1) hC dX8_rowsOf_21 (by decide +kernel) ?_
        refine o_icmp_ne (tgt := 37) hC dX8_rowsOf_22 (by decide) (fun c_22 => ?_) (fun c_22 => ?_)
        · refine o_lconst (v := 0) hC dX8_rowsOf_37 (by decide +kernel) ?_
          refine o_lor hC dX8_rowsOf_38 ?_
          refine o_lstore_n hC dX8_rowsOf_39 (Nat.le_of_ble_eq_true rfl) ?_
          refine o_iinc hC dX8_rowsOf_40 (by rfl) (rl_inc _) (Nat.le_of_ble_eq_true rfl) ?_
          refine o_goto (tgt := 5) hC dX8_rowsOf_43 (by decide) ?_
          first
          | (rw [if_pos ((sbit (by omega) (by omega)).mp (by first | exact c_22 | exact Classical.not_not.mp c_22)), ← or_as] at hi
             exact ih (i + 1) _ (by omega) hi)
          | (rw [if_neg (fun u => c_22 ((sbit (by omega) (by omega)).mpr u)), ← or_as] at hi
             exact ih (i + 1) _ (by omega) hi)
        · refine o_lconst (v := 1) hC dX8_rowsOf_25 (by decide +kernel) ?_
          refine o_aload_n hC dX8_rowsOf_26 (by rfl) ?_
          refine o_getf hC (fX8_75 hC rfl) dX8_rowsOf_27 (by repeat (first | with_reducible assumption | (rw [rl_u_s]; done) | (rw [rl_u_s]; rfl) | rw [rl_u_n (by first | with_reducible assumption | omega)])) (by first | rfl | with_reducible assumption) ?_
          refine o_iload hC dX8_rowsOf_30 (by rfl) ?_
          refine o_ialdN (t0 := 0) (k := i) hC rfl dX8_rowsOf_32 (by repeat (first | with_reducible assumption | (rw [rl_u_s]; done) | (rw [rl_u_s]; rfl) | rw [rl_u_n (by first | with_reducible assumption | omega)])) (by omega) (by decide) ?_
          rw [hpi]
          refine o_lshl hC dX8_rowsOf_33 ?_
          refine o_goto (tgt := 38) hC dX8_rowsOf_34 (by decide) ?_
          refine o_lor hC dX8_rowsOf_38 ?_
          refine o_lstore_n hC dX8_rowsOf_39 (Nat.le_of_ble_eq_true rfl) ?_
          refine o_iinc hC dX8_rowsOf_40 (by rfl) (rl_inc _) (Nat.le_of_ble_eq_true rfl) ?_
          refine o_goto (tgt := 5) hC dX8_rowsOf_43 (by decide) ?_
          first
          | (rw [if_pos ((sbit (by omega) (by omega)).mp (by first | exact c_22 | exact Classical.not_not.mp c_22)), ← or_as] at hi
             exact ih (i + 1) _ (by omega) hi)
          | (rw [if_neg (fun u => c_22 ((sbit (by omega) (by omega)).mpr u)), ← or_as] at hi
             exact ih (i + 1) _ (by omega) hi)
  show rl_G X (rl_e D ids H0) 0 [some (.ref m), some (.int (nI sn)), none, none, none] [] h n 0 0
  refine o_lconst (v := 0) hC dX8_rowsOf_0 (by decide +kernel) ?_
  refine o_lstore_n hC dX8_rowsOf_1 (Nat.le_of_ble_eq_true rfl) ?_
  refine o_iconst (v := nI 0) hC dX8_rowsOf_2 (by decide +kernel) ?_
  refine o_istore hC dX8_rowsOf_3 (Nat.le_of_ble_eq_true rfl) ?_
  exact loop Es.length 0 _ (by omega) (by rw [Nat.pow_zero, Nat.div_one, or_0]; rfl)

set_option maxHeartbeats 4000000 in
set_option maxRecDepth 100000 in
theorem cf_X8_count (l : Launch) (D : va_G) (ids : Nat → ClassId) (H0 : Heap) (h : rl_H) (n : Nat) (m : Nat) (T : md_T) (fu : Int32) (k : Nat) (A : md_D) (S : md_A) (z : sh_S) (res : List arow) (rw : Nat) (q : Int32) (hq : mf ids h h m T fu k A) (hu : md_un ids h m T fu k S z) (hr : mrs A T res rw) (hal : ∀ t : Nat, t < res.length → l64 (trw (ark res t).2) < 2 ^ 36) : rl_Met l (rl_e D ids H0) rl_BW rl_Ns yX8_count cX8_count 4 (some .int) ({ frames := 2, cells := 0, slots := 0, locals := 48 }) [.ref m, .int q] h n (fun v h' n' => ∃ r : Int32, v = some (.int r) ∧ n' = n ∧ mdx ids h' m T z (fun S' => S' = S) (∀ q : Nat, m + 12 ≤ q → q < m + 22 → h' q = h q) ∧ rl_fr h h' m (m + 23) ∧ ((¬ (∃ t : Nat, t < res.length ∧ q = nI t) ∧ r = -1) ∨ ∃ t : Nat, t < res.length ∧ q = nI t ∧ r = (if (rin (trw (ark res t).2) z.2.2.1).length ≤ 16 then mcn (ark res t).2 (rin (trw (ark res t).2) z.2.2.1) (2 ^ (rin (trw (ark res t).2) z.2.2.1).length) 0 (nI 0) else (-4 : Int32)))) := by
  obtain ⟨hm0, g12, g13, g14, g15, g16, g17, g18, g19, g20, g21, g22⟩ := id hq
  have g0 := hm0.1
  have gk := hm0.2.1
  have b13 := hq.b13
  have b15 := hq.b15
  have b21 := hq.b21
  have hq0 := hq.ob (nI 0, T.2) fu k gk
  have r80 := hr.2.1.2.2
  have h16 := hr.1.1
  obtain ⟨-, hs, ⟨hsc, hsc4⟩, hwf, ⟨hrr, hr36⟩, ⟨hnc, hn16⟩, hnw, hpr, -, hwv, wrc, hrc6, hrc⟩ := id hu
  refine rl_Met.of (by decide +kernel) (Nat.le_of_ble_eq_true rfl) ?_
  intro X hC hB
  show rl_G X (rl_e D ids H0) 0 [some (.ref m), some (.int q), none, none] [] h n 0 0
  refine o_aload_n hC dX8_count_0 (by rfl) ?_
  refine o_iconst (v := nI 0) hC dX8_count_1 (by decide +kernel) ?_
  refine o_putf hC (fX8_78 hC rfl) (fwX8 rfl rfl rfl (Or.inl rfl)) dX8_count_2 (by repeat (first | with_reducible assumption | (rw [rl_u_s]; done) | (rw [rl_u_s]; rfl) | rw [rl_u_n (by first | with_reducible assumption | omega)])) (Nat.le_of_ble_eq_true rfl) ?_
  try simp only [List.set_cons_zero, List.set_cons_succ]
  refine o_aload_n hC dX8_count_5 (by rfl) ?_
  refine o_iload_n hC dX8_count_6 (by rfl) ?_
  refine o_callV1 hC rl_BW_good rl_Ns_nw (by exact hB.2.2.2.2.2) YX8_isTuple IX8_isTuple VX8_isTuple (mX8_199 hC) (by rw [hB.1]; exact ct_X8_isTuple l D ids H0 _ _ m (m + 13) _ _ A.2.1 (by repeat (first | with_reducible assumption | (rw [rl_u_s]; done) | (rw [rl_u_s]; rfl) | rw [rl_u_n (by first | with_reducible assumption | omega)])) rfl (by repeat (first | with_reducible assumption | (rw [rl_u_s]; done) | (rw [rl_u_s]; rfl) | rw [rl_u_n (by first | with_reducible assumption | omega)]))) (by repeat (first | with_reducible assumption | (rw [rl_u_s]; done) | (rw [rl_u_s]; rfl) | rw [rl_u_n (by first | with_reducible assumption | omega)])) rfl rfl (Nat.le_of_ble_eq_true rfl) (by rw [hB.2.1]; first | exact Nat.le_of_ble_eq_true rfl | (dsimp only; omega)) (by rw [hB.2.1]; first | exact Nat.le_of_ble_eq_true rfl | (dsimp only; omega)) (by rw [hB.2.1]; first | exact Nat.le_of_ble_eq_true rfl | (dsimp only; omega)) (by rw [hB.2.1]; first | exact Nat.le_of_ble_eq_true rfl | (dsimp only; omega)) dX8_count_7 (fun v h_7 n_7 p_7 => ?_)
  obtain ⟨rfl, rfl, rfl⟩ := p_7
  try dsimp only [Option.toList, List.cons_append, List.nil_append]
  by_cases hr9 : q < 0 ∨ A.2.1 16 ≤ q
  · rw [if_pos hr9]
    have nin : ¬ (∃ t : Nat, t < res.length ∧ q = nI t) := fun ⟨t, ht, e⟩ => hr9.elim (fun u => absurd u (by rw [e]; exact nI_pos (by omega))) (fun u => absurd u (by rw [h16, e]; exact nI_ge ht (by omega)))
    refine o_if_ne (tgt := 15) hC dX8_count_10 (by decide) (fun c_10 => ?_) (fun c_10 => ?_)
    · exact absurd rfl c_10
    · refine o_iconst (v := (-1 : Int32)) hC dX8_count_13 (by decide +kernel) ?_
      refine o_iret hC hB dX8_count_14 (Nat.le_of_ble_eq_true rfl) (Nat.le_of_ble_eq_true rfl) ?_
      exact ⟨_, rfl, rfl, ⟨_, _, _, S, hu.dp hq0.1 rfl rfl rfl rfl ⟨wrc, hrc6, hrc⟩, rfl, rfl, (fun q a b => rl_u_n (by omega))⟩, hq0.1.fr, Or.inl ⟨nin, rfl⟩⟩
  · rw [if_neg hr9]
    obtain ⟨t, htl, rfl⟩ := nI_of_lt (k := res.length) (by omega) (fun e => hr9 (Or.inl e)) (fun e => hr9 (Or.inr (by rw [h16]; exact e)))
    have ht : t < 80 := by omega
    have hrw := hr.1.2 t htl
    have hws : mws A (1280 + t) (ark res t).2 := hrw.2
    have g00 := hq0.1.1
    refine o_if_ne (tgt := 15) hC dX8_count_10 (by decide) (fun c_10 => ?_) (fun c_10 => ?_)
    · refine o_aload_n hC dX8_count_15 (by rfl) ?_
      refine o_iload_n hC dX8_count_16 (by rfl) ?_
      refine o_callV1 hC rl_BW_good rl_Ns_nw (by exact hB.2.2.2.2.2) YX8_stand IX8_stand VX8_stand (mX8_213 hC) (by rw [hB.1]; exact cf_X8_stand l D ids H0 _ _ m _ _ _ _ t z.2.2.1 _ hq0.rf ht hws hrr hr36 (hal t htl)) (by exact hq0.1.1) rfl rfl (Nat.le_of_ble_eq_true rfl) (by rw [hB.2.1]; first | exact Nat.le_of_ble_eq_true rfl | (dsimp only; omega)) (by rw [hB.2.1]; first | exact Nat.le_of_ble_eq_true rfl | (dsimp only; omega)) (by rw [hB.2.1]; first | exact Nat.le_of_ble_eq_true rfl | (dsimp only; omega)) (by rw [hB.2.1]; first | exact Nat.le_of_ble_eq_true rfl | (dsimp only; omega)) dX8_count_17 (fun v h_17 n_17 p_17 => ?_)
      obtain ⟨it, rfl, rfl, q17, hit, dst⟩ := p_17
      have hq2 := hq0.tr q17
      have g02 := hq2.1.1
      try dsimp only [Option.toList, List.cons_append, List.nil_append]
      refine o_if_ne (tgt := 26) hC dX8_count_20 (by decide) (fun c_20 => ?_) (fun c_20 => ?_)
      · have n16 : (rin (trw (ark res t).2) z.2.2.1).length ≤ 16 := Classical.byContradiction (fun u => c_20 (by rw [if_neg u]; rfl))
        refine o_iconst (v := nI 0) hC dX8_count_26 (by decide +kernel) ?_
        refine o_istore_n hC dX8_count_27 (Nat.le_of_ble_eq_true rfl) ?_
        refine o_iconst (v := nI 0) hC dX8_count_28 (by decide +kernel) ?_
        refine o_istore_n hC dX8_count_29 (Nat.le_of_ble_eq_true rfl) ?_
        have p16 : 2 ^ (rin (trw (ark res t).2) z.2.2.1).length ≤ 2 ^ 16 := Nat.pow_le_pow_right (by decide) n16
        have shk := shl_k (rin (trw (ark res t).2) z.2.2.1).length (by omega)
        have loop : ∀ (mm sn : Nat) (c : Int32), sn + mm = 2 ^ (rin (trw (ark res t).2) z.2.2.1).length → mcn (ark res t).2 (rin (trw (ark res t).2) z.2.2.1) mm sn c = mcn (ark res t).2 (rin (trw (ark res t).2) z.2.2.1) (2 ^ (rin (trw (ark res t).2) z.2.2.1).length) 0 (nI 0) → rl_G X (rl_e D ids H0) 30 [some (.ref m), some (.int (nI t)), some (.int c), some (.int (nI sn))] [] h_17 n_17 0 0 := by
          intro mm
          induction mm with
          | zero =>
            intro sn c hm hi
            refine o_iload_n hC dX8_count_30 (by rfl) ?_
            refine o_iconst (v := nI 1) hC dX8_count_31 (by decide +kernel) ?_
            refine o_aload_n hC dX8_count_32 (by rfl) ?_
            refine o_getf hC (fX8_210 hC rfl) dX8_count_33 (by repeat (first | with_reducible assumption | (rw [rl_u_s]; done) | (rw [rl_u_s]; rfl) | rw [rl_u_n (by first | with_reducible assumption | omega)])) (by first | rfl | with_reducible assumption) ?_
            refine o_ishl hC dX8_count_36 ?_
            rw [shk]
            refine o_icmp_ge (tgt := 67) hC dX8_count_37 (by decide) (fun c_37 => ?_) (fun c_37 => ?_)
            · refine o_iload_n hC dX8_count_67 (by rfl) ?_
              refine o_iret hC hB dX8_count_68 (Nat.le_of_ble_eq_true rfl) (Nat.le_of_ble_eq_true rfl) ?_
              exact ⟨_, rfl, rfl, ⟨_, _, _, S, hu.dp hq2.1 rfl rfl rfl rfl ⟨wrc, hrc6, hrc⟩, rfl, rfl, (fun q a b => (dst q a b).trans (rl_u_n (by omega)))⟩, hq2.1.fr, Or.inr ⟨t, htl, rfl, by rw [if_pos n16, ← hi]; rfl⟩⟩
            · exact absurd (nI_le (by omega) (by omega)) c_37
          | succ mm ih =>
            intro sn c hm hi
            have hi : mcn (ark res t).2 (rin (trw (ark res t).2) z.2.2.1) mm (sn + 1) (if wfh (rsn (rin (trw (ark res t).2) z.2.2.1) sn) (ark res t).2 0 = -1 then c else c + nI 1) = _ := hi
            refine o_iload_n hC dX8_count_30 (by rfl) ?_
            refine o_iconst (v := nI 1) hC dX8_count_31 (by decide +kernel) ?_
            refine o_aload_n hC dX8_count_32 (by rfl) ?_
            refine o_getf hC (fX8_210 hC rfl) dX8_count_33 (by repeat (first | with_reducible assumption | (rw [rl_u_s]; done) | (rw [rl_u_s]; rfl) | rw [rl_u_n (by first | with_reducible assumption | omega)])) (by first | rfl | with_reducible assumption) ?_
            refine o_ishl hC dX8_count_36 ?_
            rw [shk]
            refine o_icmp_ge (tgt := 67) hC dX8_count_37 (by decide) (fun c_37 => ?_) (fun c_37 => ?_)
            · exact absurd c_37 (nI_ge (by omega) (by omega))
            · refine o_iload_n hC dX8_count_40 (by rfl) ?_
              refine o_aload_n hC dX8_count_41 (by rfl) ?_
              refine o_iload_n hC dX8_count_42 (by rfl) ?_
              refine o_aload_n hC dX8_count_43 (by rfl) ?_
              refine o_iload_n hC dX8_count_44 (by rfl) ?_
              refine o_callV1 hC rl_BW_good rl_Ns_nw (by exact hB.2.2.2.2.2) YX8_rowsOf IX8_rowsOf VX8_rowsOf (mX8_216 hC) (by rw [hB.1]; exact cf_X8_rowsOf l D ids H0 _ _ m _ _ _ _ sn (rin (trw (ark res t).2) z.2.2.1) hq2.rf rfl hit n16 (by omega)) (by exact hq2.1.1) rfl rfl (Nat.le_of_ble_eq_true rfl) (by rw [hB.2.1]; first | exact Nat.le_of_ble_eq_true rfl | (dsimp only; omega)) (by rw [hB.2.1]; first | exact Nat.le_of_ble_eq_true rfl | (dsimp only; omega)) (by rw [hB.2.1]; first | exact Nat.le_of_ble_eq_true rfl | (dsimp only; omega)) (by rw [hB.2.1]; first | exact Nat.le_of_ble_eq_true rfl | (dsimp only; omega)) dX8_count_45 (fun v h_45 n_45 p_45 => ?_)
              obtain ⟨rfl, rfl, rfl⟩ := p_45
              try dsimp only [Option.toList, List.cons_append, List.nil_append]
              refine o_callV2 hC rl_BW_good rl_Ns_nw (by exact hB.2.2.2.2.2) YX8_isSo IX8_isSo VX8_isSo (mX8_206 hC) (by rw [hB.1]; exact cf_X8_isSo l D ids H0 _ _ m _ _ _ _ t _ (ark res t).2 hq2.rf ht hws) (by exact hq2.1.1) rfl rfl (Nat.le_of_ble_eq_true rfl) (by rw [hB.2.1]; first | exact Nat.le_of_ble_eq_true rfl | (dsimp only; omega)) (by rw [hB.2.1]; first | exact Nat.le_of_ble_eq_true rfl | (dsimp only; omega)) (by rw [hB.2.1]; first | exact Nat.le_of_ble_eq_true rfl | (dsimp only; omega)) (by rw [hB.2.1]; first | exact Nat.le_of_ble_eq_true rfl | (dsimp only; omega)) dX8_count_48 (fun v h_48 n_48 p_48 => ?_)
              obtain ⟨rfl, rfl, rfl⟩ := p_48
              try dsimp only [Option.toList, List.cons_append, List.nil_append]
              refine o_if_eq (tgt := 58) hC dX8_count_51 (by decide) (fun c_51 => ?_) (fun c_51 => ?_)
              · refine o_iconst (v := nI 0) hC dX8_count_58 (by decide +kernel) ?_
                refine o_iadd hC dX8_count_59 ?_
                refine o_istore_n hC dX8_count_60 (Nat.le_of_ble_eq_true rfl) ?_
                refine o_iinc hC dX8_count_61 (by rfl) (rl_inc _) (Nat.le_of_ble_eq_true rfl) ?_
                refine o_goto (tgt := 30) hC dX8_count_64 (by decide) ?_
                by_cases e9 : wfh (rsn (rin (trw (ark res t).2) z.2.2.1) sn) (ark res t).2 0 = -1
                · rw [if_pos e9] at c_51 hi
                  first
                  | exact absurd rfl c_51
                  | exact ih (sn + 1) _ (by omega) (by rw [ad0]; exact hi)
                · rw [if_neg e9] at c_51 hi
                  first
                  | exact absurd c_51 (by decide +kernel)
                  | exact ih (sn + 1) _ (by omega) hi
              · refine o_iconst (v := nI 1) hC dX8_count_54 (by decide +kernel) ?_
                refine o_goto (tgt := 59) hC dX8_count_55 (by decide) ?_
                refine o_iadd hC dX8_count_59 ?_
                refine o_istore_n hC dX8_count_60 (Nat.le_of_ble_eq_true rfl) ?_
                refine o_iinc hC dX8_count_61 (by rfl) (rl_inc _) (Nat.le_of_ble_eq_true rfl) ?_
                refine o_goto (tgt := 30) hC dX8_count_64 (by decide) ?_
                by_cases e9 : wfh (rsn (rin (trw (ark res t).2) z.2.2.1) sn) (ark res t).2 0 = -1
                · rw [if_pos e9] at c_51 hi
                  first
                  | exact absurd rfl c_51
                  | exact ih (sn + 1) _ (by omega) (by rw [ad0]; exact hi)
                · rw [if_neg e9] at c_51 hi
                  first
                  | exact absurd c_51 (by decide +kernel)
                  | exact ih (sn + 1) _ (by omega) hi
        exact loop (2 ^ (rin (trw (ark res t).2) z.2.2.1).length) 0 _ (by omega) rfl
      · refine o_bipush (v := (-4 : Int32)) hC dX8_count_23 (by decide +kernel) ?_
        refine o_iret hC hB dX8_count_25 (Nat.le_of_ble_eq_true rfl) (Nat.le_of_ble_eq_true rfl) ?_
        exact ⟨_, rfl, rfl, ⟨_, _, _, S, hu.dp hq2.1 rfl rfl rfl rfl ⟨wrc, hrc6, hrc⟩, rfl, rfl, (fun q a b => (dst q a b).trans (rl_u_n (by omega)))⟩, hq2.1.fr, Or.inr ⟨t, htl, rfl, by rw [if_neg (fun u => absurd (show (nI 1 : Int32) = nI 0 by rw [if_pos u] at c_20; first | exact c_20 | exact Classical.not_not.mp c_20) (by decide +kernel))]⟩⟩
    · exact absurd c_10 (by decide +kernel)

theorem trw_bt : ∀ (L : List tT) (a : Int64) (i : Nat), bt (L.foldl (fun a t => a ||| (t.1 ||| t.2)) a) i = true ↔ (bt a i = true ∨ ∃ t ∈ L, bt t.1 i = true ∨ bt t.2 i = true)
  | [], a, i => ⟨fun h => Or.inl h, fun h => h.elim id (fun ⟨t, ht, _⟩ => absurd ht (by simp))⟩
  | t :: L, a, i => by
    show bt (L.foldl (fun a t => a ||| (t.1 ||| t.2)) (a ||| (t.1 ||| t.2))) i = true ↔ _
    rw [trw_bt L, bt_or, bt_or, Bool.or_eq_true, Bool.or_eq_true]
    constructor
    · rintro ((h | h) | ⟨u, hu, h⟩)
      · exact Or.inl h
      · exact Or.inr ⟨t, List.mem_cons_self, h⟩
      · exact Or.inr ⟨u, List.mem_cons_of_mem _ hu, h⟩
    · rintro (h | ⟨u, hu, h⟩)
      · exact Or.inl (Or.inl h)
      · rcases List.mem_cons.mp hu with e | hu
        · rw [e] at h
          exact Or.inl (Or.inr h)
        · exact Or.inr ⟨u, hu, h⟩
theorem trw_lt {W : List tT} {rc : Nat} (hW : tbs (tbk rc) W) : ∀ i : Nat, bt (trw W) i = true → i < rc := fun i hi => by
  rcases (trw_bt W 0 i).mp hi with h | ⟨t, ht, h⟩
  · rw [show bt 0 i = false from bit_0 i] at h
    exact absurd h (by decide)
  · exact hW t ht i h
theorem trw_36 {W : List tT} {rc : Nat} (h36 : rc ≤ 36) (hW : tbs (tbk rc) W) : l64 (trw W) < 2 ^ 36 := Nat.lt_of_lt_of_le (l64_lt (by omega) (trw_lt hW)) (Nat.pow_le_pow_right (by decide) h36)
theorem bc_rin {W : List tT} {rc : Nat} (h36 : rc ≤ 36) (hW : tbs (tbk rc) W) : jd_bcL (trw W) = nI (rin (trw W) rc).length := by
  rw [bc_cnt (all := trw W) h36 (fun i hi => ⟨hi, trw_lt hW i hi⟩)]
  congr 1
  exact List.countP_eq_length.mpr (fun i hi => (List.mem_filter.mp hi).2)
theorem bin_W {W : List tT} {rc : Nat} (hW : tbs (tbk rc) W) : ∀ t ∈ W, bin t.1 (rin (trw W) rc) ∧ bin t.2 (rin (trw W) rc) := fun t ht => ⟨fun i hi => List.mem_filter.mpr ⟨List.mem_range.mpr (hW t ht i (Or.inl hi)), (trw_bt W 0 i).mpr (Or.inr ⟨t, ht, Or.inl hi⟩)⟩, fun i hi => List.mem_filter.mpr ⟨List.mem_range.mpr (hW t ht i (Or.inr hi)), (trw_bt W 0 i).mpr (Or.inr ⟨t, ht, Or.inr hi⟩)⟩⟩
theorem cnt_eq {res : List arow} {q r1 r2 : Int32} {rc : Nat} (n80 : res.length ≤ 80) (h36 : rc ≤ 36) (hb : rbs (tbk rc) res) (hle : ∀ t0 : Nat, t0 < res.length → (ark res t0).2.length ≤ 12) (H1 : (¬ (∃ t : Nat, t < res.length ∧ q = nI t) ∧ r1 = -1) ∨ ∃ t : Nat, t < res.length ∧ q = nI t ∧ r1 = (if (jd_bcL (trw (ark res t).2)) ≤ nI 16 then nI 1 <<< ((jd_bcL (trw (ark res t).2)) &&& 31) - swn (jd_bcL (trw (ark res t).2)) (ark res t).2 0 0 else (-4 : Int32))) (H2 : (¬ (∃ t : Nat, t < res.length ∧ q = nI t) ∧ r2 = -1) ∨ ∃ t : Nat, t < res.length ∧ q = nI t ∧ r2 = (if (rin (trw (ark res t).2) rc).length ≤ 16 then mcn (ark res t).2 (rin (trw (ark res t).2) rc) (2 ^ (rin (trw (ark res t).2) rc).length) 0 (nI 0) else (-4 : Int32))) : r1 = r2 := by
  refine lk_eq n80 H1 (H2.imp id (fun ⟨t, a, b, e⟩ => ⟨t, a, b, e.trans ?_⟩))
  have hW := ark_B hb t
  rw [bc_rin h36 hW]
  have rl := rin_le (trw (ark res t).2) rc
  by_cases n16 : (rin (trw (ark res t).2) rc).length ≤ 16
  · rw [if_pos n16, if_pos (nI_le n16 (by decide))]
    exact (count_eq h36 n16 (bin_W hW) (hle t a)).symm
  · rw [if_neg n16, if_neg (fun u => n16 ((nI_leI (by omega) (by decide)).mp u))]
