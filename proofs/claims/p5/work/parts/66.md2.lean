/-! THE MODEL by shapes: goes, settle, either, both, turn, not -/
abbrev gs_c (hn hl : Nat → Int64) (i j : Nat) : Prop := (lg_cmp (hn i &&& (hn j ^^^ (-1))) 0 = 0 ∧ lg_cmp (hl i &&& (hl j ^^^ (-1))) 0 = 0) ∧ (¬ (lg_cmp (hn i) (hn j) = 0 ∧ lg_cmp (hl i) (hl j) = 0) ∨ nI i < nI j)
def gs (hn hl : Nat → Int64) (j : Nat) : Nat → Nat → Int32
  | 0, _ => nI 0
  | f + 1, i => if gs_c hn hl i j then nI 1 else gs hn hl j f (i + 1)
def md_cnt (G : Nat → Int32) : Nat → Nat
  | 0 => 0
  | i + 1 => md_cnt G i + (if G i = 0 then 1 else 0)
theorem md_cnt_s {G : Nat → Int32} {i : Nat} (h : G i = 0) : md_cnt G (i + 1) = md_cnt G i + 1 := by
  rw [md_cnt, if_pos h]
theorem md_cnt_n {G : Nat → Int32} {i : Nat} (h : ¬ G i = 0) : md_cnt G (i + 1) = md_cnt G i := by
  rw [md_cnt, if_neg h, Nat.add_zero]
theorem md_cnt_le (G : Nat → Int32) (i : Nat) : ∀ d : Nat, md_cnt G i ≤ md_cnt G (i + d)
  | 0 => Nat.le_refl _
  | d + 1 => by
    refine Nat.le_trans (md_cnt_le G i d) ?_
    show md_cnt G (i + d) ≤ md_cnt G (i + d + 1)
    rw [md_cnt]
    exact Nat.le_add_right _ _
theorem md_cnt_ub (G : Nat → Int32) : ∀ i : Nat, md_cnt G i ≤ i
  | 0 => Nat.le_refl _
  | i + 1 => by
    rw [md_cnt]
    have := md_cnt_ub G i
    split <;> omega

set_option maxHeartbeats 4000000 in
set_option maxRecDepth 100000 in
theorem cm_X8_goes (l : Launch) (D : va_G) (ids : Nat → ClassId) (H0 : Heap) (h : rl_H) (n : Nat) (m : Nat) (T : md_T) (fu : Int32) (k : Nat) (j : Nat) (hn hl : Nat → Int64) (hq : mq ids h h m T fu k) (h18 : h (m + 18) = some (.inl (ids 1, 160, .inr (.inl hn)))) (h19 : h (m + 19) = some (.inl (ids 1, 160, .inr (.inl hl)))) (hj : j < k) : rl_Met l (rl_e D ids H0) rl_BW rl_Ns yX8_goes cX8_goes 5 (some .boolean) ({ frames := 0, cells := 0, slots := 0, locals := 0 }) [.ref m, .int (nI j)] h n (fun v h' n' => v = some (.int (gs hn hl j k 0)) ∧ h' = h ∧ n' = n) := by
  obtain ⟨g0, gk, -, gf⟩ := id hq
  refine rl_Met.of (by decide +kernel) (Nat.le_of_ble_eq_true rfl) ?_
  intro X hC hB
  have loop : ∀ (mm i : Nat) (o3 o4 : Option Value), i + mm = k → gs hn hl j k 0 = gs hn hl j mm i → rl_G X (rl_e D ids H0) 2 [some (.ref m), some (.int (nI j)), some (.int (nI i)), o3, o4] [] h n 0 0 := by
    intro mm
    induction mm with
    | zero =>
      intro i o3 o4 hm hs
      refine o_iload_n hC dX8_goes_2 (by rfl) ?_
      refine o_aload_n hC dX8_goes_3 (by rfl) ?_
      refine o_getf hC (fX8_82 hC rfl) dX8_goes_4 (by repeat (first | with_reducible assumption | (rw [rl_u_s]; done) | (rw [rl_u_s]; rfl) | rw [rl_u_n (by first | with_reducible assumption | omega)])) (by first | rfl | with_reducible assumption) ?_
      refine o_icmp_ge (tgt := 121) hC dX8_goes_7 (by decide) (fun c_7 => ?_) (fun c_7 => ?_)
      · refine o_iconst (v := nI 0) hC dX8_goes_121 (by decide +kernel) ?_
        refine o_zret hC hB dX8_goes_122 (by decide +kernel) (Nat.le_of_ble_eq_true rfl) (Nat.le_of_ble_eq_true rfl) ?_
        exact ⟨by rw [hs]; rfl, rfl, rfl⟩
      · exact absurd (nI_le (by omega) (by omega)) c_7
    | succ mm ih =>
      intro i o3 o4 hm hs
      refine o_iload_n hC dX8_goes_2 (by rfl) ?_
      refine o_aload_n hC dX8_goes_3 (by rfl) ?_
      refine o_getf hC (fX8_82 hC rfl) dX8_goes_4 (by repeat (first | with_reducible assumption | (rw [rl_u_s]; done) | (rw [rl_u_s]; rfl) | rw [rl_u_n (by first | with_reducible assumption | omega)])) (by first | rfl | with_reducible assumption) ?_
      refine o_icmp_ge (tgt := 121) hC dX8_goes_7 (by decide) (fun c_7 => ?_) (fun c_7 => ?_)
      · exact absurd c_7 (nI_ge (by omega) (by omega))
      · refine o_aload_n hC dX8_goes_10 (by rfl) ?_
        refine o_getf hC (fX8_63 hC rfl) dX8_goes_11 (by repeat (first | with_reducible assumption | (rw [rl_u_s]; done) | (rw [rl_u_s]; rfl) | rw [rl_u_n (by first | with_reducible assumption | omega)])) (by first | rfl | with_reducible assumption) ?_
        refine o_iload_n hC dX8_goes_14 (by rfl) ?_
        refine o_laldN (t0 := 1) hC rfl dX8_goes_15 (by repeat (first | with_reducible assumption | (rw [rl_u_s]; done) | (rw [rl_u_s]; rfl) | rw [rl_u_n (by first | with_reducible assumption | omega)])) (by omega) (by decide) ?_
        refine o_aload_n hC dX8_goes_16 (by rfl) ?_
        refine o_getf hC (fX8_63 hC rfl) dX8_goes_17 (by repeat (first | with_reducible assumption | (rw [rl_u_s]; done) | (rw [rl_u_s]; rfl) | rw [rl_u_n (by first | with_reducible assumption | omega)])) (by first | rfl | with_reducible assumption) ?_
        refine o_iload_n hC dX8_goes_20 (by rfl) ?_
        refine o_laldN (t0 := 1) hC rfl dX8_goes_21 (by repeat (first | with_reducible assumption | (rw [rl_u_s]; done) | (rw [rl_u_s]; rfl) | rw [rl_u_n (by first | with_reducible assumption | omega)])) (by omega) (by decide) ?_
        refine o_ldc2 hC nX8_85 dX8_goes_22 ?_
        refine o_lxor hC dX8_goes_25 ?_
        refine o_land hC dX8_goes_26 ?_
        refine o_lconst (v := 0) hC dX8_goes_27 (by decide +kernel) ?_
        refine o_lcmp hC dX8_goes_28 ?_
        refine o_if_ne (tgt := 58) hC dX8_goes_29 (by decide) (fun c_29 => ?_) (fun c_29 => ?_)
        · refine (show ¬ (gs_c hn hl i j) → rl_G _ _ _ _ _ _ _ _ _ from fun nwi => ?_) (by first | exact fun q => c_29 q.1.1 | exact fun q => c_51 q.1.2)
          refine o_iconst (v := nI 0) hC dX8_goes_58 (by decide +kernel) ?_
          refine o_istore_n hC dX8_goes_59 (Nat.le_of_ble_eq_true rfl) ?_
          refine o_aload_n hC dX8_goes_60 (by rfl) ?_
          refine o_getf hC (fX8_63 hC rfl) dX8_goes_61 (by repeat (first | with_reducible assumption | (rw [rl_u_s]; done) | (rw [rl_u_s]; rfl) | rw [rl_u_n (by first | with_reducible assumption | omega)])) (by first | rfl | with_reducible assumption) ?_
          refine o_iload_n hC dX8_goes_64 (by rfl) ?_
          refine o_laldN (t0 := 1) hC rfl dX8_goes_65 (by repeat (first | with_reducible assumption | (rw [rl_u_s]; done) | (rw [rl_u_s]; rfl) | rw [rl_u_n (by first | with_reducible assumption | omega)])) (by omega) (by decide) ?_
          refine o_aload_n hC dX8_goes_66 (by rfl) ?_
          refine o_getf hC (fX8_63 hC rfl) dX8_goes_67 (by repeat (first | with_reducible assumption | (rw [rl_u_s]; done) | (rw [rl_u_s]; rfl) | rw [rl_u_n (by first | with_reducible assumption | omega)])) (by first | rfl | with_reducible assumption) ?_
          refine o_iload_n hC dX8_goes_70 (by rfl) ?_
          refine o_laldN (t0 := 1) hC rfl dX8_goes_71 (by repeat (first | with_reducible assumption | (rw [rl_u_s]; done) | (rw [rl_u_s]; rfl) | rw [rl_u_n (by first | with_reducible assumption | omega)])) (by omega) (by decide) ?_
          refine o_lcmp hC dX8_goes_72 ?_
          refine o_if_ne (tgt := 96) hC dX8_goes_73 (by decide) (fun c_73 => ?_) (fun c_73 => ?_)
          · refine o_iconst (v := nI 0) hC dX8_goes_96 (by decide +kernel) ?_
            refine o_istore hC dX8_goes_97 (Nat.le_of_ble_eq_true rfl) ?_
            refine o_iload_n hC dX8_goes_99 (by rfl) ?_
            refine o_if_eq (tgt := 115) hC dX8_goes_100 (by decide) (fun _ => ?_) (fun q => absurd rfl q)
            refine o_iinc hC dX8_goes_115 (by rfl) (rl_inc _) (Nat.le_of_ble_eq_true rfl) ?_
            refine o_goto (tgt := 2) hC dX8_goes_118 (by decide) ?_
            exact ih (i + 1) _ _ (by omega) (hs.trans (by rw [gs, if_neg nwi]))
          · refine o_aload_n hC dX8_goes_76 (by rfl) ?_
            refine o_getf hC (fX8_66 hC rfl) dX8_goes_77 (by repeat (first | with_reducible assumption | (rw [rl_u_s]; done) | (rw [rl_u_s]; rfl) | rw [rl_u_n (by first | with_reducible assumption | omega)])) (by first | rfl | with_reducible assumption) ?_
            refine o_iload_n hC dX8_goes_80 (by rfl) ?_
            refine o_laldN (t0 := 1) hC rfl dX8_goes_81 (by repeat (first | with_reducible assumption | (rw [rl_u_s]; done) | (rw [rl_u_s]; rfl) | rw [rl_u_n (by first | with_reducible assumption | omega)])) (by omega) (by decide) ?_
            refine o_aload_n hC dX8_goes_82 (by rfl) ?_
            refine o_getf hC (fX8_66 hC rfl) dX8_goes_83 (by repeat (first | with_reducible assumption | (rw [rl_u_s]; done) | (rw [rl_u_s]; rfl) | rw [rl_u_n (by first | with_reducible assumption | omega)])) (by first | rfl | with_reducible assumption) ?_
            refine o_iload_n hC dX8_goes_86 (by rfl) ?_
            refine o_laldN (t0 := 1) hC rfl dX8_goes_87 (by repeat (first | with_reducible assumption | (rw [rl_u_s]; done) | (rw [rl_u_s]; rfl) | rw [rl_u_n (by first | with_reducible assumption | omega)])) (by omega) (by decide) ?_
            refine o_lcmp hC dX8_goes_88 ?_
            refine o_if_ne (tgt := 96) hC dX8_goes_89 (by decide) (fun c_89 => ?_) (fun c_89 => ?_)
            · refine o_iconst (v := nI 0) hC dX8_goes_96 (by decide +kernel) ?_
              refine o_istore hC dX8_goes_97 (Nat.le_of_ble_eq_true rfl) ?_
              refine o_iload_n hC dX8_goes_99 (by rfl) ?_
              refine o_if_eq (tgt := 115) hC dX8_goes_100 (by decide) (fun _ => ?_) (fun q => absurd rfl q)
              refine o_iinc hC dX8_goes_115 (by rfl) (rl_inc _) (Nat.le_of_ble_eq_true rfl) ?_
              refine o_goto (tgt := 2) hC dX8_goes_118 (by decide) ?_
              exact ih (i + 1) _ _ (by omega) (hs.trans (by rw [gs, if_neg nwi]))
            · refine o_iconst (v := nI 1) hC dX8_goes_92 (by decide +kernel) ?_
              refine o_goto (tgt := 97) hC dX8_goes_93 (by decide) ?_
              refine o_istore hC dX8_goes_97 (Nat.le_of_ble_eq_true rfl) ?_
              refine o_iload_n hC dX8_goes_99 (by rfl) ?_
              refine o_if_eq (tgt := 115) hC dX8_goes_100 (by decide) (fun _ => ?_) (fun q => absurd rfl q)
              refine o_iinc hC dX8_goes_115 (by rfl) (rl_inc _) (Nat.le_of_ble_eq_true rfl) ?_
              refine o_goto (tgt := 2) hC dX8_goes_118 (by decide) ?_
              exact ih (i + 1) _ _ (by omega) (hs.trans (by rw [gs, if_neg nwi]))
        · refine o_aload_n hC dX8_goes_32 (by rfl) ?_
          refine o_getf hC (fX8_66 hC rfl) dX8_goes_33 (by repeat (first | with_reducible assumption | (rw [rl_u_s]; done) | (rw [rl_u_s]; rfl) | rw [rl_u_n (by first | with_reducible assumption | omega)])) (by first | rfl | with_reducible assumption) ?_
          refine o_iload_n hC dX8_goes_36 (by rfl) ?_
          refine o_laldN (t0 := 1) hC rfl dX8_goes_37 (by repeat (first | with_reducible assumption | (rw [rl_u_s]; done) | (rw [rl_u_s]; rfl) | rw [rl_u_n (by first | with_reducible assumption | omega)])) (by omega) (by decide) ?_
          refine o_aload_n hC dX8_goes_38 (by rfl) ?_
          refine o_getf hC (fX8_66 hC rfl) dX8_goes_39 (by repeat (first | with_reducible assumption | (rw [rl_u_s]; done) | (rw [rl_u_s]; rfl) | rw [rl_u_n (by first | with_reducible assumption | omega)])) (by first | rfl | with_reducible assumption) ?_
          refine o_iload_n hC dX8_goes_42 (by rfl) ?_
          refine o_laldN (t0 := 1) hC rfl dX8_goes_43 (by repeat (first | with_reducible assumption | (rw [rl_u_s]; done) | (rw [rl_u_s]; rfl) | rw [rl_u_n (by first | with_reducible assumption | omega)])) (by omega) (by decide) ?_
          refine o_ldc2 hC nX8_85 dX8_goes_44 ?_
          refine o_lxor hC dX8_goes_47 ?_
          refine o_land hC dX8_goes_48 ?_
          refine o_lconst (v := 0) hC dX8_goes_49 (by decide +kernel) ?_
          refine o_lcmp hC dX8_goes_50 ?_
          refine o_if_ne (tgt := 58) hC dX8_goes_51 (by decide) (fun c_51 => ?_) (fun c_51 => ?_)
          · refine (show ¬ (gs_c hn hl i j) → rl_G _ _ _ _ _ _ _ _ _ from fun nwi => ?_) (by first | exact fun q => c_29 q.1.1 | exact fun q => c_51 q.1.2)
            refine o_iconst (v := nI 0) hC dX8_goes_58 (by decide +kernel) ?_
            refine o_istore_n hC dX8_goes_59 (Nat.le_of_ble_eq_true rfl) ?_
            refine o_aload_n hC dX8_goes_60 (by rfl) ?_
            refine o_getf hC (fX8_63 hC rfl) dX8_goes_61 (by repeat (first | with_reducible assumption | (rw [rl_u_s]; done) | (rw [rl_u_s]; rfl) | rw [rl_u_n (by first | with_reducible assumption | omega)])) (by first | rfl | with_reducible assumption) ?_
            refine o_iload_n hC dX8_goes_64 (by rfl) ?_
            refine o_laldN (t0 := 1) hC rfl dX8_goes_65 (by repeat (first | with_reducible assumption | (rw [rl_u_s]; done) | (rw [rl_u_s]; rfl) | rw [rl_u_n (by first | with_reducible assumption | omega)])) (by omega) (by decide) ?_
            refine o_aload_n hC dX8_goes_66 (by rfl) ?_
            refine o_getf hC (fX8_63 hC rfl) dX8_goes_67 (by repeat (first | with_reducible assumption | (rw [rl_u_s]; done) | (rw [rl_u_s]; rfl) | rw [rl_u_n (by first | with_reducible assumption | omega)])) (by first | rfl | with_reducible assumption) ?_
            refine o_iload_n hC dX8_goes_70 (by rfl) ?_
            refine o_laldN (t0 := 1) hC rfl dX8_goes_71 (by repeat (first | with_reducible assumption | (rw [rl_u_s]; done) | (rw [rl_u_s]; rfl) | rw [rl_u_n (by first | with_reducible assumption | omega)])) (by omega) (by decide) ?_
            refine o_lcmp hC dX8_goes_72 ?_
            refine o_if_ne (tgt := 96) hC dX8_goes_73 (by decide) (fun c_73 => ?_) (fun c_73 => ?_)
            · refine o_iconst (v := nI 0) hC dX8_goes_96 (by decide +kernel) ?_
              refine o_istore hC dX8_goes_97 (Nat.le_of_ble_eq_true rfl) ?_
              refine o_iload_n hC dX8_goes_99 (by rfl) ?_
              refine o_if_eq (tgt := 115) hC dX8_goes_100 (by decide) (fun _ => ?_) (fun q => absurd rfl q)
              refine o_iinc hC dX8_goes_115 (by rfl) (rl_inc _) (Nat.le_of_ble_eq_true rfl) ?_
              refine o_goto (tgt := 2) hC dX8_goes_118 (by decide) ?_
              exact ih (i + 1) _ _ (by omega) (hs.trans (by rw [gs, if_neg nwi]))
            · refine o_aload_n hC dX8_goes_76 (by rfl) ?_
              refine o_getf hC (fX8_66 hC rfl) dX8_goes_77 (by repeat (first | with_reducible assumption | (rw [rl_u_s]; done) | (rw [rl_u_s]; rfl) | rw [rl_u_n (by first | with_reducible assumption | omega)])) (by first | rfl | with_reducible assumption) ?_
              refine o_iload_n hC dX8_goes_80 (by rfl) ?_
              refine o_laldN (t0 := 1) hC rfl dX8_goes_81 (by repeat (first | with_reducible assumption | (rw [rl_u_s]; done) | (rw [rl_u_s]; rfl) | rw [rl_u_n (by first | with_reducible assumption | omega)])) (by omega) (by decide) ?_
              refine o_aload_n hC dX8_goes_82 (by rfl) ?_
              refine o_getf hC (fX8_66 hC rfl) dX8_goes_83 (by repeat (first | with_reducible assumption | (rw [rl_u_s]; done) | (rw [rl_u_s]; rfl) | rw [rl_u_n (by first | with_reducible assumption | omega)])) (by first | rfl | with_reducible assumption) ?_
              refine o_iload_n hC dX8_goes_86 (by rfl) ?_
              refine o_laldN (t0 := 1) hC rfl dX8_goes_87 (by repeat (first | with_reducible assumption | (rw [rl_u_s]; done) | (rw [rl_u_s]; rfl) | rw [rl_u_n (by first | with_reducible assumption | omega)])) (by omega) (by decide) ?_
              refine o_lcmp hC dX8_goes_88 ?_
              refine o_if_ne (tgt := 96) hC dX8_goes_89 (by decide) (fun c_89 => ?_) (fun c_89 => ?_)
              · refine o_iconst (v := nI 0) hC dX8_goes_96 (by decide +kernel) ?_
                refine o_istore hC dX8_goes_97 (Nat.le_of_ble_eq_true rfl) ?_
                refine o_iload_n hC dX8_goes_99 (by rfl) ?_
                refine o_if_eq (tgt := 115) hC dX8_goes_100 (by decide) (fun _ => ?_) (fun q => absurd rfl q)
                refine o_iinc hC dX8_goes_115 (by rfl) (rl_inc _) (Nat.le_of_ble_eq_true rfl) ?_
                refine o_goto (tgt := 2) hC dX8_goes_118 (by decide) ?_
                exact ih (i + 1) _ _ (by omega) (hs.trans (by rw [gs, if_neg nwi]))
              · refine o_iconst (v := nI 1) hC dX8_goes_92 (by decide +kernel) ?_
                refine o_goto (tgt := 97) hC dX8_goes_93 (by decide) ?_
                refine o_istore hC dX8_goes_97 (Nat.le_of_ble_eq_true rfl) ?_
                refine o_iload_n hC dX8_goes_99 (by rfl) ?_
                refine o_if_eq (tgt := 115) hC dX8_goes_100 (by decide) (fun _ => ?_) (fun q => absurd rfl q)
                refine o_iinc hC dX8_goes_115 (by rfl) (rl_inc _) (Nat.le_of_ble_eq_true rfl) ?_
                refine o_goto (tgt := 2) hC dX8_goes_118 (by decide) ?_
                exact ih (i + 1) _ _ (by omega) (hs.trans (by rw [gs, if_neg nwi]))
          · refine o_iconst (v := nI 1) hC dX8_goes_54 (by decide +kernel) ?_
            refine o_goto (tgt := 59) hC dX8_goes_55 (by decide) ?_
            refine o_istore_n hC dX8_goes_59 (Nat.le_of_ble_eq_true rfl) ?_
            refine o_aload_n hC dX8_goes_60 (by rfl) ?_
            refine o_getf hC (fX8_63 hC rfl) dX8_goes_61 (by repeat (first | with_reducible assumption | (rw [rl_u_s]; done) | (rw [rl_u_s]; rfl) | rw [rl_u_n (by first | with_reducible assumption | omega)])) (by first | rfl | with_reducible assumption) ?_
            refine o_iload_n hC dX8_goes_64 (by rfl) ?_
            refine o_laldN (t0 := 1) hC rfl dX8_goes_65 (by repeat (first | with_reducible assumption | (rw [rl_u_s]; done) | (rw [rl_u_s]; rfl) | rw [rl_u_n (by first | with_reducible assumption | omega)])) (by omega) (by decide) ?_
            refine o_aload_n hC dX8_goes_66 (by rfl) ?_
            refine o_getf hC (fX8_63 hC rfl) dX8_goes_67 (by repeat (first | with_reducible assumption | (rw [rl_u_s]; done) | (rw [rl_u_s]; rfl) | rw [rl_u_n (by first | with_reducible assumption | omega)])) (by first | rfl | with_reducible assumption) ?_
            refine o_iload_n hC dX8_goes_70 (by rfl) ?_
            refine o_laldN (t0 := 1) hC rfl dX8_goes_71 (by repeat (first | with_reducible assumption | (rw [rl_u_s]; done) | (rw [rl_u_s]; rfl) | rw [rl_u_n (by first | with_reducible assumption | omega)])) (by omega) (by decide) ?_
            refine o_lcmp hC dX8_goes_72 ?_
            refine o_if_ne (tgt := 96) hC dX8_goes_73 (by decide) (fun c_73 => ?_) (fun c_73 => ?_)
            · refine (show ¬ (lg_cmp (hn i) (hn j) = 0 ∧ lg_cmp (hl i) (hl j) = 0) → rl_G _ _ _ _ _ _ _ _ _ from fun nsm => ?_) (by first | exact fun q => c_73 q.1 | exact fun q => c_89 q.2)
              refine o_iconst (v := nI 0) hC dX8_goes_96 (by decide +kernel) ?_
              refine o_istore hC dX8_goes_97 (Nat.le_of_ble_eq_true rfl) ?_
              refine o_iload_n hC dX8_goes_99 (by rfl) ?_
              refine o_if_eq (tgt := 115) hC dX8_goes_100 (by decide) (fun q => absurd q (by decide +kernel)) (fun _ => ?_)
              refine o_iload hC dX8_goes_103 (by rfl) ?_
              refine o_if_eq (tgt := 113) hC dX8_goes_105 (by decide) (fun _ => ?_) (fun q => absurd rfl q)
              refine o_iconst (v := nI 1) hC dX8_goes_113 (by decide +kernel) ?_
              refine o_zret hC hB dX8_goes_114 (by decide +kernel) (Nat.le_of_ble_eq_true rfl) (Nat.le_of_ble_eq_true rfl) ?_
              exact ⟨by rw [hs, gs, if_pos ⟨⟨c_29, c_51⟩, Or.inl nsm⟩], rfl, rfl⟩
            · refine o_aload_n hC dX8_goes_76 (by rfl) ?_
              refine o_getf hC (fX8_66 hC rfl) dX8_goes_77 (by repeat (first | with_reducible assumption | (rw [rl_u_s]; done) | (rw [rl_u_s]; rfl) | rw [rl_u_n (by first | with_reducible assumption | omega)])) (by first | rfl | with_reducible assumption) ?_
              refine o_iload_n hC dX8_goes_80 (by rfl) ?_
              refine o_laldN (t0 := 1) hC rfl dX8_goes_81 (by repeat (first | with_reducible assumption | (rw [rl_u_s]; done) | (rw [rl_u_s]; rfl) | rw [rl_u_n (by first | with_reducible assumption | omega)])) (by omega) (by decide) ?_
              refine o_aload_n hC dX8_goes_82 (by rfl) ?_
              refine o_getf hC (fX8_66 hC rfl) dX8_goes_83 (by repeat (first | with_reducible assumption | (rw [rl_u_s]; done) | (rw [rl_u_s]; rfl) | rw [rl_u_n (by first | with_reducible assumption | omega)])) (by first | rfl | with_reducible assumption) ?_
              refine o_iload_n hC dX8_goes_86 (by rfl) ?_
              refine o_laldN (t0 := 1) hC rfl dX8_goes_87 (by repeat (first | with_reducible assumption | (rw [rl_u_s]; done) | (rw [rl_u_s]; rfl) | rw [rl_u_n (by first | with_reducible assumption | omega)])) (by omega) (by decide) ?_
              refine o_lcmp hC dX8_goes_88 ?_
              refine o_if_ne (tgt := 96) hC dX8_goes_89 (by decide) (fun c_89 => ?_) (fun c_89 => ?_)
              · refine (show ¬ (lg_cmp (hn i) (hn j) = 0 ∧ lg_cmp (hl i) (hl j) = 0) → rl_G _ _ _ _ _ _ _ _ _ from fun nsm => ?_) (by first | exact fun q => c_73 q.1 | exact fun q => c_89 q.2)
                refine o_iconst (v := nI 0) hC dX8_goes_96 (by decide +kernel) ?_
                refine o_istore hC dX8_goes_97 (Nat.le_of_ble_eq_true rfl) ?_
                refine o_iload_n hC dX8_goes_99 (by rfl) ?_
                refine o_if_eq (tgt := 115) hC dX8_goes_100 (by decide) (fun q => absurd q (by decide +kernel)) (fun _ => ?_)
                refine o_iload hC dX8_goes_103 (by rfl) ?_
                refine o_if_eq (tgt := 113) hC dX8_goes_105 (by decide) (fun _ => ?_) (fun q => absurd rfl q)
                refine o_iconst (v := nI 1) hC dX8_goes_113 (by decide +kernel) ?_
                refine o_zret hC hB dX8_goes_114 (by decide +kernel) (Nat.le_of_ble_eq_true rfl) (Nat.le_of_ble_eq_true rfl) ?_
                exact ⟨by rw [hs, gs, if_pos ⟨⟨c_29, c_51⟩, Or.inl nsm⟩], rfl, rfl⟩
              · refine o_iconst (v := nI 1) hC dX8_goes_92 (by decide +kernel) ?_
                refine o_goto (tgt := 97) hC dX8_goes_93 (by decide) ?_
                refine o_istore hC dX8_goes_97 (Nat.le_of_ble_eq_true rfl) ?_
                refine o_iload_n hC dX8_goes_99 (by rfl) ?_
                refine o_if_eq (tgt := 115) hC dX8_goes_100 (by decide) (fun q => absurd q (by decide +kernel)) (fun _ => ?_)
                refine o_iload hC dX8_goes_103 (by rfl) ?_
                refine o_if_eq (tgt := 113) hC dX8_goes_105 (by decide) (fun q => absurd q (by decide +kernel)) (fun _ => ?_)
                refine o_iload_n hC dX8_goes_108 (by rfl) ?_
                refine o_iload_n hC dX8_goes_109 (by rfl) ?_
                refine o_icmp_ge (tgt := 115) hC dX8_goes_110 (by decide) (fun c_110 => ?_) (fun c_110 => ?_)
                · refine o_iinc hC dX8_goes_115 (by rfl) (rl_inc _) (Nat.le_of_ble_eq_true rfl) ?_
                  refine o_goto (tgt := 2) hC dX8_goes_118 (by decide) ?_
                  exact ih (i + 1) _ _ (by omega) (hs.trans (by rw [gs, if_neg (fun q => q.2.elim (fun w => w ⟨c_73, c_89⟩) (fun w => absurd c_110 (Int32.not_le.mpr w)))]))
                · refine o_iconst (v := nI 1) hC dX8_goes_113 (by decide +kernel) ?_
                  refine o_zret hC hB dX8_goes_114 (by decide +kernel) (Nat.le_of_ble_eq_true rfl) (Nat.le_of_ble_eq_true rfl) ?_
                  exact ⟨by rw [hs, gs, if_pos ⟨⟨c_29, c_51⟩, Or.inr (Int32.not_le.mp c_110)⟩], rfl, rfl⟩
  show rl_G X (rl_e D ids H0) 0 [some (.ref m), some (.int (nI j)), none, none, none] [] h n 0 0
  refine o_iconst (v := nI 0) hC dX8_goes_0 (by decide +kernel) ?_
  refine o_istore_n hC dX8_goes_1 (Nat.le_of_ble_eq_true rfl) ?_
  exact loop k 0 _ _ (by omega) rfl

set_option maxHeartbeats 4000000 in
set_option maxRecDepth 100000 in
theorem cm_X8_settle (l : Launch) (D : va_G) (ids : Nat → ClassId) (H0 : Heap) (h : rl_H) (n : Nat) (m : Nat) (T : md_T) (fu : Int32) (k : Nat) (a : Nat) (hq : mq ids h h m T fu k) (ha : a < 1368) : rl_Met l (rl_e D ids H0) rl_BW rl_Ns yX8_settle cX8_settle 6 none ({ frames := 1, cells := 0, slots := 0, locals := 24 }) [.ref m, .int (nI a)] h n (fun v h' n' => v = none ∧ n' = n ∧ ∃ fu' : Int32, mq ids h h' m T fu' k) := by
  obtain ⟨g0, gk, ⟨⟨cl, g12⟩, ⟨tu, g13, b13⟩, ⟨im, g14⟩, ⟨te, g15, b15⟩, ⟨ne, g16⟩, ⟨la, g17⟩, ⟨hn, g18⟩, ⟨hl, g19⟩, ⟨tp, g20⟩, ⟨gr, g21, b21⟩, ⟨it, g22⟩⟩, gf⟩ := id hq
  refine rl_Met.of (by decide +kernel) (Nat.le_of_ble_eq_true rfl) ?_
  intro X hC hB
  have loop2 : md_cnt (fun w => gs hn hl w k 0) k ≤ 12 → ∀ (mm i : Nat) (h1 : rl_H) (o2 o5 : Option Value), i + mm = k → mq ids h h1 m T fu k → h1 (m + 18) = some (.inl (ids 1, 160, .inr (.inl hn))) → h1 (m + 19) = some (.inl (ids 1, 160, .inr (.inl hl))) → rl_G X (rl_e D ids H0) 53 [some (.ref m), some (.int (nI a)), o2, some (.int (nI (md_cnt (fun w => gs hn hl w k 0) i))), some (.int (nI i)), o5] [] h1 n 0 0 := by
    intro c12 mm
    induction mm with
    | zero =>
      intro i h1 o2 o5 hm hq1 e18 e19
      have ei : i = k := by omega
      subst ei
      obtain ⟨g0, gk, ⟨⟨cl, g12⟩, ⟨tu, g13, b13⟩, ⟨im, g14⟩, ⟨te, g15, b15⟩, ⟨ne, g16⟩, ⟨la, g17⟩, ⟨hn, g18⟩, ⟨hl, g19⟩, ⟨tp, g20⟩, ⟨gr, g21, b21⟩, ⟨it, g22⟩⟩, gf⟩ := id hq1
      refine o_iload hC dX8_settle_53 (by rfl) ?_
      refine o_aload_n hC dX8_settle_55 (by rfl) ?_
      refine o_getf hC (fX8_82 hC rfl) dX8_settle_56 (by repeat (first | with_reducible assumption | (rw [rl_u_s]; done) | (rw [rl_u_s]; rfl) | rw [rl_u_n (by first | with_reducible assumption | omega)])) (by first | rfl | with_reducible assumption) ?_
      refine o_icmp_ge (tgt := 259) hC dX8_settle_59 (by decide) (fun c_59 => ?_) (fun c_59 => ?_)
      · refine o_aload_n hC dX8_settle_259 (by rfl) ?_
        refine o_getf hC (fX8_53 hC rfl) dX8_settle_260 (by repeat (first | with_reducible assumption | (rw [rl_u_s]; done) | (rw [rl_u_s]; rfl) | rw [rl_u_n (by first | with_reducible assumption | omega)])) (by first | rfl | with_reducible assumption) ?_
        refine o_iload_n hC dX8_settle_263 (by rfl) ?_
        refine o_iload_n hC dX8_settle_264 (by rfl) ?_
        refine o_iastN (t0 := 0) hC rfl dX8_settle_265 (by repeat (first | with_reducible assumption | (rw [rl_u_s]; done) | (rw [rl_u_s]; rfl) | rw [rl_u_n (by first | with_reducible assumption | omega)])) (by omega) (by decide) ?_
        refine o_vret hC hB dX8_settle_266 (Nat.le_of_ble_eq_true rfl) (Nat.le_of_ble_eq_true rfl) ?_
        exact ⟨rfl, rfl, fu, hq1.s15 _ (md_bd b15 ⟨_, c12, rfl⟩)⟩
      · exact absurd (nI_le (by omega) (by omega)) c_59
    | succ mm ih =>
      intro i h1 o2 o5 hm hq1 e18 e19
      obtain ⟨g0, gk, -, gf⟩ := id hq1
      refine o_iload hC dX8_settle_53 (by rfl) ?_
      refine o_aload_n hC dX8_settle_55 (by rfl) ?_
      refine o_getf hC (fX8_82 hC rfl) dX8_settle_56 (by repeat (first | with_reducible assumption | (rw [rl_u_s]; done) | (rw [rl_u_s]; rfl) | rw [rl_u_n (by first | with_reducible assumption | omega)])) (by first | rfl | with_reducible assumption) ?_
      refine o_icmp_ge (tgt := 259) hC dX8_settle_59 (by decide) (fun c_59 => ?_) (fun c_59 => ?_)
      · exact absurd c_59 (nI_ge (by omega) (by omega))
      · refine o_aload_n hC dX8_settle_62 (by rfl) ?_
        refine o_iload hC dX8_settle_63 (by rfl) ?_
        refine o_callV1 hC rl_BW_good rl_Ns_nw (by exact hB.2.2.2.2.2) YX8_goes IX8_goes VX8_goes (mX8_87 hC) (by rw [hB.1]; exact cm_X8_goes l D ids H0 _ _ m T _ _ i hn hl hq1.rf e18 e19 (by omega)) (by exact hq1.rf.1) rfl rfl (Nat.le_of_ble_eq_true rfl) (by rw [hB.2.1]; first | exact Nat.le_of_ble_eq_true rfl | (dsimp only; omega)) (by rw [hB.2.1]; first | exact Nat.le_of_ble_eq_true rfl | (dsimp only; omega)) (by rw [hB.2.1]; first | exact Nat.le_of_ble_eq_true rfl | (dsimp only; omega)) (by rw [hB.2.1]; first | exact Nat.le_of_ble_eq_true rfl | (dsimp only; omega)) dX8_settle_65 (fun v h_65 n_65 p_65 => ?_)
        obtain ⟨rfl, rfl, rfl⟩ := p_65
        try dsimp only [Option.toList, List.cons_append, List.nil_append]
        refine o_if_ne (tgt := 253) hC dX8_settle_68 (by decide) (fun c_68 => ?_) (fun c_68 => ?_)
        · refine o_iinc hC dX8_settle_253 (by rfl) (rl_inc _) (Nat.le_of_ble_eq_true rfl) ?_
          refine o_goto (tgt := 53) hC dX8_settle_256 (by decide) ?_
          have lp := ih (i + 1) _ o2 o5 (by omega) hq1 e18 e19
          rw [md_cnt_n (G := (fun w => gs hn hl w k 0)) c_68] at lp
          exact lp
        · have ub := md_cnt_le (fun w => gs hn hl w k 0) (i + 1) mm
          rw [show i + 1 + mm = k by omega, md_cnt_s (G := (fun w => gs hn hl w k 0)) c_68] at ub
          have loop3 : ∀ (p : Nat) (h2 : rl_H), p ≤ md_cnt (fun w => gs hn hl w k 0) i → mq ids h h2 m T fu k → h2 (m + 18) = some (.inl (ids 1, 160, .inr (.inl hn))) → h2 (m + 19) = some (.inl (ids 1, 160, .inr (.inl hl))) → rl_G X (rl_e D ids H0) 74 [some (.ref m), some (.int (nI a)), o2, some (.int (nI (md_cnt (fun w => gs hn hl w k 0) i))), some (.int (nI i)), some (.int (nI p))] [] h2 n_65 0 0 := by
            intro p
            induction p with
            | zero =>
              intro h2 hp hq2 f18 f19
              obtain ⟨g0, gk, ⟨⟨cl, g12⟩, ⟨tu, g13, b13⟩, ⟨im, g14⟩, ⟨te, g15, b15⟩, ⟨ne, g16⟩, ⟨la, g17⟩, -, -, ⟨tp, g20⟩, ⟨gr, g21, b21⟩, ⟨it, g22⟩⟩, gf⟩ := id hq2
              refine o_iload hC dX8_settle_74 (by rfl) ?_
              refine o_if_le (tgt := 212) hC dX8_settle_76 (by decide) (fun c_76 => ?_) (fun c_76 => ?_)
              · refine o_aload_n hC dX8_settle_212 (by rfl) ?_
                refine o_getf hC (fX8_56 hC rfl) dX8_settle_213 (by repeat (first | with_reducible assumption | (rw [rl_u_s]; done) | (rw [rl_u_s]; rfl) | rw [rl_u_n (by first | with_reducible assumption | omega)])) (by first | rfl | with_reducible assumption) ?_
                refine o_bipush (v := nI 12) hC dX8_settle_216 (by decide +kernel) ?_
                refine o_iload_n hC dX8_settle_218 (by rfl) ?_
                refine o_imul hC dX8_settle_219 ?_
                try rw [nI_mul]
                refine o_iload hC dX8_settle_220 (by rfl) ?_
                refine o_iadd hC dX8_settle_222 ?_
                try rw [nI_add]
                refine o_aload_n hC dX8_settle_223 (by rfl) ?_
                refine o_getf hC (fX8_63 hC rfl) dX8_settle_224 (by repeat (first | with_reducible assumption | (rw [rl_u_s]; done) | (rw [rl_u_s]; rfl) | rw [rl_u_n (by first | with_reducible assumption | omega)])) (by first | rfl | with_reducible assumption) ?_
                refine o_iload hC dX8_settle_227 (by rfl) ?_
                refine o_laldN (t0 := 1) hC rfl dX8_settle_229 (by repeat (first | with_reducible assumption | (rw [rl_u_s]; done) | (rw [rl_u_s]; rfl) | rw [rl_u_n (by first | with_reducible assumption | omega)])) (by omega) (by decide) ?_
                refine o_lastN (t0 := 1) hC rfl dX8_settle_230 (by repeat (first | with_reducible assumption | (rw [rl_u_s]; done) | (rw [rl_u_s]; rfl) | rw [rl_u_n (by first | with_reducible assumption | omega)])) (by omega) (by decide) ?_
                refine o_aload_n hC dX8_settle_231 (by rfl) ?_
                refine o_getf hC (fX8_60 hC rfl) dX8_settle_232 (by repeat (first | with_reducible assumption | (rw [rl_u_s]; done) | (rw [rl_u_s]; rfl) | rw [rl_u_n (by first | with_reducible assumption | omega)])) (by first | rfl | with_reducible assumption) ?_
                refine o_bipush (v := nI 12) hC dX8_settle_235 (by decide +kernel) ?_
                refine o_iload_n hC dX8_settle_237 (by rfl) ?_
                refine o_imul hC dX8_settle_238 ?_
                try rw [nI_mul]
                refine o_iload hC dX8_settle_239 (by rfl) ?_
                refine o_iadd hC dX8_settle_241 ?_
                try rw [nI_add]
                refine o_aload_n hC dX8_settle_242 (by rfl) ?_
                refine o_getf hC (fX8_66 hC rfl) dX8_settle_243 (by repeat (first | with_reducible assumption | (rw [rl_u_s]; done) | (rw [rl_u_s]; rfl) | rw [rl_u_n (by first | with_reducible assumption | omega)])) (by first | rfl | with_reducible assumption) ?_
                refine o_iload hC dX8_settle_246 (by rfl) ?_
                refine o_laldN (t0 := 1) hC rfl dX8_settle_248 (by repeat (first | with_reducible assumption | (rw [rl_u_s]; done) | (rw [rl_u_s]; rfl) | rw [rl_u_n (by first | with_reducible assumption | omega)])) (by omega) (by decide) ?_
                refine o_lastN (t0 := 1) hC rfl dX8_settle_249 (by repeat (first | with_reducible assumption | (rw [rl_u_s]; done) | (rw [rl_u_s]; rfl) | rw [rl_u_n (by first | with_reducible assumption | omega)])) (by omega) (by decide) ?_
                refine o_iinc hC dX8_settle_250 (by rfl) (rl_inc _) (Nat.le_of_ble_eq_true rfl) ?_
                refine o_iinc hC dX8_settle_253 (by rfl) (rl_inc _) (Nat.le_of_ble_eq_true rfl) ?_
                refine o_goto (tgt := 53) hC dX8_settle_256 (by decide) ?_
                rw [← md_cnt_s (G := (fun w => gs hn hl w k 0)) c_68]
                exact ih (i + 1) _ _ _ (by omega) ((hq2.s16 _).s17 _) (by repeat (first | with_reducible assumption | (rw [rl_u_s]; done) | (rw [rl_u_s]; rfl) | rw [rl_u_n (by first | with_reducible assumption | omega)])) (by repeat (first | with_reducible assumption | (rw [rl_u_s]; done) | (rw [rl_u_s]; rfl) | rw [rl_u_n (by first | with_reducible assumption | omega)]))
              · exact absurd (by decide +kernel) c_76
            | succ p ihp =>
              intro h2 hp hq2 f18 f19
              obtain ⟨g0, gk, ⟨⟨cl, g12⟩, ⟨tu, g13, b13⟩, ⟨im, g14⟩, ⟨te, g15, b15⟩, ⟨ne, g16⟩, ⟨la, g17⟩, -, -, ⟨tp, g20⟩, ⟨gr, g21, b21⟩, ⟨it, g22⟩⟩, gf⟩ := id hq2
              refine o_iload hC dX8_settle_74 (by rfl) ?_
              refine o_if_le (tgt := 212) hC dX8_settle_76 (by decide) (fun c_76 => ?_) (fun c_76 => ?_)
              · first
                | exact absurd c_76 (nI_nle (Nat.succ_pos p) (by omega))
                | (have zz : True := trivial
                   refine o_aload_n hC dX8_settle_212 (by rfl) ?_
                   refine o_getf hC (fX8_56 hC rfl) dX8_settle_213 (by repeat (first | with_reducible assumption | (rw [rl_u_s]; done) | (rw [rl_u_s]; rfl) | rw [rl_u_n (by first | with_reducible assumption | omega)])) (by first | rfl | with_reducible assumption) ?_
                   refine o_bipush (v := nI 12) hC dX8_settle_216 (by decide +kernel) ?_
                   refine o_iload_n hC dX8_settle_218 (by rfl) ?_
                   refine o_imul hC dX8_settle_219 ?_
                   try rw [nI_mul]
                   refine o_iload hC dX8_settle_220 (by rfl) ?_
                   refine o_iadd hC dX8_settle_222 ?_
                   try rw [nI_add]
                   refine o_aload_n hC dX8_settle_223 (by rfl) ?_
                   refine o_getf hC (fX8_63 hC rfl) dX8_settle_224 (by repeat (first | with_reducible assumption | (rw [rl_u_s]; done) | (rw [rl_u_s]; rfl) | rw [rl_u_n (by first | with_reducible assumption | omega)])) (by first | rfl | with_reducible assumption) ?_
                   refine o_iload hC dX8_settle_227 (by rfl) ?_
                   refine o_laldN (t0 := 1) hC rfl dX8_settle_229 (by repeat (first | with_reducible assumption | (rw [rl_u_s]; done) | (rw [rl_u_s]; rfl) | rw [rl_u_n (by first | with_reducible assumption | omega)])) (by omega) (by decide) ?_
                   refine o_lastN (t0 := 1) hC rfl dX8_settle_230 (by repeat (first | with_reducible assumption | (rw [rl_u_s]; done) | (rw [rl_u_s]; rfl) | rw [rl_u_n (by first | with_reducible assumption | omega)])) (by omega) (by decide) ?_
                   refine o_aload_n hC dX8_settle_231 (by rfl) ?_
                   refine o_getf hC (fX8_60 hC rfl) dX8_settle_232 (by repeat (first | with_reducible assumption | (rw [rl_u_s]; done) | (rw [rl_u_s]; rfl) | rw [rl_u_n (by first | with_reducible assumption | omega)])) (by first | rfl | with_reducible assumption) ?_
                   refine o_bipush (v := nI 12) hC dX8_settle_235 (by decide +kernel) ?_
                   refine o_iload_n hC dX8_settle_237 (by rfl) ?_
                   refine o_imul hC dX8_settle_238 ?_
                   try rw [nI_mul]
                   refine o_iload hC dX8_settle_239 (by rfl) ?_
                   refine o_iadd hC dX8_settle_241 ?_
                   try rw [nI_add]
                   refine o_aload_n hC dX8_settle_242 (by rfl) ?_
                   refine o_getf hC (fX8_66 hC rfl) dX8_settle_243 (by repeat (first | with_reducible assumption | (rw [rl_u_s]; done) | (rw [rl_u_s]; rfl) | rw [rl_u_n (by first | with_reducible assumption | omega)])) (by first | rfl | with_reducible assumption) ?_
                   refine o_iload hC dX8_settle_246 (by rfl) ?_
                   refine o_laldN (t0 := 1) hC rfl dX8_settle_248 (by repeat (first | with_reducible assumption | (rw [rl_u_s]; done) | (rw [rl_u_s]; rfl) | rw [rl_u_n (by first | with_reducible assumption | omega)])) (by omega) (by decide) ?_
                   refine o_lastN (t0 := 1) hC rfl dX8_settle_249 (by repeat (first | with_reducible assumption | (rw [rl_u_s]; done) | (rw [rl_u_s]; rfl) | rw [rl_u_n (by first | with_reducible assumption | omega)])) (by omega) (by decide) ?_
                   refine o_iinc hC dX8_settle_250 (by rfl) (rl_inc _) (Nat.le_of_ble_eq_true rfl) ?_
                   refine o_iinc hC dX8_settle_253 (by rfl) (rl_inc _) (Nat.le_of_ble_eq_true rfl) ?_
                   refine o_goto (tgt := 53) hC dX8_settle_256 (by decide) ?_
                   rw [← md_cnt_s (G := (fun w => gs hn hl w k 0)) c_68]
                   exact ih (i + 1) _ _ _ (by omega) ((hq2.s16 _).s17 _) (by repeat (first | with_reducible assumption | (rw [rl_u_s]; done) | (rw [rl_u_s]; rfl) | rw [rl_u_n (by first | with_reducible assumption | omega)])) (by repeat (first | with_reducible assumption | (rw [rl_u_s]; done) | (rw [rl_u_s]; rfl) | rw [rl_u_n (by first | with_reducible assumption | omega)])))
              · refine o_aload_n hC dX8_settle_79 (by rfl) ?_
                refine o_getf hC (fX8_56 hC rfl) dX8_settle_80 (by repeat (first | with_reducible assumption | (rw [rl_u_s]; done) | (rw [rl_u_s]; rfl) | rw [rl_u_n (by first | with_reducible assumption | omega)])) (by first | rfl | with_reducible assumption) ?_
                refine o_bipush (v := nI 12) hC dX8_settle_83 (by decide +kernel) ?_
                refine o_iload_n hC dX8_settle_85 (by rfl) ?_
                refine o_imul hC dX8_settle_86 ?_
                try rw [nI_mul]
                refine o_iload hC dX8_settle_87 (by rfl) ?_
                refine o_iadd hC dX8_settle_89 ?_
                try rw [nI_add]
                refine o_iconst (v := nI 1) hC dX8_settle_90 (by decide +kernel) ?_
                refine o_isub hC dX8_settle_91 ?_
                rw [show nI (12 * a + (p + 1)) - nI 1 = nI (12 * a + p) from rl_pred _]
                refine o_laldN (t0 := 1) hC rfl dX8_settle_92 (by repeat (first | with_reducible assumption | (rw [rl_u_s]; done) | (rw [rl_u_s]; rfl) | rw [rl_u_n (by first | with_reducible assumption | omega)])) (by omega) (by decide) ?_
                refine o_aload_n hC dX8_settle_93 (by rfl) ?_
                refine o_getf hC (fX8_63 hC rfl) dX8_settle_94 (by repeat (first | with_reducible assumption | (rw [rl_u_s]; done) | (rw [rl_u_s]; rfl) | rw [rl_u_n (by first | with_reducible assumption | omega)])) (by first | rfl | with_reducible assumption) ?_
                refine o_iload hC dX8_settle_97 (by rfl) ?_
                refine o_laldN (t0 := 1) hC rfl dX8_settle_99 (by repeat (first | with_reducible assumption | (rw [rl_u_s]; done) | (rw [rl_u_s]; rfl) | rw [rl_u_n (by first | with_reducible assumption | omega)])) (by omega) (by decide) ?_
                refine o_lcmp hC dX8_settle_100 ?_
                refine o_if_gt (tgt := 154) hC dX8_settle_101 (by decide) (fun c_101 => ?_) (fun c_101 => ?_)
                · refine o_aload_n hC dX8_settle_154 (by rfl) ?_
                  refine o_getf hC (fX8_56 hC rfl) dX8_settle_155 (by repeat (first | with_reducible assumption | (rw [rl_u_s]; done) | (rw [rl_u_s]; rfl) | rw [rl_u_n (by first | with_reducible assumption | omega)])) (by first | rfl | with_reducible assumption) ?_
                  refine o_bipush (v := nI 12) hC dX8_settle_158 (by decide +kernel) ?_
                  refine o_iload_n hC dX8_settle_160 (by rfl) ?_
                  refine o_imul hC dX8_settle_161 ?_
                  try rw [nI_mul]
                  refine o_iload hC dX8_settle_162 (by rfl) ?_
                  refine o_iadd hC dX8_settle_164 ?_
                  try rw [nI_add]
                  refine o_aload_n hC dX8_settle_165 (by rfl) ?_
                  refine o_getf hC (fX8_56 hC rfl) dX8_settle_166 (by repeat (first | with_reducible assumption | (rw [rl_u_s]; done) | (rw [rl_u_s]; rfl) | rw [rl_u_n (by first | with_reducible assumption | omega)])) (by first | rfl | with_reducible assumption) ?_
                  refine o_bipush (v := nI 12) hC dX8_settle_169 (by decide +kernel) ?_
                  refine o_iload_n hC dX8_settle_171 (by rfl) ?_
                  refine o_imul hC dX8_settle_172 ?_
                  try rw [nI_mul]
                  refine o_iload hC dX8_settle_173 (by rfl) ?_
                  refine o_iadd hC dX8_settle_175 ?_
                  try rw [nI_add]
                  refine o_iconst (v := nI 1) hC dX8_settle_176 (by decide +kernel) ?_
                  refine o_isub hC dX8_settle_177 ?_
                  rw [show nI (12 * a + (p + 1)) - nI 1 = nI (12 * a + p) from rl_pred _]
                  refine o_laldN (t0 := 1) hC rfl dX8_settle_178 (by repeat (first | with_reducible assumption | (rw [rl_u_s]; done) | (rw [rl_u_s]; rfl) | rw [rl_u_n (by first | with_reducible assumption | omega)])) (by omega) (by decide) ?_
                  refine o_lastN (t0 := 1) hC rfl dX8_settle_179 (by repeat (first | with_reducible assumption | (rw [rl_u_s]; done) | (rw [rl_u_s]; rfl) | rw [rl_u_n (by first | with_reducible assumption | omega)])) (by omega) (by decide) ?_
                  refine o_aload_n hC dX8_settle_180 (by rfl) ?_
                  refine o_getf hC (fX8_60 hC rfl) dX8_settle_181 (by repeat (first | with_reducible assumption | (rw [rl_u_s]; done) | (rw [rl_u_s]; rfl) | rw [rl_u_n (by first | with_reducible assumption | omega)])) (by first | rfl | with_reducible assumption) ?_
                  refine o_bipush (v := nI 12) hC dX8_settle_184 (by decide +kernel) ?_
                  refine o_iload_n hC dX8_settle_186 (by rfl) ?_
                  refine o_imul hC dX8_settle_187 ?_
                  try rw [nI_mul]
                  refine o_iload hC dX8_settle_188 (by rfl) ?_
                  refine o_iadd hC dX8_settle_190 ?_
                  try rw [nI_add]
                  refine o_aload_n hC dX8_settle_191 (by rfl) ?_
                  refine o_getf hC (fX8_60 hC rfl) dX8_settle_192 (by repeat (first | with_reducible assumption | (rw [rl_u_s]; done) | (rw [rl_u_s]; rfl) | rw [rl_u_n (by first | with_reducible assumption | omega)])) (by first | rfl | with_reducible assumption) ?_
                  refine o_bipush (v := nI 12) hC dX8_settle_195 (by decide +kernel) ?_
                  refine o_iload_n hC dX8_settle_197 (by rfl) ?_
                  refine o_imul hC dX8_settle_198 ?_
                  try rw [nI_mul]
                  refine o_iload hC dX8_settle_199 (by rfl) ?_
                  refine o_iadd hC dX8_settle_201 ?_
                  try rw [nI_add]
                  refine o_iconst (v := nI 1) hC dX8_settle_202 (by decide +kernel) ?_
                  refine o_isub hC dX8_settle_203 ?_
                  rw [show nI (12 * a + (p + 1)) - nI 1 = nI (12 * a + p) from rl_pred _]
                  refine o_laldN (t0 := 1) hC rfl dX8_settle_204 (by repeat (first | with_reducible assumption | (rw [rl_u_s]; done) | (rw [rl_u_s]; rfl) | rw [rl_u_n (by first | with_reducible assumption | omega)])) (by omega) (by decide) ?_
                  refine o_lastN (t0 := 1) hC rfl dX8_settle_205 (by repeat (first | with_reducible assumption | (rw [rl_u_s]; done) | (rw [rl_u_s]; rfl) | rw [rl_u_n (by first | with_reducible assumption | omega)])) (by omega) (by decide) ?_
                  refine o_iinc hC dX8_settle_206 (by rfl) (rl_dec _) (Nat.le_of_ble_eq_true rfl) ?_
                  refine o_goto (tgt := 74) hC dX8_settle_209 (by decide) ?_
                  exact ihp _ (by omega) ((hq2.s16 _).s17 _) (by repeat (first | with_reducible assumption | (rw [rl_u_s]; done) | (rw [rl_u_s]; rfl) | rw [rl_u_n (by first | with_reducible assumption | omega)])) (by repeat (first | with_reducible assumption | (rw [rl_u_s]; done) | (rw [rl_u_s]; rfl) | rw [rl_u_n (by first | with_reducible assumption | omega)]))
                · refine o_aload_n hC dX8_settle_104 (by rfl) ?_
                  refine o_getf hC (fX8_56 hC rfl) dX8_settle_105 (by repeat (first | with_reducible assumption | (rw [rl_u_s]; done) | (rw [rl_u_s]; rfl) | rw [rl_u_n (by first | with_reducible assumption | omega)])) (by first | rfl | with_reducible assumption) ?_
                  refine o_bipush (v := nI 12) hC dX8_settle_108 (by decide +kernel) ?_
                  refine o_iload_n hC dX8_settle_110 (by rfl) ?_
                  refine o_imul hC dX8_settle_111 ?_
                  try rw [nI_mul]
                  refine o_iload hC dX8_settle_112 (by rfl) ?_
                  refine o_iadd hC dX8_settle_114 ?_
                  try rw [nI_add]
                  refine o_iconst (v := nI 1) hC dX8_settle_115 (by decide +kernel) ?_
                  refine o_isub hC dX8_settle_116 ?_
                  rw [show nI (12 * a + (p + 1)) - nI 1 = nI (12 * a + p) from rl_pred _]
                  refine o_laldN (t0 := 1) hC rfl dX8_settle_117 (by repeat (first | with_reducible assumption | (rw [rl_u_s]; done) | (rw [rl_u_s]; rfl) | rw [rl_u_n (by first | with_reducible assumption | omega)])) (by omega) (by decide) ?_
                  refine o_aload_n hC dX8_settle_118 (by rfl) ?_
                  refine o_getf hC (fX8_63 hC rfl) dX8_settle_119 (by repeat (first | with_reducible assumption | (rw [rl_u_s]; done) | (rw [rl_u_s]; rfl) | rw [rl_u_n (by first | with_reducible assumption | omega)])) (by first | rfl | with_reducible assumption) ?_
                  refine o_iload hC dX8_settle_122 (by rfl) ?_
                  refine o_laldN (t0 := 1) hC rfl dX8_settle_124 (by repeat (first | with_reducible assumption | (rw [rl_u_s]; done) | (rw [rl_u_s]; rfl) | rw [rl_u_n (by first | with_reducible assumption | omega)])) (by omega) (by decide) ?_
                  refine o_lcmp hC dX8_settle_125 ?_
                  refine o_if_ne (tgt := 212) hC dX8_settle_126 (by decide) (fun c_126 => ?_) (fun c_126 => ?_)
                  · first
                    | exact absurd c_76 (nI_nle (Nat.succ_pos p) (by omega))
                    | (have zz : True := trivial
                       refine o_aload_n hC dX8_settle_212 (by rfl) ?_
                       refine o_getf hC (fX8_56 hC rfl) dX8_settle_213 (by repeat (first | with_reducible assumption | (rw [rl_u_s]; done) | (rw [rl_u_s]; rfl) | rw [rl_u_n (by first | with_reducible assumption | omega)])) (by first | rfl | with_reducible assumption) ?_
                       refine o_bipush (v := nI 12) hC dX8_settle_216 (by decide +kernel) ?_
                       refine o_iload_n hC dX8_settle_218 (by rfl) ?_
                       refine o_imul hC dX8_settle_219 ?_
                       try rw [nI_mul]
                       refine o_iload hC dX8_settle_220 (by rfl) ?_
                       refine o_iadd hC dX8_settle_222 ?_
                       try rw [nI_add]
                       refine o_aload_n hC dX8_settle_223 (by rfl) ?_
                       refine o_getf hC (fX8_63 hC rfl) dX8_settle_224 (by repeat (first | with_reducible assumption | (rw [rl_u_s]; done) | (rw [rl_u_s]; rfl) | rw [rl_u_n (by first | with_reducible assumption | omega)])) (by first | rfl | with_reducible assumption) ?_
                       refine o_iload hC dX8_settle_227 (by rfl) ?_
                       refine o_laldN (t0 := 1) hC rfl dX8_settle_229 (by repeat (first | with_reducible assumption | (rw [rl_u_s]; done) | (rw [rl_u_s]; rfl) | rw [rl_u_n (by first | with_reducible assumption | omega)])) (by omega) (by decide) ?_
                       refine o_lastN (t0 := 1) hC rfl dX8_settle_230 (by repeat (first | with_reducible assumption | (rw [rl_u_s]; done) | (rw [rl_u_s]; rfl) | rw [rl_u_n (by first | with_reducible assumption | omega)])) (by omega) (by decide) ?_
                       refine o_aload_n hC dX8_settle_231 (by rfl) ?_
                       refine o_getf hC (fX8_60 hC rfl) dX8_settle_232 (by repeat (first | with_reducible assumption | (rw [rl_u_s]; done) | (rw [rl_u_s]; rfl) | rw [rl_u_n (by first | with_reducible assumption | omega)])) (by first | rfl | with_reducible assumption) ?_
                       refine o_bipush (v := nI 12) hC dX8_settle_235 (by decide +kernel) ?_
                       refine o_iload_n hC dX8_settle_237 (by rfl) ?_
                       refine o_imul hC dX8_settle_238 ?_
                       try rw [nI_mul]
                       refine o_iload hC dX8_settle_239 (by rfl) ?_
                       refine o_iadd hC dX8_settle_241 ?_
                       try rw [nI_add]
                       refine o_aload_n hC dX8_settle_242 (by rfl) ?_
                       refine o_getf hC (fX8_66 hC rfl) dX8_settle_243 (by repeat (first | with_reducible assumption | (rw [rl_u_s]; done) | (rw [rl_u_s]; rfl) | rw [rl_u_n (by first | with_reducible assumption | omega)])) (by first | rfl | with_reducible assumption) ?_
                       refine o_iload hC dX8_settle_246 (by rfl) ?_
                       refine o_laldN (t0 := 1) hC rfl dX8_settle_248 (by repeat (first | with_reducible assumption | (rw [rl_u_s]; done) | (rw [rl_u_s]; rfl) | rw [rl_u_n (by first | with_reducible assumption | omega)])) (by omega) (by decide) ?_
                       refine o_lastN (t0 := 1) hC rfl dX8_settle_249 (by repeat (first | with_reducible assumption | (rw [rl_u_s]; done) | (rw [rl_u_s]; rfl) | rw [rl_u_n (by first | with_reducible assumption | omega)])) (by omega) (by decide) ?_
                       refine o_iinc hC dX8_settle_250 (by rfl) (rl_inc _) (Nat.le_of_ble_eq_true rfl) ?_
                       refine o_iinc hC dX8_settle_253 (by rfl) (rl_inc _) (Nat.le_of_ble_eq_true rfl) ?_
                       refine o_goto (tgt := 53) hC dX8_settle_256 (by decide) ?_
                       rw [← md_cnt_s (G := (fun w => gs hn hl w k 0)) c_68]
                       exact ih (i + 1) _ _ _ (by omega) ((hq2.s16 _).s17 _) (by repeat (first | with_reducible assumption | (rw [rl_u_s]; done) | (rw [rl_u_s]; rfl) | rw [rl_u_n (by first | with_reducible assumption | omega)])) (by repeat (first | with_reducible assumption | (rw [rl_u_s]; done) | (rw [rl_u_s]; rfl) | rw [rl_u_n (by first | with_reducible assumption | omega)])))
                  · refine o_aload_n hC dX8_settle_129 (by rfl) ?_
                    refine o_getf hC (fX8_60 hC rfl) dX8_settle_130 (by repeat (first | with_reducible assumption | (rw [rl_u_s]; done) | (rw [rl_u_s]; rfl) | rw [rl_u_n (by first | with_reducible assumption | omega)])) (by first | rfl | with_reducible assumption) ?_
                    refine o_bipush (v := nI 12) hC dX8_settle_133 (by decide +kernel) ?_
                    refine o_iload_n hC dX8_settle_135 (by rfl) ?_
                    refine o_imul hC dX8_settle_136 ?_
                    try rw [nI_mul]
                    refine o_iload hC dX8_settle_137 (by rfl) ?_
                    refine o_iadd hC dX8_settle_139 ?_
                    try rw [nI_add]
                    refine o_iconst (v := nI 1) hC dX8_settle_140 (by decide +kernel) ?_
                    refine o_isub hC dX8_settle_141 ?_
                    rw [show nI (12 * a + (p + 1)) - nI 1 = nI (12 * a + p) from rl_pred _]
                    refine o_laldN (t0 := 1) hC rfl dX8_settle_142 (by repeat (first | with_reducible assumption | (rw [rl_u_s]; done) | (rw [rl_u_s]; rfl) | rw [rl_u_n (by first | with_reducible assumption | omega)])) (by omega) (by decide) ?_
                    refine o_aload_n hC dX8_settle_143 (by rfl) ?_
                    refine o_getf hC (fX8_66 hC rfl) dX8_settle_144 (by repeat (first | with_reducible assumption | (rw [rl_u_s]; done) | (rw [rl_u_s]; rfl) | rw [rl_u_n (by first | with_reducible assumption | omega)])) (by first | rfl | with_reducible assumption) ?_
                    refine o_iload hC dX8_settle_147 (by rfl) ?_
                    refine o_laldN (t0 := 1) hC rfl dX8_settle_149 (by repeat (first | with_reducible assumption | (rw [rl_u_s]; done) | (rw [rl_u_s]; rfl) | rw [rl_u_n (by first | with_reducible assumption | omega)])) (by omega) (by decide) ?_
                    refine o_lcmp hC dX8_settle_150 ?_
                    refine o_if_le (tgt := 212) hC dX8_settle_151 (by decide) (fun c_151 => ?_) (fun c_151 => ?_)
                    · first
                      | exact absurd c_76 (nI_nle (Nat.succ_pos p) (by omega))
                      | (have zz : True := trivial
                         refine o_aload_n hC dX8_settle_212 (by rfl) ?_
                         refine o_getf hC (fX8_56 hC rfl) dX8_settle_213 (by repeat (first | with_reducible assumption | (rw [rl_u_s]; done) | (rw [rl_u_s]; rfl) | rw [rl_u_n (by first | with_reducible assumption | omega)])) (by first | rfl | with_reducible assumption) ?_
                         refine o_bipush (v := nI 12) hC dX8_settle_216 (by decide +kernel) ?_
                         refine o_iload_n hC dX8_settle_218 (by rfl) ?_
                         refine o_imul hC dX8_settle_219 ?_
                         try rw [nI_mul]
                         refine o_iload hC dX8_settle_220 (by rfl) ?_
                         refine o_iadd hC dX8_settle_222 ?_
                         try rw [nI_add]
                         refine o_aload_n hC dX8_settle_223 (by rfl) ?_
                         refine o_getf hC (fX8_63 hC rfl) dX8_settle_224 (by repeat (first | with_reducible assumption | (rw [rl_u_s]; done) | (rw [rl_u_s]; rfl) | rw [rl_u_n (by first | with_reducible assumption | omega)])) (by first | rfl | with_reducible assumption) ?_
                         refine o_iload hC dX8_settle_227 (by rfl) ?_
                         refine o_laldN (t0 := 1) hC rfl dX8_settle_229 (by repeat (first | with_reducible assumption | (rw [rl_u_s]; done) | (rw [rl_u_s]; rfl) | rw [rl_u_n (by first | with_reducible assumption | omega)])) (by omega) (by decide) ?_
                         refine o_lastN (t0 := 1) hC rfl dX8_settle_230 (by repeat (first | with_reducible assumption | (rw [rl_u_s]; done) | (rw [rl_u_s]; rfl) | rw [rl_u_n (by first | with_reducible assumption | omega)])) (by omega) (by decide) ?_
                         refine o_aload_n hC dX8_settle_231 (by rfl) ?_
                         refine o_getf hC (fX8_60 hC rfl) dX8_settle_232 (by repeat (first | with_reducible assumption | (rw [rl_u_s]; done) | (rw [rl_u_s]; rfl) | rw [rl_u_n (by first | with_reducible assumption | omega)])) (by first | rfl | with_reducible assumption) ?_
                         refine o_bipush (v := nI 12) hC dX8_settle_235 (by decide +kernel) ?_
                         refine o_iload_n hC dX8_settle_237 (by rfl) ?_
                         refine o_imul hC dX8_settle_238 ?_
                         try rw [nI_mul]
                         refine o_iload hC dX8_settle_239 (by rfl) ?_
                         refine o_iadd hC dX8_settle_241 ?_
                         try rw [nI_add]
                         refine o_aload_n hC dX8_settle_242 (by rfl) ?_
                         refine o_getf hC (fX8_66 hC rfl) dX8_settle_243 (by repeat (first | with_reducible assumption | (rw [rl_u_s]; done) | (rw [rl_u_s]; rfl) | rw [rl_u_n (by first | with_reducible assumption | omega)])) (by first | rfl | with_reducible assumption) ?_
                         refine o_iload hC dX8_settle_246 (by rfl) ?_
                         refine o_laldN (t0 := 1) hC rfl dX8_settle_248 (by repeat (first | with_reducible assumption | (rw [rl_u_s]; done) | (rw [rl_u_s]; rfl) | rw [rl_u_n (by first | with_reducible assumption | omega)])) (by omega) (by decide) ?_
                         refine o_lastN (t0 := 1) hC rfl dX8_settle_249 (by repeat (first | with_reducible assumption | (rw [rl_u_s]; done) | (rw [rl_u_s]; rfl) | rw [rl_u_n (by first | with_reducible assumption | omega)])) (by omega) (by decide) ?_
                         refine o_iinc hC dX8_settle_250 (by rfl) (rl_inc _) (Nat.le_of_ble_eq_true rfl) ?_
                         refine o_iinc hC dX8_settle_253 (by rfl) (rl_inc _) (Nat.le_of_ble_eq_true rfl) ?_
                         refine o_goto (tgt := 53) hC dX8_settle_256 (by decide) ?_
                         rw [← md_cnt_s (G := (fun w => gs hn hl w k 0)) c_68]
                         exact ih (i + 1) _ _ _ (by omega) ((hq2.s16 _).s17 _) (by repeat (first | with_reducible assumption | (rw [rl_u_s]; done) | (rw [rl_u_s]; rfl) | rw [rl_u_n (by first | with_reducible assumption | omega)])) (by repeat (first | with_reducible assumption | (rw [rl_u_s]; done) | (rw [rl_u_s]; rfl) | rw [rl_u_n (by first | with_reducible assumption | omega)])))
                    · refine o_aload_n hC dX8_settle_154 (by rfl) ?_
                      refine o_getf hC (fX8_56 hC rfl) dX8_settle_155 (by repeat (first | with_reducible assumption | (rw [rl_u_s]; done) | (rw [rl_u_s]; rfl) | rw [rl_u_n (by first | with_reducible assumption | omega)])) (by first | rfl | with_reducible assumption) ?_
                      refine o_bipush (v := nI 12) hC dX8_settle_158 (by decide +kernel) ?_
                      refine o_iload_n hC dX8_settle_160 (by rfl) ?_
                      refine o_imul hC dX8_settle_161 ?_
                      try rw [nI_mul]
                      refine o_iload hC dX8_settle_162 (by rfl) ?_
                      refine o_iadd hC dX8_settle_164 ?_
                      try rw [nI_add]
                      refine o_aload_n hC dX8_settle_165 (by rfl) ?_
                      refine o_getf hC (fX8_56 hC rfl) dX8_settle_166 (by repeat (first | with_reducible assumption | (rw [rl_u_s]; done) | (rw [rl_u_s]; rfl) | rw [rl_u_n (by first | with_reducible assumption | omega)])) (by first | rfl | with_reducible assumption) ?_
                      refine o_bipush (v := nI 12) hC dX8_settle_169 (by decide +kernel) ?_
                      refine o_iload_n hC dX8_settle_171 (by rfl) ?_
                      refine o_imul hC dX8_settle_172 ?_
                      try rw [nI_mul]
                      refine o_iload hC dX8_settle_173 (by rfl) ?_
                      refine o_iadd hC dX8_settle_175 ?_
                      try rw [nI_add]
                      refine o_iconst (v := nI 1) hC dX8_settle_176 (by decide +kernel) ?_
                      refine o_isub hC dX8_settle_177 ?_
                      rw [show nI (12 * a + (p + 1)) - nI 1 = nI (12 * a + p) from rl_pred _]
                      refine o_laldN (t0 := 1) hC rfl dX8_settle_178 (by repeat (first | with_reducible assumption | (rw [rl_u_s]; done) | (rw [rl_u_s]; rfl) | rw [rl_u_n (by first | with_reducible assumption | omega)])) (by omega) (by decide) ?_
                      refine o_lastN (t0 := 1) hC rfl dX8_settle_179 (by repeat (first | with_reducible assumption | (rw [rl_u_s]; done) | (rw [rl_u_s]; rfl) | rw [rl_u_n (by first | with_reducible assumption | omega)])) (by omega) (by decide) ?_
                      refine o_aload_n hC dX8_settle_180 (by rfl) ?_
                      refine o_getf hC (fX8_60 hC rfl) dX8_settle_181 (by repeat (first | with_reducible assumption | (rw [rl_u_s]; done) | (rw [rl_u_s]; rfl) | rw [rl_u_n (by first | with_reducible assumption | omega)])) (by first | rfl | with_reducible assumption) ?_
                      refine o_bipush (v := nI 12) hC dX8_settle_184 (by decide +kernel) ?_
                      refine o_iload_n hC dX8_settle_186 (by rfl) ?_
                      refine o_imul hC dX8_settle_187 ?_
                      try rw [nI_mul]
                      refine o_iload hC dX8_settle_188 (by rfl) ?_
                      refine o_iadd hC dX8_settle_190 ?_
                      try rw [nI_add]
                      refine o_aload_n hC dX8_settle_191 (by rfl) ?_
                      refine o_getf hC (fX8_60 hC rfl) dX8_settle_192 (by repeat (first | with_reducible assumption | (rw [rl_u_s]; done) | (rw [rl_u_s]; rfl) | rw [rl_u_n (by first | with_reducible assumption | omega)])) (by first | rfl | with_reducible assumption) ?_
                      refine o_bipush (v := nI 12) hC dX8_settle_195 (by decide +kernel) ?_
                      refine o_iload_n hC dX8_settle_197 (by rfl) ?_
                      refine o_imul hC dX8_settle_198 ?_
                      try rw [nI_mul]
                      refine o_iload hC dX8_settle_199 (by rfl) ?_
                      refine o_iadd hC dX8_settle_201 ?_
                      try rw [nI_add]
                      refine o_iconst (v := nI 1) hC dX8_settle_202 (by decide +kernel) ?_
                      refine o_isub hC dX8_settle_203 ?_
                      rw [show nI (12 * a + (p + 1)) - nI 1 = nI (12 * a + p) from rl_pred _]
                      refine o_laldN (t0 := 1) hC rfl dX8_settle_204 (by repeat (first | with_reducible assumption | (rw [rl_u_s]; done) | (rw [rl_u_s]; rfl) | rw [rl_u_n (by first | with_reducible assumption | omega)])) (by omega) (by decide) ?_
                      refine o_lastN (t0 := 1) hC rfl dX8_settle_205 (by repeat (first | with_reducible assumption | (rw [rl_u_s]; done) | (rw [rl_u_s]; rfl) | rw [rl_u_n (by first | with_reducible assumption | omega)])) (by omega) (by decide) ?_
                      refine o_iinc hC dX8_settle_206 (by rfl) (rl_dec _) (Nat.le_of_ble_eq_true rfl) ?_
                      refine o_goto (tgt := 74) hC dX8_settle_209 (by decide) ?_
                      exact ihp _ (by omega) ((hq2.s16 _).s17 _) (by repeat (first | with_reducible assumption | (rw [rl_u_s]; done) | (rw [rl_u_s]; rfl) | rw [rl_u_n (by first | with_reducible assumption | omega)])) (by repeat (first | with_reducible assumption | (rw [rl_u_s]; done) | (rw [rl_u_s]; rfl) | rw [rl_u_n (by first | with_reducible assumption | omega)]))
          refine o_iload_n hC dX8_settle_71 (by rfl) ?_
          refine o_istore hC dX8_settle_72 (Nat.le_of_ble_eq_true rfl) ?_
          exact loop3 _ _ (Nat.le_refl _) hq1 e18 e19
  have loop1 : ∀ (mm i : Nat), i + mm = k → rl_G X (rl_e D ids H0) 4 [some (.ref m), some (.int (nI a)), some (.int (nI (md_cnt (fun w => gs hn hl w k 0) i))), some (.int (nI i)), none, none] [] h n 0 0 := by
    intro mm
    induction mm with
    | zero =>
      intro i hm
      have ei : i = k := by omega
      subst ei
      refine o_iload_n hC dX8_settle_4 (by rfl) ?_
      refine o_aload_n hC dX8_settle_5 (by rfl) ?_
      refine o_getf hC (fX8_82 hC rfl) dX8_settle_6 (by repeat (first | with_reducible assumption | (rw [rl_u_s]; done) | (rw [rl_u_s]; rfl) | rw [rl_u_n (by first | with_reducible assumption | omega)])) (by first | rfl | with_reducible assumption) ?_
      refine o_icmp_ge (tgt := 29) hC dX8_settle_9 (by decide) (fun c_9 => ?_) (fun c_9 => ?_)
      · refine o_iload_n hC dX8_settle_29 (by rfl) ?_
        refine o_bipush (v := nI 12) hC dX8_settle_30 (by decide +kernel) ?_
        refine o_icmp_le (tgt := 48) hC dX8_settle_32 (by decide) (fun c_32 => ?_) (fun c_32 => ?_)
        · refine o_iconst (v := nI 0) hC dX8_settle_48 (by decide +kernel) ?_
          refine o_istore_n hC dX8_settle_49 (Nat.le_of_ble_eq_true rfl) ?_
          refine o_iconst (v := nI 0) hC dX8_settle_50 (by decide +kernel) ?_
          refine o_istore hC dX8_settle_51 (Nat.le_of_ble_eq_true rfl) ?_
          exact loop2 ((nI_leI (by have := md_cnt_ub (fun w => gs hn hl w i 0) i; omega) (by decide)).mp c_32) i 0 h _ _ (by omega) hq g18 g19
        · refine o_aload_n hC dX8_settle_35 (by rfl) ?_
          refine o_iconst (v := nI 1) hC dX8_settle_36 (by decide +kernel) ?_
          refine o_putf hC (fX8_91 hC rfl) (fwX8 rfl rfl rfl (Or.inl rfl)) dX8_settle_37 (by repeat (first | with_reducible assumption | (rw [rl_u_s]; done) | (rw [rl_u_s]; rfl) | rw [rl_u_n (by first | with_reducible assumption | omega)])) (Nat.le_of_ble_eq_true rfl) ?_
          try simp only [List.set_cons_zero, List.set_cons_succ]
          refine o_aload_n hC dX8_settle_40 (by rfl) ?_
          refine o_getf hC (fX8_53 hC rfl) dX8_settle_41 (by repeat (first | with_reducible assumption | (rw [rl_u_s]; done) | (rw [rl_u_s]; rfl) | rw [rl_u_n (by first | with_reducible assumption | omega)])) (by first | rfl | with_reducible assumption) ?_
          refine o_iload_n hC dX8_settle_44 (by rfl) ?_
          refine o_iconst (v := nI 0) hC dX8_settle_45 (by decide +kernel) ?_
          refine o_iastN (t0 := 0) hC rfl dX8_settle_46 (by repeat (first | with_reducible assumption | (rw [rl_u_s]; done) | (rw [rl_u_s]; rfl) | rw [rl_u_n (by first | with_reducible assumption | omega)])) (by omega) (by decide) ?_
          refine o_vret hC hB dX8_settle_47 (Nat.le_of_ble_eq_true rfl) (Nat.le_of_ble_eq_true rfl) ?_
          exact ⟨rfl, rfl, nI 1, (hq.ob T (nI 1) i gk).s15 _ (md_bd b15 ⟨0, by decide, rfl⟩)⟩
      · exact absurd (nI_le (by omega) (by omega)) c_9
    | succ mm ih =>
      intro i hm
      refine o_iload_n hC dX8_settle_4 (by rfl) ?_
      refine o_aload_n hC dX8_settle_5 (by rfl) ?_
      refine o_getf hC (fX8_82 hC rfl) dX8_settle_6 (by repeat (first | with_reducible assumption | (rw [rl_u_s]; done) | (rw [rl_u_s]; rfl) | rw [rl_u_n (by first | with_reducible assumption | omega)])) (by first | rfl | with_reducible assumption) ?_
      refine o_icmp_ge (tgt := 29) hC dX8_settle_9 (by decide) (fun c_9 => ?_) (fun c_9 => ?_)
      · exact absurd c_9 (nI_ge (by omega) (by omega))
      · refine o_aload_n hC dX8_settle_12 (by rfl) ?_
        refine o_iload_n hC dX8_settle_13 (by rfl) ?_
        refine o_callV1 hC rl_BW_good rl_Ns_nw (by exact hB.2.2.2.2.2) YX8_goes IX8_goes VX8_goes (mX8_87 hC) (by rw [hB.1]; exact cm_X8_goes l D ids H0 _ _ m T _ _ i hn hl hq g18 g19 (by omega)) (by exact hq.1) rfl rfl (Nat.le_of_ble_eq_true rfl) (by rw [hB.2.1]; first | exact Nat.le_of_ble_eq_true rfl | (dsimp only; omega)) (by rw [hB.2.1]; first | exact Nat.le_of_ble_eq_true rfl | (dsimp only; omega)) (by rw [hB.2.1]; first | exact Nat.le_of_ble_eq_true rfl | (dsimp only; omega)) (by rw [hB.2.1]; first | exact Nat.le_of_ble_eq_true rfl | (dsimp only; omega)) dX8_settle_14 (fun v h_14 n_14 p_14 => ?_)
        obtain ⟨rfl, rfl, rfl⟩ := p_14
        try dsimp only [Option.toList, List.cons_append, List.nil_append]
        refine o_if_ne (tgt := 23) hC dX8_settle_17 (by decide) (fun c_17 => ?_) (fun c_17 => ?_)
        · refine o_iinc hC dX8_settle_23 (by rfl) (rl_inc _) (Nat.le_of_ble_eq_true rfl) ?_
          refine o_goto (tgt := 4) hC dX8_settle_26 (by decide) ?_
          have lp := ih (i + 1) (by omega)
          first
          | (rw [md_cnt_s (G := (fun w => gs hn hl w k 0)) c_17] at lp; exact lp)
          | (rw [md_cnt_n (G := (fun w => gs hn hl w k 0)) c_17] at lp; exact lp)
        · refine o_iinc hC dX8_settle_20 (by rfl) (rl_inc _) (Nat.le_of_ble_eq_true rfl) ?_
          refine o_iinc hC dX8_settle_23 (by rfl) (rl_inc _) (Nat.le_of_ble_eq_true rfl) ?_
          refine o_goto (tgt := 4) hC dX8_settle_26 (by decide) ?_
          have lp := ih (i + 1) (by omega)
          first
          | (rw [md_cnt_s (G := (fun w => gs hn hl w k 0)) c_17] at lp; exact lp)
          | (rw [md_cnt_n (G := (fun w => gs hn hl w k 0)) c_17] at lp; exact lp)
  show rl_G X (rl_e D ids H0) 0 [some (.ref m), some (.int (nI a)), none, none, none, none] [] h n 0 0
  refine o_iconst (v := nI 0) hC dX8_settle_0 (by decide +kernel) ?_
  refine o_istore_n hC dX8_settle_1 (Nat.le_of_ble_eq_true rfl) ?_
  refine o_iconst (v := nI 0) hC dX8_settle_2 (by decide +kernel) ?_
  refine o_istore_n hC dX8_settle_3 (Nat.le_of_ble_eq_true rfl) ?_
  exact loop1 k 0 (by omega)
