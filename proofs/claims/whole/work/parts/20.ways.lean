/-! RowLineage$Ways: at w, its needs at w + 1, its lacks at w + 2 -/
def ws_at (ids : Nat → ClassId) (h : rl_H) (w : Nat) (f g : Nat → Int64) (k : Nat) : Prop :=
  h w = some (.inr (6, [.ref (w + 1), .ref (w + 2), .int (nI k)])) ∧ h (w + 1) = some (.inl (ids 1, 12, .inr (.inl f))) ∧ h (w + 2) = some (.inl (ids 1, 12, .inr (.inl g))) ∧ k ≤ 12
/-- TERM j holds where the rows of x are there -/
def tm_holds (f g : Nat → Int64) (x : Int64) (j : Nat) : Prop := f j &&& (x ^^^ (-1)) = 0 ∧ g j &&& x = 0

/-- the first of the TERMS that holds -/
noncomputable def tm_first (f g : Nat → Int64) (x : Int64) : Nat → Nat → Int32
  | 0, _ => -1
  | m + 1, j => if f j &&& (x ^^^ (-1)) = 0 ∧ g j &&& x = 0 then nI j else tm_first f g x m (j + 1)

set_option maxHeartbeats 4000000 in
set_option maxRecDepth 100000 in
theorem ct_X6_firstThatHolds (l : Launch) (D : va_G) (ids : Nat → ClassId) (H0 : Heap) (h : rl_H) (n w k : Nat) (f g : Nat → Int64) (x : Int64) (hw : ws_at ids h w f g k) : rl_Met l (rl_e D ids H0) rl_BW rl_Ns yX6_firstThatHolds cX6_firstThatHolds 4 (some .int) ({ frames := 0, cells := 0, slots := 0, locals := 0 }) [.ref w, .long x] h n (fun v h' n' => v = some (.int (tm_first f g x k 0)) ∧ h' = h ∧ n' = n) := by
  obtain ⟨h1, h2, h3, hk⟩ := hw
  refine rl_Met.of (by decide +kernel) (Nat.le_of_ble_eq_true rfl) ?_
  intro X hC hB
  have loop : ∀ (m j : Nat), j + m = k → tm_first f g x k 0 = tm_first f g x m j → rl_G X (rl_e D ids H0) 2 [some (.ref w), some (.long x), none, some (.int (nI j))] [] h n 0 0 := by
    intro m
    induction m with
    | zero =>
      intro j hj hs
      refine o_iload_n hC dX6_firstThatHolds_2 (by rfl) ?_
      refine o_aload_n hC dX6_firstThatHolds_3 (by rfl) ?_
      refine o_getf hC (fX6_18 hC rfl) dX6_firstThatHolds_4 (by repeat (first | assumption | exact rl_u_s | rw [rl_u_n (by first | assumption | omega)])) (by rfl) ?_
      refine o_icmp_ge (tgt := 48) hC dX6_firstThatHolds_7 (by decide) (fun c_7 => ?_) (fun c_7 => ?_)
      · refine o_iconst (v := (-1 : Int32)) hC dX6_firstThatHolds_48 (by decide +kernel) ?_
        refine o_iret hC hB dX6_firstThatHolds_49 (Nat.le_of_ble_eq_true rfl) (Nat.le_of_ble_eq_true rfl) ?_
        exact ⟨by rw [hs]; rfl, rfl, rfl⟩
      · exact absurd (nI_le (by omega) (by omega)) c_7
    | succ m ih =>
      intro j hj hs
      refine o_iload_n hC dX6_firstThatHolds_2 (by rfl) ?_
      refine o_aload_n hC dX6_firstThatHolds_3 (by rfl) ?_
      refine o_getf hC (fX6_18 hC rfl) dX6_firstThatHolds_4 (by repeat (first | assumption | exact rl_u_s | rw [rl_u_n (by first | assumption | omega)])) (by rfl) ?_
      refine o_icmp_ge (tgt := 48) hC dX6_firstThatHolds_7 (by decide) (fun c_7 => ?_) (fun c_7 => ?_)
      · exact absurd c_7 (nI_ge (by omega) (by omega))
      · refine o_aload_n hC dX6_firstThatHolds_10 (by rfl) ?_
        refine o_getf hC (fX6_9 hC rfl) dX6_firstThatHolds_11 (by repeat (first | assumption | exact rl_u_s | rw [rl_u_n (by first | assumption | omega)])) (by rfl) ?_
        refine o_iload_n hC dX6_firstThatHolds_14 (by rfl) ?_
        refine o_laldN (t0 := 1) hC rfl dX6_firstThatHolds_15 (by repeat (first | assumption | exact rl_u_s | rw [rl_u_n (by first | assumption | omega)])) (by omega) (by decide) ?_
        refine o_lload_n hC dX6_firstThatHolds_16 (by rfl) ?_
        refine o_ldc2 hC nX6_26 dX6_firstThatHolds_17 ?_
        refine o_lxor hC dX6_firstThatHolds_20 ?_
        refine o_land hC dX6_firstThatHolds_21 ?_
        refine o_lconst (v := 0) hC dX6_firstThatHolds_22 (by decide +kernel) ?_
        refine o_lcmp hC dX6_firstThatHolds_23 ?_
        refine o_if_ne (tgt := 42) hC dX6_firstThatHolds_24 (by decide) (fun c_24 => ?_) (fun c_24 => ?_)
        · refine o_iinc hC dX6_firstThatHolds_42 (by rfl) (by first | exact rl_inc _ | exact rl_dec _ | rfl) (Nat.le_of_ble_eq_true rfl) ?_
          refine o_goto (tgt := 2) hC dX6_firstThatHolds_45 (by decide) ?_
          exact ih (j + 1) (by omega) (by rw [hs, tm_first, if_neg]; exact fun q => by first | exact c_24 ((lg_cmp_eq _ _).mpr q.1) | exact c_37 ((lg_cmp_eq _ _).mpr q.2))
        · refine o_aload_n hC dX6_firstThatHolds_27 (by rfl) ?_
          refine o_getf hC (fX6_15 hC rfl) dX6_firstThatHolds_28 (by repeat (first | assumption | exact rl_u_s | rw [rl_u_n (by first | assumption | omega)])) (by rfl) ?_
          refine o_iload_n hC dX6_firstThatHolds_31 (by rfl) ?_
          refine o_laldN (t0 := 1) hC rfl dX6_firstThatHolds_32 (by repeat (first | assumption | exact rl_u_s | rw [rl_u_n (by first | assumption | omega)])) (by omega) (by decide) ?_
          refine o_lload_n hC dX6_firstThatHolds_33 (by rfl) ?_
          refine o_land hC dX6_firstThatHolds_34 ?_
          refine o_lconst (v := 0) hC dX6_firstThatHolds_35 (by decide +kernel) ?_
          refine o_lcmp hC dX6_firstThatHolds_36 ?_
          refine o_if_ne (tgt := 42) hC dX6_firstThatHolds_37 (by decide) (fun c_37 => ?_) (fun c_37 => ?_)
          · refine o_iinc hC dX6_firstThatHolds_42 (by rfl) (by first | exact rl_inc _ | exact rl_dec _ | rfl) (Nat.le_of_ble_eq_true rfl) ?_
            refine o_goto (tgt := 2) hC dX6_firstThatHolds_45 (by decide) ?_
            exact ih (j + 1) (by omega) (by rw [hs, tm_first, if_neg]; exact fun q => by first | exact c_24 ((lg_cmp_eq _ _).mpr q.1) | exact c_37 ((lg_cmp_eq _ _).mpr q.2))
          · refine o_iload_n hC dX6_firstThatHolds_40 (by rfl) ?_
            refine o_iret hC hB dX6_firstThatHolds_41 (Nat.le_of_ble_eq_true rfl) (Nat.le_of_ble_eq_true rfl) ?_
            refine ⟨?_, rfl, rfl⟩
            rw [hs, tm_first, if_pos ⟨(lg_cmp_eq _ _).mp c_24, (lg_cmp_eq _ _).mp c_37⟩]
  show rl_G X (rl_e D ids H0) 0 [some (.ref w), some (.long x), none, none] [] h n 0 0
  refine o_iconst (v := nI 0) hC dX6_firstThatHolds_0 (by decide +kernel) ?_
  refine o_istore_n hC dX6_firstThatHolds_1 (Nat.le_of_ble_eq_true rfl) ?_
  exact loop k 0 (by omega) rfl
