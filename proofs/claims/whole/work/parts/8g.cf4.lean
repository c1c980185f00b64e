/-! FOLD, in lists -/
/-- whether member j is in set s -/
abbrev fbt (s j : Nat) : Int32 := (nI s >>> (nI j &&& 31)) &&& nI 1
def inS (s j : Nat) : Bool := !decide (fbt s j = 0)
theorem fbt_or : ∀ s : Nat, s < 16 → ∀ j : Nat, j < 4 → fbt s j = nI 0 ∨ fbt s j = nI 1 := by decide +kernel
theorem inS_1 : inS 1 0 = true := by decide +kernel
abbrev fSt : Type := Nat × Int32 × Int32 × Int32
def fstep (st : fSt) (b : Bool) (x : Int32) : fSt := if b then (st.1 + 1, st.2.1 + x, if st.1 = 0 then x else if x < st.2.2.1 then x else st.2.2.1, if st.1 = 0 then x else if st.2.2.2 < x then x else st.2.2.2) else st
/-- how many, the sum, the least, the greatest of those of g in set s -/
def ffn (s c : Nat) (g : List arow) : Nat → Nat → fSt → fSt
  | 0, _, st => st
  | m + 1, j, st => ffn s c g m (j + 1) (fstep st (inS s j) (acg (ark g j) c))
def fpick (kd : Nat) (st : fSt) : Int32 := if kd = 0 then nI st.1 else if kd = 1 then st.2.1 else if kd = 2 then st.2.2.1 else st.2.2.2
/-- the NOTs of a group's WAYS -/
def fnf (g : List arow) : Nat → Nat → List (List tT) → Option (List (List tT))
  | 0, _, ns => some ns
  | m + 1, j, ns => (wno (ark g j).2 [(0, 0)]).bind (fun W => fnf g m (j + 1) (ns ++ [W]))
abbrev fnw (s : Nat) (g : List arow) (ns : List (List tT)) (j : Nat) : List tT := if inS s j then (ark g j).2 else ns.getD j []
/-- the WAYS of a set of a group -/
def fwf (s : Nat) (g : List arow) (ns : List (List tT)) : Nat → Nat → List tT → Option (List tT)
  | 0, _, W => some W
  | m + 1, j, W => (wst (tbo W (fnw s g ns j))).bind (fwf s g ns m (j + 1))
abbrev fky (s cb co kd : Nat) (g : List arow) : List Int32 := [acg (ark g 0) cb, fpick kd (ffn s co g g.length 0 (0, 0, 0, 0))]
abbrev fca (cb co kd : Nat) (g : List arow) (ns : List (List tT)) (s : Nat) : List Int32 × Option (List tT) := (fky s cb co kd g, fwf s g ns g.length 0 [(0, 0)])
abbrev fcs (cb co kd : Nat) (g : List arow) (ns : List (List tT)) (s n : Nat) : List (List Int32 × Option (List tT)) := (List.range' s n).map (fca cb co kd g ns)
/-- the NOTs that a group needs -/
def fnn (g : List arow) : Option (List (List tT)) := if 1 < g.length then fnf g g.length 0 [] else some []
/-- a group more -/
def fgr (cb co kd : Nat) (T g : List arow) : Option (List arow) := (fnn g).bind (fun ns => aall T (fcs cb co kd g ns 1 (2 ^ g.length - 1)))
/-- no TUPLE from u on, m of them, has the same number as the one at t -/
def ffr (tb : List arow) (c t : Nat) : Nat → Nat → Bool
  | 0, _ => true
  | m + 1, u => if acg (ark tb u) c = acg (ark tb t) c then false else ffr tb c t m (u + 1)
abbrev fpr (tb : List arow) (c t : Nat) : arow → Bool := fun r => decide (acg r c = acg (ark tb t) c)
/-- the group that begins at t -/
abbrev fgp (tb : List arow) (c t : Nat) : List arow := (tb.drop t).filter (fpr tb c t)
/-- FOLD of the TUPLES from t on, m of them -/
def ffo (tb : List arow) (cb co kd : Nat) : Nat → Nat → List arow → Option (List arow)
  | 0, _, T => some T
  | m + 1, t, T => if ffr tb cb t t 0 then (if 4 < (fgp tb cb t).length then none else (fgr cb co kd T (fgp tb cb t)).bind (ffo tb cb co kd m (t + 1))) else ffo tb cb co kd m (t + 1) T
/-- a group of the class: where its Tuples are -/
def cgr (gp : Nat → Option Nat) (a1 wd1 : Nat) (S1 : tb_S) (g : List arow) : Prop := ∀ j : Nat, j < g.length → j < 4 → ∃ i : Nat, i < 80 ∧ gp j = some (a1 + 2 + 5 * i) ∧ crw S1 i wd1 = ark g j
theorem ark_app_l {A B : List arow} {j : Nat} (h : j < A.length) : ark (A ++ B) j = ark A j := by
  unfold ark
  rw [List.getD_eq_getElem?_getD, List.getD_eq_getElem?_getD, List.getElem?_append_left h]
theorem ark_app_r {A : List arow} {r : arow} : ark (A ++ [r]) A.length = r := by
  unfold ark
  rw [List.getD_eq_getElem?_getD, List.getElem?_append_right (Nat.le_refl _), Nat.sub_self]
  rfl
theorem getD_app_l {A B : List (List tT)} {j : Nat} (h : j < A.length) : (A ++ B).getD j [] = A.getD j [] := by
  rw [List.getD_eq_getElem?_getD, List.getD_eq_getElem?_getD, List.getElem?_append_left h]
theorem getD_app_r {A : List (List tT)} {r : List tT} : (A ++ [r]).getD A.length [] = r := by
  rw [List.getD_eq_getElem?_getD, List.getElem?_append_right (Nat.le_refl _), Nat.sub_self]
  rfl
theorem sh_1k {k : Nat} (hk : k ≤ 4) : nI 1 <<< (nI k &&& 31) = nI (2 ^ k) := by
  rcases (show k = 0 ∨ k = 1 ∨ k = 2 ∨ k = 3 ∨ k = 4 by omega) with rfl | rfl | rfl | rfl | rfl <;> decide +kernel
theorem pw_16 {k : Nat} (hk : k ≤ 4) : 1 ≤ 2 ^ k ∧ 2 ^ k ≤ 16 ∧ (1 < 2 ^ k → 1 ≤ k) := by
  rcases (show k = 0 ∨ k = 1 ∨ k = 2 ∨ k = 3 ∨ k = 4 by omega) with rfl | rfl | rfl | rfl | rfl <;> decide

set_option maxHeartbeats 4000000 in
set_option maxRecDepth 100000 in
theorem cp_X2_isFirstOfGroup (l : Launch) (D : va_G) (ids : Nat → ClassId) (H0 : Heap) (h : rl_H) (n : Nat) (a1 wd1 t c4 : Nat) (P1 : Nat → Nat) (S1 : tb_S) (tb : List arow) (hi0 : tb_at ids h a1 tb.length wd1 P1 S1) (hrow1 : ∀ j : Nat, j < tb.length → crw S1 (P1 j) wd1 = ark tb j) (tl80 : tb.length ≤ 80) (ht : t < tb.length) (h4 : c4 < wd1) : rl_Met l (rl_e D ids H0) rl_BW rl_Ns yX2_isFirstOfGroup cX2_isFirstOfGroup 4 (some .boolean) ({ frames := 0, cells := 0, slots := 0, locals := 0 }) [.ref a1, .int (nI t), .int (nI c4)] h n (fun v h' n' => ∃ x : Int32, v = some (.int x) ∧ h' = h ∧ n' = n ∧ x = (if ffr tb c4 t t 0 then nI 1 else nI 0)) := by
  obtain ⟨t1, ⟨tf, t2, t3⟩, t4, t5, t6, t7⟩ := id hi0
  refine rl_Met.of (by decide +kernel) (Nat.le_of_ble_eq_true rfl) ?_
  intro X hC hB
  have hb := t4 t (by omega)
  obtain ⟨e1, e2, e3⟩ := t5 (P1 t) hb
  have et : acg (ark tb t) c4 = S1.1 (P1 t) c4 := by
    show (ark tb t).1.getD c4 0 = _
    rw [← hrow1 t ht, rsg_get h4]
  have loop : ∀ (m u : Nat), u + m = t → ffr tb c4 t t 0 = ffr tb c4 t m u → rl_G X (rl_e D ids H0) 2 [some (.ref a1), some (.int (nI t)), some (.int (nI c4)), some (.int (nI u))] [] h n 0 0 := by
    intro m
    induction m with
    | zero =>
      intro u hm he
      refine o_iload_n hC dX2_isFirstOfGroup_2 (by rfl) ?_
      refine o_iload_n hC dX2_isFirstOfGroup_3 (by rfl) ?_
      refine o_icmp_ge (tgt := 40) hC dX2_isFirstOfGroup_4 (by decide) (fun c_4 => ?_) (fun c_4 => ?_)
      · refine o_iconst (v := nI 1) hC dX2_isFirstOfGroup_40 (by decide +kernel) ?_
        refine o_zret hC hB dX2_isFirstOfGroup_41 (by first | rfl | decide +kernel) (Nat.le_of_ble_eq_true rfl) (Nat.le_of_ble_eq_true rfl) ?_
        exact ⟨_, rfl, rfl, rfl, by rw [he]; rfl⟩
      · exact absurd (nI_le (by omega) (by omega)) c_4
    | succ m ih =>
      intro u hm he
      have hb2 := t4 u (by omega)
      obtain ⟨g1, g2, g3⟩ := t5 (P1 u) hb2
      have eu : acg (ark tb u) c4 = S1.1 (P1 u) c4 := by
        show (ark tb u).1.getD c4 0 = _
        rw [← hrow1 u (by omega), rsg_get h4]
      refine o_iload_n hC dX2_isFirstOfGroup_2 (by rfl) ?_
      refine o_iload_n hC dX2_isFirstOfGroup_3 (by rfl) ?_
      refine o_icmp_ge (tgt := 40) hC dX2_isFirstOfGroup_4 (by decide) (fun c_4 => ?_) (fun c_4 => ?_)
      · exact absurd c_4 (nI_ge (by omega) (by omega))
      · refine o_aload_n hC dX2_isFirstOfGroup_7 (by rfl) ?_
        refine o_getf hC (fX2_106 hC rfl) dX2_isFirstOfGroup_8 (by repeat (first | with_reducible assumption | (rw [rl_u_s]; done) | (rw [rl_u_s]; rfl) | rw [rl_u_n (by first | with_reducible assumption | omega)])) (by first | rfl | with_reducible assumption) ?_
        refine o_iload_n hC dX2_isFirstOfGroup_11 (by rfl) ?_
        refine o_aaldN (t0 := 3) hC rfl dX2_isFirstOfGroup_12 (by repeat (first | with_reducible assumption | (rw [rl_u_s]; done) | (rw [rl_u_s]; rfl) | rw [rl_u_n (by first | with_reducible assumption | omega)])) (by omega) (by decide) ?_
        rw [t3 _ (by omega)]
        show rl_G X _ _ _ (.ref _ :: _) _ _ _ _
        refine o_getf hC (fX2_109 hC rfl) dX2_isFirstOfGroup_13 (by repeat (first | with_reducible assumption | (rw [rl_u_s]; done) | (rw [rl_u_s]; rfl) | rw [rl_u_n (by first | with_reducible assumption | omega)])) (by first | rfl | with_reducible assumption) ?_
        refine o_iload_n hC dX2_isFirstOfGroup_16 (by rfl) ?_
        refine o_ialdN (t0 := 0) (k := c4) hC rfl dX2_isFirstOfGroup_17 g2 (by omega) (by decide) ?_
        refine o_aload_n hC dX2_isFirstOfGroup_18 (by rfl) ?_
        refine o_getf hC (fX2_106 hC rfl) dX2_isFirstOfGroup_19 (by repeat (first | with_reducible assumption | (rw [rl_u_s]; done) | (rw [rl_u_s]; rfl) | rw [rl_u_n (by first | with_reducible assumption | omega)])) (by first | rfl | with_reducible assumption) ?_
        refine o_iload_n hC dX2_isFirstOfGroup_22 (by rfl) ?_
        refine o_aaldN (t0 := 3) hC rfl dX2_isFirstOfGroup_23 (by repeat (first | with_reducible assumption | (rw [rl_u_s]; done) | (rw [rl_u_s]; rfl) | rw [rl_u_n (by first | with_reducible assumption | omega)])) (by omega) (by decide) ?_
        rw [t3 _ (by omega)]
        show rl_G X _ _ _ (.ref _ :: _) _ _ _ _
        refine o_getf hC (fX2_109 hC rfl) dX2_isFirstOfGroup_24 (by repeat (first | with_reducible assumption | (rw [rl_u_s]; done) | (rw [rl_u_s]; rfl) | rw [rl_u_n (by first | with_reducible assumption | omega)])) (by first | rfl | with_reducible assumption) ?_
        refine o_iload_n hC dX2_isFirstOfGroup_27 (by rfl) ?_
        refine o_ialdN (t0 := 0) (k := c4) hC rfl dX2_isFirstOfGroup_28 e2 (by omega) (by decide) ?_
        refine o_icmp_ne (tgt := 34) hC dX2_isFirstOfGroup_29 (by decide) (fun c_29 => ?_) (fun c_29 => ?_)
        · refine o_iinc hC dX2_isFirstOfGroup_34 (by rfl) (rl_inc _) (Nat.le_of_ble_eq_true rfl) ?_
          refine o_goto (tgt := 2) hC dX2_isFirstOfGroup_37 (by decide) ?_
          exact ih (u + 1) (by omega) (by rw [he, ffr, if_neg (by rw [eu, et]; exact c_29)])
        · refine o_iconst (v := nI 0) hC dX2_isFirstOfGroup_32 (by decide +kernel) ?_
          refine o_zret hC hB dX2_isFirstOfGroup_33 (by first | rfl | decide +kernel) (Nat.le_of_ble_eq_true rfl) (Nat.le_of_ble_eq_true rfl) ?_
          exact ⟨_, rfl, rfl, rfl, by rw [he, show ffr tb c4 t (m + 1) u = false from if_pos (eu.trans (c_29.trans et.symm))]; rfl⟩
  show rl_G X (rl_e D ids H0) 0 [some (.ref a1), some (.int (nI t)), some (.int (nI c4)), none] [] h n 0 0
  refine o_iconst (v := nI 0) hC dX2_isFirstOfGroup_0 (by decide +kernel) ?_
  refine o_istore_n hC dX2_isFirstOfGroup_1 (Nat.le_of_ble_eq_true rfl) ?_
  exact loop t 0 (by omega) rfl

set_option maxHeartbeats 4000000 in
set_option maxRecDepth 100000 in
theorem cp_X2_gatherGroup (l : Launch) (D : va_G) (ids : Nat → ClassId) (H0 : Heap) (h : rl_H) (n : Nat) (o so a1 wd1 t c4 : Nat) (gp : Nat → Option Nat) (P1 : Nat → Nat) (S1 : tb_S) (tb : List arow) (ho : op_sh ids h o so gp) (hi0 : tb_at ids h a1 tb.length wd1 P1 S1) (hrow1 : ∀ j : Nat, j < tb.length → crw S1 (P1 j) wd1 = ark tb j) (tl80 : tb.length ≤ 80) (hoi : o + 22 ≤ a1 ∨ a1 + 402 ≤ o) (ht : t < tb.length) (h4 : c4 < wd1) : rl_Met l (rl_e D ids H0) rl_BW rl_Ns yX2_gatherGroup cX2_gatherGroup 6 (some .int) ({ frames := 0, cells := 0, slots := 0, locals := 0 }) [.ref o, .ref a1, .int (nI t), .int (nI c4)] h n (fun v h' n' => v = some (.int (nI (fgp tb c4 t).length)) ∧ n' = n ∧ ∃ gp' : Nat → Option Nat, op_sh ids h' o so gp' ∧ cgr gp' a1 wd1 S1 (fgp tb c4 t) ∧ rl_fr h h' (o + 8) (o + 9)) := by
  obtain ⟨-, -, -, -, -, tz⟩ := id hi0
  refine rl_Met.of (by decide +kernel) (Nat.le_of_ble_eq_true rfl) ?_
  intro X hC hB
  have et : acg (ark tb t) c4 = S1.1 (P1 t) c4 := by
    show (ark tb t).1.getD c4 0 = _
    rw [← hrow1 t ht, rsg_get h4]
  have loop : ∀ (m u : Nat) (g : List arow) (h1 : rl_H) (gp1 : Nat → Option Nat), u + m = tb.length → t ≤ u → g.length ≤ u → fgp tb c4 t = g ++ (tb.drop u).filter (fpr tb c4 t) → op_sh ids h1 o so gp1 → cgr gp1 a1 wd1 S1 g → rl_fr h h1 (o + 8) (o + 9) → rl_G X (rl_e D ids H0) 6 [some (.ref o), some (.ref a1), some (.int (nI t)), some (.int (nI c4)), some (.int (nI g.length)), some (.int (nI u))] [] h1 n 0 0 := by
    intro m
    induction m with
    | zero =>
      intro u g h1 gp1 hm htu hk he ho1 hg hf
      obtain ⟨t1, ⟨tf, t2, t3⟩, t4, t5, t6, t7⟩ := hi0.eqv (h' := h1) (fun q q1 q2 => hf q (by omega))
      refine o_iload hC dX2_gatherGroup_6 (by rfl) ?_
      refine o_aload_n hC dX2_gatherGroup_8 (by rfl) ?_
      refine o_getf hC (fX2_103 hC rfl) dX2_gatherGroup_9 (by repeat (first | with_reducible assumption | (rw [rl_u_s]; done) | (rw [rl_u_s]; rfl) | rw [rl_u_n (by first | with_reducible assumption | omega)])) (by first | rfl | with_reducible assumption) ?_
      refine o_icmp_ge (tgt := 70) hC dX2_gatherGroup_12 (by decide) (fun c_12 => ?_) (fun c_12 => ?_)
      · refine o_iload hC dX2_gatherGroup_70 (by rfl) ?_
        refine o_iret hC hB dX2_gatherGroup_72 (Nat.le_of_ble_eq_true rfl) (Nat.le_of_ble_eq_true rfl) ?_
        rw [List.drop_eq_nil_of_le (by omega), List.filter_nil, List.append_nil] at he
        rw [he]
        exact ⟨rfl, rfl, gp1, ho1, hg, hf⟩
      · exact absurd (nI_le (by omega) (by omega)) c_12
    | succ m ih =>
      intro u g h1 gp1 hm htu hk he ho1 hg hf
      obtain ⟨t1, ⟨tf, t2, t3⟩, t4, t5, t6, t7⟩ := hi0.eqv (h' := h1) (fun q q1 q2 => hf q (by omega))
      obtain ⟨o0, -, -, -, o8, -, -⟩ := id ho1
      have hb := t4 t (by omega)
      obtain ⟨e1, e2, e3⟩ := t5 (P1 t) hb
      have hb2 := t4 u (by omega)
      obtain ⟨g1, g2, g3⟩ := t5 (P1 u) hb2
      have eu : acg (ark tb u) c4 = S1.1 (P1 u) c4 := by
        show (ark tb u).1.getD c4 0 = _
        rw [← hrow1 u (by omega), rsg_get h4]
      rw [ark_dropp (show u < tb.length by omega)] at he
      refine o_iload hC dX2_gatherGroup_6 (by rfl) ?_
      refine o_aload_n hC dX2_gatherGroup_8 (by rfl) ?_
      refine o_getf hC (fX2_103 hC rfl) dX2_gatherGroup_9 (by repeat (first | with_reducible assumption | (rw [rl_u_s]; done) | (rw [rl_u_s]; rfl) | rw [rl_u_n (by first | with_reducible assumption | omega)])) (by first | rfl | with_reducible assumption) ?_
      refine o_icmp_ge (tgt := 70) hC dX2_gatherGroup_12 (by decide) (fun c_12 => ?_) (fun c_12 => ?_)
      · exact absurd c_12 (nI_ge (by omega) (by omega))
      · refine o_aload_n hC dX2_gatherGroup_15 (by rfl) ?_
        refine o_getf hC (fX2_106 hC rfl) dX2_gatherGroup_16 (by repeat (first | with_reducible assumption | (rw [rl_u_s]; done) | (rw [rl_u_s]; rfl) | rw [rl_u_n (by first | with_reducible assumption | omega)])) (by first | rfl | with_reducible assumption) ?_
        refine o_iload hC dX2_gatherGroup_19 (by rfl) ?_
        refine o_aaldN (t0 := 3) hC rfl dX2_gatherGroup_21 (by repeat (first | with_reducible assumption | (rw [rl_u_s]; done) | (rw [rl_u_s]; rfl) | rw [rl_u_n (by first | with_reducible assumption | omega)])) (by omega) (by decide) ?_
        rw [t3 _ (by omega)]
        show rl_G X _ _ _ (.ref _ :: _) _ _ _ _
        refine o_getf hC (fX2_109 hC rfl) dX2_gatherGroup_22 (by repeat (first | with_reducible assumption | (rw [rl_u_s]; done) | (rw [rl_u_s]; rfl) | rw [rl_u_n (by first | with_reducible assumption | omega)])) (by first | rfl | with_reducible assumption) ?_
        refine o_iload_n hC dX2_gatherGroup_25 (by rfl) ?_
        refine o_ialdN (t0 := 0) (k := c4) hC rfl dX2_gatherGroup_26 g2 (by omega) (by decide) ?_
        refine o_aload_n hC dX2_gatherGroup_27 (by rfl) ?_
        refine o_getf hC (fX2_106 hC rfl) dX2_gatherGroup_28 (by repeat (first | with_reducible assumption | (rw [rl_u_s]; done) | (rw [rl_u_s]; rfl) | rw [rl_u_n (by first | with_reducible assumption | omega)])) (by first | rfl | with_reducible assumption) ?_
        refine o_iload_n hC dX2_gatherGroup_31 (by rfl) ?_
        refine o_aaldN (t0 := 3) hC rfl dX2_gatherGroup_32 (by repeat (first | with_reducible assumption | (rw [rl_u_s]; done) | (rw [rl_u_s]; rfl) | rw [rl_u_n (by first | with_reducible assumption | omega)])) (by omega) (by decide) ?_
        rw [t3 _ (by omega)]
        show rl_G X _ _ _ (.ref _ :: _) _ _ _ _
        refine o_getf hC (fX2_109 hC rfl) dX2_gatherGroup_33 (by repeat (first | with_reducible assumption | (rw [rl_u_s]; done) | (rw [rl_u_s]; rfl) | rw [rl_u_n (by first | with_reducible assumption | omega)])) (by first | rfl | with_reducible assumption) ?_
        refine o_iload_n hC dX2_gatherGroup_36 (by rfl) ?_
        refine o_ialdN (t0 := 0) (k := c4) hC rfl dX2_gatherGroup_37 e2 (by omega) (by decide) ?_
        refine o_icmp_ne (tgt := 64) hC dX2_gatherGroup_38 (by decide) (fun c_38 => ?_) (fun c_38 => ?_)
        · refine o_iinc hC dX2_gatherGroup_64 (by rfl) (rl_inc _) (Nat.le_of_ble_eq_true rfl) ?_
          refine o_goto (tgt := 6) hC dX2_gatherGroup_67 (by decide) ?_
          have hp : ¬ fpr tb c4 t (ark tb u) = true := fun e => c_38 (by rw [← eu, ← et]; exact of_decide_eq_true e)
          rw [List.filter_cons_of_neg hp] at he
          exact ih (u + 1) g _ _ (by omega) (by omega) (by omega) he ho1 hg hf
        · refine o_iload hC dX2_gatherGroup_41 (by rfl) ?_
          refine o_iconst (v := nI 4) hC dX2_gatherGroup_43 (by decide +kernel) ?_
          refine o_icmp_ge (tgt := 61) hC dX2_gatherGroup_44 (by decide) (fun c_44 => ?_) (fun c_44 => ?_)
          · refine o_iinc hC dX2_gatherGroup_61 (by rfl) (rl_inc _) (Nat.le_of_ble_eq_true rfl) ?_
            refine o_iinc hC dX2_gatherGroup_64 (by rfl) (rl_inc _) (Nat.le_of_ble_eq_true rfl) ?_
            refine o_goto (tgt := 6) hC dX2_gatherGroup_67 (by decide) ?_
            have hp : fpr tb c4 t (ark tb u) = true := decide_eq_true (by rw [eu, et]; first | exact c_38 | exact Classical.not_not.mp c_38)
            rw [List.filter_cons_of_pos hp, ← List.singleton_append, ← List.append_assoc] at he
            have el : (g ++ [ark tb u]).length = g.length + 1 := by rw [List.length_append]; rfl
            rw [← el]
            have h4g : ¬ g.length < 4 := fun q => nI_ge q (by decide) c_44
            refine ih (u + 1) (g ++ [ark tb u]) _ _ (by omega) (by omega) (by omega) he ho1 (fun j j1 j2 => ?_) hf
            rw [ark_app_l (show j < g.length by omega)]
            exact hg j (by omega) j2
          · refine o_aload_n hC dX2_gatherGroup_47 (by rfl) ?_
            refine o_getf hC (fX2_31 hC rfl) dX2_gatherGroup_48 (by repeat (first | with_reducible assumption | (rw [rl_u_s]; done) | (rw [rl_u_s]; rfl) | rw [rl_u_n (by first | with_reducible assumption | omega)])) (by first | rfl | with_reducible assumption) ?_
            refine o_iload hC dX2_gatherGroup_51 (by rfl) ?_
            refine o_aload_n hC dX2_gatherGroup_53 (by rfl) ?_
            refine o_getf hC (fX2_106 hC rfl) dX2_gatherGroup_54 (by repeat (first | with_reducible assumption | (rw [rl_u_s]; done) | (rw [rl_u_s]; rfl) | rw [rl_u_n (by first | with_reducible assumption | omega)])) (by first | rfl | with_reducible assumption) ?_
            refine o_iload hC dX2_gatherGroup_57 (by rfl) ?_
            refine o_aaldN (t0 := 3) hC rfl dX2_gatherGroup_59 (by repeat (first | with_reducible assumption | (rw [rl_u_s]; done) | (rw [rl_u_s]; rfl) | rw [rl_u_n (by first | with_reducible assumption | omega)])) (by omega) (by decide) ?_
            rw [t3 _ (by omega)]
            show rl_G X _ _ _ (.ref _ :: _) _ _ _ _
            refine o_aastN (t0 := 3) hC rfl rfl dX2_gatherGroup_60 o8 g1 (by rcases Nat.lt_or_ge g.length 4 with q | q; exact q; exact absurd (nI_le q (by omega)) c_44) (by decide) ?_
            refine o_iinc hC dX2_gatherGroup_61 (by rfl) (rl_inc _) (Nat.le_of_ble_eq_true rfl) ?_
            refine o_iinc hC dX2_gatherGroup_64 (by rfl) (rl_inc _) (Nat.le_of_ble_eq_true rfl) ?_
            refine o_goto (tgt := 6) hC dX2_gatherGroup_67 (by decide) ?_
            have hp : fpr tb c4 t (ark tb u) = true := decide_eq_true (by rw [eu, et]; first | exact c_38 | exact Classical.not_not.mp c_38)
            rw [List.filter_cons_of_pos hp, ← List.singleton_append, ← List.append_assoc] at he
            have el : (g ++ [ark tb u]).length = g.length + 1 := by rw [List.length_append]; rfl
            rw [← el]
            refine ih (u + 1) (g ++ [ark tb u]) _ _ (by omega) (by omega) (by omega) he (ho1.gr rl_u_s (fun q q1 q2 q3 => rl_u_n q3)) (fun j j1 j2 => ?_) (fun q hq => by rw [rl_u_n (by omega)]; exact hf q hq)
            unfold va_up
            by_cases q : j = g.length
            · rw [if_pos q, q, ark_app_r]
              exact ⟨P1 u, hb2, rfl, hrow1 u (by omega)⟩
            · rw [if_neg q, ark_app_l (show j < g.length by omega)]
              exact hg j (by omega) j2
  show rl_G X (rl_e D ids H0) 0 [some (.ref o), some (.ref a1), some (.int (nI t)), some (.int (nI c4)), none, none] [] h n 0 0
  refine o_iconst (v := nI 0) hC dX2_gatherGroup_0 (by decide +kernel) ?_
  refine o_istore hC dX2_gatherGroup_1 (Nat.le_of_ble_eq_true rfl) ?_
  refine o_iload_n hC dX2_gatherGroup_3 (by rfl) ?_
  refine o_istore hC dX2_gatherGroup_4 (Nat.le_of_ble_eq_true rfl) ?_
  exact loop (tb.length - t) t [] h gp (by omega) (Nat.le_refl _) (Nat.zero_le _) rfl ho (fun j j1 _ => absurd j1 (Nat.not_lt_zero j)) rl_fr.rf

set_option maxHeartbeats 4000000 in
set_option maxRecDepth 100000 in
theorem cp_X2_turnGroup (l : Launch) (D : va_G) (ids : Nat → ClassId) (H0 : Heap) (h : rl_H) (n : Nat) (o so a1 sz1 wd1 : Nat) (gp : Nat → Option Nat) (P1 : Nat → Nat) (S1 : tb_S) (g : List arow) (ho : op_sh ids h o so gp) (hi : tb_at ids h a1 sz1 wd1 P1 S1) (hoi : o + 22 ≤ a1 ∨ a1 + 402 ≤ o) (hk4 : g.length ≤ 4) (hg : cgr gp a1 wd1 S1 g) (hgo : ∀ r ∈ g, wok r.2) : rl_Met l (rl_e D ids H0) rl_BW rl_Ns yX2_turnGroup cX2_turnGroup 3 (some .boolean) ({ frames := 3, cells := 0, slots := 0, locals := 81 }) [.ref o, .int (nI g.length)] h n (fun v h' n' => ∃ x : Int32, v = some (.int x) ∧ n' = n ∧ op_sh ids h' o so gp ∧ rl_fr h h' o (o + 22) ∧ ((x = nI 1 ∧ ∃ ns : List (List tT), fnn g = some ns ∧ (1 < g.length → ∀ i : Nat, i < g.length → wat ids h' (o + 10 + 3 * i) (ns.getD i []))) ∨ (x = nI 0 ∧ fnn g = none))) := by
  refine rl_Met.of (by decide +kernel) (Nat.le_of_ble_eq_true rfl) ?_
  intro X hC hB
  have loop : 1 < g.length → ∀ (m j : Nat) (h1 : rl_H) (ns : List (List tT)), j + m = g.length → ns.length = j → fnf g g.length 0 [] = fnf g m j ns → op_sh ids h1 o so gp → (∀ i : Nat, i < ns.length → wat ids h1 (o + 10 + 3 * i) (ns.getD i [])) → rl_fr h h1 o (o + 22) → rl_G X (rl_e D ids H0) 2 [some (.ref o), some (.int (nI g.length)), some (.int (nI j))] [] h1 n 0 0 := by
    intro h1k m
    induction m with
    | zero =>
      intro j h1 ns hm hns he ho1 hw hf
      refine o_iload_n hC dX2_turnGroup_2 (by rfl) ?_
      refine o_iload_n hC dX2_turnGroup_3 (by rfl) ?_
      refine o_icmp_ge (tgt := 45) hC dX2_turnGroup_4 (by decide) (fun c_4 => ?_) (fun c_4 => ?_)
      · refine o_iconst (v := nI 1) hC dX2_turnGroup_45 (by decide +kernel) ?_
        refine o_zret hC hB dX2_turnGroup_46 (by first | rfl | decide +kernel) (Nat.le_of_ble_eq_true rfl) (Nat.le_of_ble_eq_true rfl) ?_
        exact ⟨_, rfl, rfl, ho1, hf, Or.inl ⟨rfl, ns, by unfold fnn; rw [if_pos h1k, he]; rfl, fun _ i hi => hw i (by omega)⟩⟩
      · exact absurd (nI_le (by omega) (by omega)) c_4
    | succ m ih =>
      intro j h1 ns hm hns he ho1 hw hf
      obtain ⟨o0, ⟨ds, od⟩, ⟨mf0, mg0, mk0, om⟩, ⟨tp, o7, o7b⟩, o8, ⟨kc, o9⟩, ot⟩ := id ho1
      obtain ⟨i, hi80, hgj, hgr⟩ := hg j (by omega) (by omega)
      obtain ⟨e1, e2, e3⟩ := (hi.eqv (h' := h1) (fun q q1 q2 => hf q (by omega))).2.2.2.1 i hi80
      obtain ⟨wf, wg, wk, tw⟩ := ot j (by omega)
      have egr : tls (S1.2.1 i) (S1.2.2.1 i) (S1.2.2.2 i) = (ark g j).2 := congrArg Prod.snd hgr
      have hwk : wok (ark g j).2 := hgo _ (by rw [ark_at (show j < g.length by omega)]; exact List.getElem_mem _)
      refine o_iload_n hC dX2_turnGroup_2 (by rfl) ?_
      refine o_iload_n hC dX2_turnGroup_3 (by rfl) ?_
      refine o_icmp_ge (tgt := 45) hC dX2_turnGroup_4 (by decide) (fun c_4 => ?_) (fun c_4 => ?_)
      · first | exact absurd c_4 (nI_ge (by omega) (by omega)) | exact absurd c_9 (nI_ge (by omega) (by omega))
      · refine o_iload_n hC dX2_turnGroup_7 (by rfl) ?_
        refine o_iconst (v := nI 1) hC dX2_turnGroup_8 (by decide +kernel) ?_
        refine o_icmp_le (tgt := 45) hC dX2_turnGroup_9 (by decide) (fun c_9 => ?_) (fun c_9 => ?_)
        · first | exact absurd c_4 (nI_ge (by omega) (by omega)) | exact absurd c_9 (nI_ge (by omega) (by omega))
        · refine o_aload_n hC dX2_turnGroup_12 (by rfl) ?_
          refine o_getf hC (fX2_12 hC rfl) dX2_turnGroup_13 (by repeat (first | with_reducible assumption | (rw [rl_u_s]; done) | (rw [rl_u_s]; rfl) | rw [rl_u_n (by first | with_reducible assumption | omega)])) (by first | rfl | with_reducible assumption) ?_
          refine o_aload_n hC dX2_turnGroup_16 (by rfl) ?_
          refine o_getf hC (fX2_31 hC rfl) dX2_turnGroup_17 (by repeat (first | with_reducible assumption | (rw [rl_u_s]; done) | (rw [rl_u_s]; rfl) | rw [rl_u_n (by first | with_reducible assumption | omega)])) (by first | rfl | with_reducible assumption) ?_
          refine o_iload_n hC dX2_turnGroup_20 (by rfl) ?_
          refine o_aaldN (t0 := 3) hC rfl dX2_turnGroup_21 o8 (by omega) (by decide) ?_
          rw [hgj]
          show rl_G X _ _ _ (.ref _ :: _) _ _ _ _
          refine o_getf hC (fX2_116 hC rfl) dX2_turnGroup_22 (by repeat (first | with_reducible assumption | (rw [rl_u_s]; done) | (rw [rl_u_s]; rfl) | rw [rl_u_n (by first | with_reducible assumption | omega)])) (by first | rfl | with_reducible assumption) ?_
          refine o_aload_n hC dX2_turnGroup_25 (by rfl) ?_
          refine o_getf hC (fX2_25 hC rfl) dX2_turnGroup_26 (by repeat (first | with_reducible assumption | (rw [rl_u_s]; done) | (rw [rl_u_s]; rfl) | rw [rl_u_n (by first | with_reducible assumption | omega)])) (by first | rfl | with_reducible assumption) ?_
          refine o_iload_n hC dX2_turnGroup_29 (by rfl) ?_
          refine o_aaldN (t0 := 4) hC rfl dX2_turnGroup_30 o7 (by omega) (by decide) ?_
          rw [o7b _ (by omega)]
          show rl_G X _ _ _ (.ref _ :: _) _ _ _ _
          refine o_callV2 hC rl_BW_good rl_Ns_nw (by exact hB.2.2.2.2.2) YX0_not IX0_not VX0_not (mX2_151 hC) (by rw [hB.1]; exact ct_X0_not l D ids H0 _ _ (o + 1) (a1 + 2 + 5 * i + 2) (o + 10 + 3 * j) _ _ ds _ _ _ _ od e3 tw (by omega) (by omega) (by omega)) (by exact od.1) rfl rfl (Nat.le_of_ble_eq_true rfl) (by rw [hB.2.1]; first | exact Nat.le_of_ble_eq_true rfl | (dsimp only; omega)) (by rw [hB.2.1]; first | exact Nat.le_of_ble_eq_true rfl | (dsimp only; omega)) (by rw [hB.2.1]; first | exact Nat.le_of_ble_eq_true rfl | (dsimp only; omega)) (by rw [hB.2.1]; first | exact Nat.le_of_ble_eq_true rfl | (dsimp only; omega)) dX2_turnGroup_31 (fun v h_31 n_31 p_31 => ?_)
          obtain ⟨x, rfl, rfl, hx1, r1, r2, r3⟩ := p_31
          have w0 := no_out egr hwk.2.1 hx1 r2
          have ho2 : op_sh ids h_31 o so gp := ho1.tu (by omega) ⟨_, r1⟩ ⟨_, _, _, r2⟩ (fun q q1 q2 => r3 q (by omega) (by omega))
          have hf2 : rl_fr h h_31 o (o + 22) := fun q hq => (r3 q (by omega) (by omega)).trans (hf q hq)
          try dsimp only [Option.toList, List.cons_append, List.nil_append]
          refine o_if_ne (tgt := 39) hC dX2_turnGroup_34 (by decide) (fun c_34 => ?_) (fun c_34 => ?_)
          · refine o_iinc hC dX2_turnGroup_39 (by rfl) (rl_inc _) (Nat.le_of_ble_eq_true rfl) ?_
            refine o_goto (tgt := 2) hC dX2_turnGroup_42 (by decide) ?_
            rcases w0 with ⟨W, z1, z2, z3⟩ | ⟨-, z2⟩
            rotate_left
            · exact absurd z2 c_34
            refine ih (j + 1) _ (ns ++ [W]) (by omega) (by rw [List.length_append, hns]; rfl) (by rw [he, fnf, z1]; rfl) ho2 (fun i hi => ?_) hf2
            rw [List.length_append] at hi
            by_cases q : i = ns.length
            · rw [q, getD_app_r, hns]
              exact z3
            · have hi2 : i < ns.length + 1 := hi
              rw [getD_app_l (by omega)]
              exact (hw i (by omega)).eqv (fun q a b => r3 q (by omega) (by omega))
          · refine o_iconst (v := nI 0) hC dX2_turnGroup_37 (by decide +kernel) ?_
            refine o_zret hC hB dX2_turnGroup_38 (by first | rfl | decide +kernel) (Nat.le_of_ble_eq_true rfl) (Nat.le_of_ble_eq_true rfl) ?_
            rcases w0 with ⟨W, z1, z2, -⟩ | ⟨z1, z2⟩
            · exact absurd (c_34.symm.trans z2) (by decide +kernel)
            · exact ⟨_, rfl, rfl, ho2, hf2, Or.inr ⟨rfl, by unfold fnn; rw [if_pos h1k, he, fnf, z1]; rfl⟩⟩
  show rl_G X (rl_e D ids H0) 0 [some (.ref o), some (.int (nI g.length)), none] [] h n 0 0
  refine o_iconst (v := nI 0) hC dX2_turnGroup_0 (by decide +kernel) ?_
  refine o_istore_n hC dX2_turnGroup_1 (Nat.le_of_ble_eq_true rfl) ?_
  rcases Nat.lt_or_ge 1 g.length with h1k | h1k
  · exact loop h1k g.length 0 h [] (by omega) rfl rfl ho (fun i hi => absurd hi (Nat.not_lt_zero i)) rl_fr.rf
  · refine o_iload_n hC dX2_turnGroup_2 (by rfl) ?_
    refine o_iload_n hC dX2_turnGroup_3 (by rfl) ?_
    refine o_icmp_ge (tgt := 45) hC dX2_turnGroup_4 (by decide) (fun c_4 => ?_) (fun c_4 => ?_)
    · refine o_iconst (v := nI 1) hC dX2_turnGroup_45 (by decide +kernel) ?_
      refine o_zret hC hB dX2_turnGroup_46 (by first | rfl | decide +kernel) (Nat.le_of_ble_eq_true rfl) (Nat.le_of_ble_eq_true rfl) ?_
      exact ⟨_, rfl, rfl, ho, rl_fr.rf, Or.inl ⟨rfl, [], by unfold fnn; rw [if_neg (by omega)], fun q => absurd q (by omega)⟩⟩
    · refine o_iload_n hC dX2_turnGroup_7 (by rfl) ?_
      refine o_iconst (v := nI 1) hC dX2_turnGroup_8 (by decide +kernel) ?_
      refine o_icmp_le (tgt := 45) hC dX2_turnGroup_9 (by decide) (fun c_9 => ?_) (fun c_9 => ?_)
      · refine o_iconst (v := nI 1) hC dX2_turnGroup_45 (by decide +kernel) ?_
        refine o_zret hC hB dX2_turnGroup_46 (by first | rfl | decide +kernel) (Nat.le_of_ble_eq_true rfl) (Nat.le_of_ble_eq_true rfl) ?_
        exact ⟨_, rfl, rfl, ho, rl_fr.rf, Or.inl ⟨rfl, [], by unfold fnn; rw [if_neg (by omega)], fun q => absurd q (by omega)⟩⟩
      · exact absurd (nI_le (by omega) (by decide)) c_9

set_option maxHeartbeats 4000000 in
set_option maxRecDepth 100000 in
theorem cp_X2_makeWaysOfSet (l : Launch) (D : va_G) (ids : Nat → ClassId) (H0 : Heap) (h : rl_H) (n : Nat) (o so a1 sz1 wd1 : Nat) (gp : Nat → Option Nat) (P1 : Nat → Nat) (S1 : tb_S) (g : List arow) (s : Nat) (ns : List (List tT)) (ho : op_sh ids h o so gp) (hi : tb_at ids h a1 sz1 wd1 P1 S1) (hoi : o + 22 ≤ a1 ∨ a1 + 402 ≤ o) (hk4 : g.length ≤ 4) (hg : cgr gp a1 wd1 S1 g) (hgo : ∀ r ∈ g, wok r.2) (hns : ∀ i : Nat, i < g.length → inS s i = false → wat ids h (o + 10 + 3 * i) (ns.getD i [])) : rl_Met l (rl_e D ids H0) rl_BW rl_Ns yX2_makeWaysOfSet cX2_makeWaysOfSet 5 (some .boolean) ({ frames := 3, cells := 0, slots := 0, locals := 72 }) [.ref o, .int (nI s), .int (nI g.length)] h n (fun v h' n' => ∃ x : Int32, v = some (.int x) ∧ n' = n ∧ op_sh ids h' o so gp ∧ rl_fr h h' (o + 1) (o + 7) ∧ wres ids h' (o + 4) (fwf s g ns g.length 0 [(0, 0)]) x) := by
  obtain ⟨o0, -, ⟨mf0, mg0, mk0, om⟩, -, -, -, -⟩ := id ho
  refine rl_Met.of (by decide +kernel) (Nat.le_of_ble_eq_true rfl) ?_
  intro X hC hB
  have loop : ∀ (m j : Nat) (W : List tT) (o4 : Option Value) (h1 : rl_H), j + m = g.length → fwf s g ns g.length 0 [(0, 0)] = fwf s g ns m j W → op_sh ids h1 o so gp → wat ids h1 (o + 4) W → rl_fr h h1 (o + 1) (o + 7) → rl_G X (rl_e D ids H0) 9 [some (.ref o), some (.int (nI s)), some (.int (nI g.length)), some (.int (nI j)), o4] [] h1 n 0 0 := by
    intro m
    induction m with
    | zero =>
      intro j W o4 h1 hm he ho1 hW hf
      refine o_iload_n hC dX2_makeWaysOfSet_9 (by rfl) ?_
      refine o_iload_n hC dX2_makeWaysOfSet_10 (by rfl) ?_
      refine o_icmp_ge (tgt := 70) hC dX2_makeWaysOfSet_11 (by decide) (fun c_11 => ?_) (fun c_11 => ?_)
      · refine o_iconst (v := nI 1) hC dX2_makeWaysOfSet_70 (by decide +kernel) ?_
        refine o_zret hC hB dX2_makeWaysOfSet_71 (by first | rfl | decide +kernel) (Nat.le_of_ble_eq_true rfl) (Nat.le_of_ble_eq_true rfl) ?_
        exact ⟨_, rfl, rfl, ho1, hf, Or.inl ⟨W, by rw [he]; rfl, rfl, hW⟩⟩
      · exact absurd (nI_le (by omega) (by omega)) c_11
    | succ m ih =>
      intro j W o4 h1 hm he ho1 hW hf
      obtain ⟨o0, ⟨ds, od⟩, ⟨mf0, mg0, mk0, om⟩, ⟨tp, o7, o7b⟩, o8, ⟨kc, o9⟩, ot⟩ := id ho1
      obtain ⟨i, hi80, hgj, hgr⟩ := hg j (by omega) (by omega)
      obtain ⟨e1, e2, e3⟩ := (hi.eqv (h' := h1) (fun q q1 q2 => hf q (by omega))).2.2.2.1 i hi80
      obtain ⟨wf, wg, wk, tw⟩ := ot j (by omega)
      have egr : tls (S1.2.1 i) (S1.2.2.1 i) (S1.2.2.2 i) = (ark g j).2 := congrArg Prod.snd hgr
      have hwk : wok (ark g j).2 := hgo _ (by rw [ark_at (show j < g.length by omega)]; exact List.getElem_mem _)
      obtain ⟨mf, mg, hm4, hm5⟩ := id hW
      refine o_iload_n hC dX2_makeWaysOfSet_9 (by rfl) ?_
      refine o_iload_n hC dX2_makeWaysOfSet_10 (by rfl) ?_
      refine o_icmp_ge (tgt := 70) hC dX2_makeWaysOfSet_11 (by decide) (fun c_11 => ?_) (fun c_11 => ?_)
      · exact absurd c_11 (nI_ge (by omega) (by omega))
      · refine o_iload_n hC dX2_makeWaysOfSet_14 (by rfl) ?_
        refine o_iload_n hC dX2_makeWaysOfSet_15 (by rfl) ?_
        refine o_ishr hC dX2_makeWaysOfSet_16 ?_
        refine o_iconst (v := nI 1) hC dX2_makeWaysOfSet_17 (by decide +kernel) ?_
        refine o_iand hC dX2_makeWaysOfSet_18 ?_
        refine o_if_eq (tgt := 34) hC dX2_makeWaysOfSet_19 (by decide) (fun c_19 => ?_) (fun c_19 => ?_)
        · have hin : inS s j = false := by
            unfold inS
            rw [decide_eq_true (show fbt s j = 0 from c_19)]
            rfl
          obtain ⟨tf9, tg9, tw9, hnx⟩ := hns j (by omega) hin
          have hnl := tw9.2.2.2
          replace tw9 := tw9.kept hf (by omega)
          refine o_aload_n hC dX2_makeWaysOfSet_34 (by rfl) ?_
          refine o_getf hC (fX2_25 hC rfl) dX2_makeWaysOfSet_35 (by repeat (first | with_reducible assumption | (rw [rl_u_s]; done) | (rw [rl_u_s]; rfl) | rw [rl_u_n (by first | with_reducible assumption | omega)])) (by first | rfl | with_reducible assumption) ?_
          refine o_iload_n hC dX2_makeWaysOfSet_38 (by rfl) ?_
          refine o_aaldN (t0 := 4) hC rfl dX2_makeWaysOfSet_39 o7 (by omega) (by decide) ?_
          rw [o7b _ (by omega)]
          show rl_G X _ _ _ (.ref _ :: _) _ _ _ _
          refine o_astore hC dX2_makeWaysOfSet_40 (Nat.le_of_ble_eq_true rfl) ?_
          refine o_aload_n hC dX2_makeWaysOfSet_42 (by rfl) ?_
          refine o_getf hC (fX2_12 hC rfl) dX2_makeWaysOfSet_43 (by repeat (first | with_reducible assumption | (rw [rl_u_s]; done) | (rw [rl_u_s]; rfl) | rw [rl_u_n (by first | with_reducible assumption | omega)])) (by first | rfl | with_reducible assumption) ?_
          refine o_aload_n hC dX2_makeWaysOfSet_46 (by rfl) ?_
          refine o_getf hC (fX2_21 hC rfl) dX2_makeWaysOfSet_47 (by repeat (first | with_reducible assumption | (rw [rl_u_s]; done) | (rw [rl_u_s]; rfl) | rw [rl_u_n (by first | with_reducible assumption | omega)])) (by first | rfl | with_reducible assumption) ?_
          refine o_aload hC dX2_makeWaysOfSet_50 (by rfl) ?_
          refine o_aload_n hC dX2_makeWaysOfSet_52 (by rfl) ?_
          refine o_getf hC (fX2_21 hC rfl) dX2_makeWaysOfSet_53 (by repeat (first | with_reducible assumption | (rw [rl_u_s]; done) | (rw [rl_u_s]; rfl) | rw [rl_u_n (by first | with_reducible assumption | omega)])) (by first | rfl | with_reducible assumption) ?_
          refine o_callV3 hC rl_BW_good rl_Ns_nw (by exact hB.2.2.2.2.2) YX0_both IX0_both VX0_both (mX2_139 hC) (by rw [hB.1]; exact ct_X0_both l D ids H0 _ _ (o + 1) (o + 4) _ (o + 4) _ _ _ _ _ _ _ _ _ _ od hm4 tw9 hm4 (by omega) (by omega) (by omega)) (by exact od.1) rfl rfl (Nat.le_of_ble_eq_true rfl) (by rw [hB.2.1]; first | exact Nat.le_of_ble_eq_true rfl | (dsimp only; omega)) (by rw [hB.2.1]; first | exact Nat.le_of_ble_eq_true rfl | (dsimp only; omega)) (by rw [hB.2.1]; first | exact Nat.le_of_ble_eq_true rfl | (dsimp only; omega)) (by rw [hB.2.1]; first | exact Nat.le_of_ble_eq_true rfl | (dsimp only; omega)) dX2_makeWaysOfSet_56 (fun v h_56 n_56 p_56 => ?_)
          obtain ⟨x, rfl, rfl, s1⟩ := p_56
          have s2 := s1.f2
          have ho2 : op_sh ids h_56 o so gp := ho1.mk ⟨_, s1.1⟩ (s1.ws hm4 (by omega)) (fun q q1 q2 q3 => s2 q (by omega) (by omega))
          have hf2 : rl_fr h h_56 (o + 1) (o + 7) := fun q hq => (s2 q (by omega) (by omega)).trans (hf q hq)
          have w0 : wres ids h_56 (o + 4) (wst (tbo W (fnw s g ns j))) x := by
            unfold fnw
            rw [hin]
            exact bo_out hm5 hnx hm4.2.2.2 hnl s1
          try dsimp only [Option.toList, List.cons_append, List.nil_append]
          refine o_if_ne (tgt := 64) hC dX2_makeWaysOfSet_59 (by decide) (fun c_59 => ?_) (fun c_59 => ?_)
          · refine o_iinc hC dX2_makeWaysOfSet_64 (by rfl) (rl_inc _) (Nat.le_of_ble_eq_true rfl) ?_
            refine o_goto (tgt := 9) hC dX2_makeWaysOfSet_67 (by decide) ?_
            rcases w0 with ⟨W2, z1, z2, z3⟩ | ⟨-, z2⟩
            rotate_left
            · exact absurd z2 c_59
            exact ih (j + 1) W2 _ _ (by omega) (by rw [he, fwf, z1]; rfl) ho2 z3 hf2
          · refine o_iconst (v := nI 0) hC dX2_makeWaysOfSet_62 (by decide +kernel) ?_
            refine o_zret hC hB dX2_makeWaysOfSet_63 (by first | rfl | decide +kernel) (Nat.le_of_ble_eq_true rfl) (Nat.le_of_ble_eq_true rfl) ?_
            rcases w0 with ⟨W2, z1, z2, -⟩ | ⟨z1, z2⟩
            · exact absurd (c_59.symm.trans z2) (by decide +kernel)
            · exact ⟨_, rfl, rfl, ho2, hf2, Or.inr ⟨by rw [he, fwf, z1]; rfl, rfl⟩⟩
        · have hin : inS s j = true := by
            unfold inS
            rw [decide_eq_false (show ¬ fbt s j = 0 from c_19)]
            rfl
          have hnx := egr
          have hnl := e3.2.2.2
          refine o_aload_n hC dX2_makeWaysOfSet_22 (by rfl) ?_
          refine o_getf hC (fX2_31 hC rfl) dX2_makeWaysOfSet_23 (by repeat (first | with_reducible assumption | (rw [rl_u_s]; done) | (rw [rl_u_s]; rfl) | rw [rl_u_n (by first | with_reducible assumption | omega)])) (by first | rfl | with_reducible assumption) ?_
          refine o_iload_n hC dX2_makeWaysOfSet_26 (by rfl) ?_
          refine o_aaldN (t0 := 3) hC rfl dX2_makeWaysOfSet_27 o8 (by omega) (by decide) ?_
          rw [hgj]
          show rl_G X _ _ _ (.ref _ :: _) _ _ _ _
          refine o_getf hC (fX2_116 hC rfl) dX2_makeWaysOfSet_28 (by repeat (first | with_reducible assumption | (rw [rl_u_s]; done) | (rw [rl_u_s]; rfl) | rw [rl_u_n (by first | with_reducible assumption | omega)])) (by first | rfl | with_reducible assumption) ?_
          refine o_goto (tgt := 40) hC dX2_makeWaysOfSet_31 (by decide) ?_
          refine o_astore hC dX2_makeWaysOfSet_40 (Nat.le_of_ble_eq_true rfl) ?_
          refine o_aload_n hC dX2_makeWaysOfSet_42 (by rfl) ?_
          refine o_getf hC (fX2_12 hC rfl) dX2_makeWaysOfSet_43 (by repeat (first | with_reducible assumption | (rw [rl_u_s]; done) | (rw [rl_u_s]; rfl) | rw [rl_u_n (by first | with_reducible assumption | omega)])) (by first | rfl | with_reducible assumption) ?_
          refine o_aload_n hC dX2_makeWaysOfSet_46 (by rfl) ?_
          refine o_getf hC (fX2_21 hC rfl) dX2_makeWaysOfSet_47 (by repeat (first | with_reducible assumption | (rw [rl_u_s]; done) | (rw [rl_u_s]; rfl) | rw [rl_u_n (by first | with_reducible assumption | omega)])) (by first | rfl | with_reducible assumption) ?_
          refine o_aload hC dX2_makeWaysOfSet_50 (by rfl) ?_
          refine o_aload_n hC dX2_makeWaysOfSet_52 (by rfl) ?_
          refine o_getf hC (fX2_21 hC rfl) dX2_makeWaysOfSet_53 (by repeat (first | with_reducible assumption | (rw [rl_u_s]; done) | (rw [rl_u_s]; rfl) | rw [rl_u_n (by first | with_reducible assumption | omega)])) (by first | rfl | with_reducible assumption) ?_
          refine o_callV3 hC rl_BW_good rl_Ns_nw (by exact hB.2.2.2.2.2) YX0_both IX0_both VX0_both (mX2_139 hC) (by rw [hB.1]; exact ct_X0_both l D ids H0 _ _ (o + 1) (o + 4) _ (o + 4) _ _ _ _ _ _ _ _ _ _ od hm4 e3 hm4 (by omega) (by omega) (by omega)) (by exact od.1) rfl rfl (Nat.le_of_ble_eq_true rfl) (by rw [hB.2.1]; first | exact Nat.le_of_ble_eq_true rfl | (dsimp only; omega)) (by rw [hB.2.1]; first | exact Nat.le_of_ble_eq_true rfl | (dsimp only; omega)) (by rw [hB.2.1]; first | exact Nat.le_of_ble_eq_true rfl | (dsimp only; omega)) (by rw [hB.2.1]; first | exact Nat.le_of_ble_eq_true rfl | (dsimp only; omega)) dX2_makeWaysOfSet_56 (fun v h_56 n_56 p_56 => ?_)
          obtain ⟨x, rfl, rfl, s1⟩ := p_56
          have s2 := s1.f2
          have ho2 : op_sh ids h_56 o so gp := ho1.mk ⟨_, s1.1⟩ (s1.ws hm4 (by omega)) (fun q q1 q2 q3 => s2 q (by omega) (by omega))
          have hf2 : rl_fr h h_56 (o + 1) (o + 7) := fun q hq => (s2 q (by omega) (by omega)).trans (hf q hq)
          have w0 : wres ids h_56 (o + 4) (wst (tbo W (fnw s g ns j))) x := by
            unfold fnw
            rw [hin]
            exact bo_out hm5 hnx hm4.2.2.2 hnl s1
          try dsimp only [Option.toList, List.cons_append, List.nil_append]
          refine o_if_ne (tgt := 64) hC dX2_makeWaysOfSet_59 (by decide) (fun c_59 => ?_) (fun c_59 => ?_)
          · refine o_iinc hC dX2_makeWaysOfSet_64 (by rfl) (rl_inc _) (Nat.le_of_ble_eq_true rfl) ?_
            refine o_goto (tgt := 9) hC dX2_makeWaysOfSet_67 (by decide) ?_
            rcases w0 with ⟨W2, z1, z2, z3⟩ | ⟨-, z2⟩
            rotate_left
            · exact absurd z2 c_59
            exact ih (j + 1) W2 _ _ (by omega) (by rw [he, fwf, z1]; rfl) ho2 z3 hf2
          · refine o_iconst (v := nI 0) hC dX2_makeWaysOfSet_62 (by decide +kernel) ?_
            refine o_zret hC hB dX2_makeWaysOfSet_63 (by first | rfl | decide +kernel) (Nat.le_of_ble_eq_true rfl) (Nat.le_of_ble_eq_true rfl) ?_
            rcases w0 with ⟨W2, z1, z2, -⟩ | ⟨z1, z2⟩
            · exact absurd (c_59.symm.trans z2) (by decide +kernel)
            · exact ⟨_, rfl, rfl, ho2, hf2, Or.inr ⟨by rw [he, fwf, z1]; rfl, rfl⟩⟩
  show rl_G X (rl_e D ids H0) 0 [some (.ref o), some (.int (nI s)), some (.int (nI g.length)), none, none] [] h n 0 0
  refine o_aload_n hC dX2_makeWaysOfSet_0 (by rfl) ?_
  refine o_getf hC (fX2_21 hC rfl) dX2_makeWaysOfSet_1 (by repeat (first | with_reducible assumption | (rw [rl_u_s]; done) | (rw [rl_u_s]; rfl) | rw [rl_u_n (by first | with_reducible assumption | omega)])) (by first | rfl | with_reducible assumption) ?_
  refine o_callV0 hC rl_BW_good rl_Ns_nw (by exact hB.2.2.2.2.2) YX6_becomeTrue IX6_becomeTrue VX6_becomeTrue (mX2_179 hC) (by rw [hB.1]; exact ct_X6_becomeTrue l D ids H0 _ _ (o + 4) _ _ _ om) (by exact om.1) rfl rfl (Nat.le_of_ble_eq_true rfl) (by rw [hB.2.1]; first | exact Nat.le_of_ble_eq_true rfl | (dsimp only; omega)) (by rw [hB.2.1]; first | exact Nat.le_of_ble_eq_true rfl | (dsimp only; omega)) (by rw [hB.2.1]; first | exact Nat.le_of_ble_eq_true rfl | (dsimp only; omega)) (by rw [hB.2.1]; first | exact Nat.le_of_ble_eq_true rfl | (dsimp only; omega)) dX2_makeWaysOfSet_4 (fun v h_4 n_4 p_4 => ?_)
  obtain ⟨rfl, rfl, p1, p2⟩ := p_4
  have wT : wat ids h_4 (o + 4) [(0, 0)] := by
    have := p1.wat
    have e9 : tls (vp_updL mf0 0 0) (vp_updL mg0 0 0) 1 = [((0 : Int64), (0 : Int64))] := by
      show [(vp_updL mf0 0 0 0, vp_updL mg0 0 0 0)] = _
      rw [up_at, up_at]
    rw [e9] at this
    exact this
  try dsimp only [Option.toList, List.cons_append, List.nil_append]
  refine o_iconst (v := nI 0) hC dX2_makeWaysOfSet_7 (by decide +kernel) ?_
  refine o_istore_n hC dX2_makeWaysOfSet_8 (Nat.le_of_ble_eq_true rfl) ?_
  exact loop g.length 0 [(0, 0)] _ _ (by omega) rfl (ho.mk (ho.2.1.eqv (fun q q1 q2 => p2 q (by omega))) ⟨_, _, _, p1⟩ (fun q q1 q2 q3 => p2 q (by omega))) wT (p2.wd (by omega) (by omega))

set_option maxHeartbeats 4000000 in
set_option maxRecDepth 100000 in
theorem cp_X2_foldedNumber (l : Launch) (D : va_G) (ids : Nat → ClassId) (H0 : Heap) (h : rl_H) (n : Nat) (o so a1 sz1 wd1 : Nat) (gp : Nat → Option Nat) (P1 : Nat → Nat) (S1 : tb_S) (g : List arow) (s nd c5 kd : Nat) (f0 f1 f2 f3 f4 f7 f8 : Int32) (ho : op_sh ids h o so gp) (hi : tb_at ids h a1 sz1 wd1 P1 S1) (hoi : o + 22 ≤ a1 ∨ a1 + 402 ≤ o) (hk4 : g.length ≤ 4) (hg : cgr gp a1 wd1 S1 g) (hgo : ∀ r ∈ g, wok r.2) (hnd : h nd = some (.inr (1, [.int f0, .int f1, .int f2, .int f3, .int f4, .int (nI c5), .int (nI kd), .int f7, .int f8]))) (h5 : c5 < wd1) (hw16 : wd1 ≤ 6) (h6 : kd ≤ 3) : rl_Met l (rl_e D ids H0) rl_BW rl_Ns yX2_foldedNumber cX2_foldedNumber 10 (some .int) ({ frames := 1, cells := 0, slots := 0, locals := 40 }) [.ref o, .ref nd, .int (nI s), .int (nI g.length)] h n (fun v h' n' => v = some (.int (fpick kd (ffn s c5 g g.length 0 (0, 0, 0, 0)))) ∧ h' = h ∧ n' = n) := by
  obtain ⟨o0, -, -, -, o8, -, -⟩ := id ho
  refine rl_Met.of (by decide +kernel) (Nat.le_of_ble_eq_true rfl) ?_
  intro X hC hB
  have loop : ∀ (m j : Nat) (st : fSt) (o9v : Option Value), j + m = g.length → st.1 ≤ j → ffn s c5 g g.length 0 (0, 0, 0, 0) = ffn s c5 g m j st → rl_G X (rl_e D ids H0) 15 [some (.ref o), some (.ref nd), some (.int (nI s)), some (.int (nI g.length)), some (.int (nI st.1)), some (.int st.2.1), some (.int st.2.2.1), some (.int st.2.2.2), some (.int (nI j)), o9v] [] h n 0 0 := by
    intro m
    induction m with
    | zero =>
      intro j st o9v hm hst he
      refine o_iload hC dX2_foldedNumber_15 (by rfl) ?_
      refine o_iload_n hC dX2_foldedNumber_17 (by rfl) ?_
      refine o_icmp_ge (tgt := 101) hC dX2_foldedNumber_18 (by decide) (fun c_18 => ?_) (fun c_18 => ?_)
      · refine o_aload_n hC dX2_foldedNumber_101 (by rfl) ?_
        refine o_getf hC (fX2_125 hC rfl) dX2_foldedNumber_102 (by repeat (first | with_reducible assumption | (rw [rl_u_s]; done) | (rw [rl_u_s]; rfl) | rw [rl_u_n (by first | with_reducible assumption | omega)])) (by first | rfl | with_reducible assumption) ?_
        rcases (show kd = 0 ∨ kd = 1 ∨ kd = 2 ∨ kd = 3 by omega) with rfl | rfl | rfl | rfl
        · refine o_tableIn (off := 27) (tgt := 132) hC dX2_foldedNumber_105 (by decide +kernel) (by decide +kernel) (by decide +kernel) (by decide) ?_
          refine o_iload hC dX2_foldedNumber_132 (by rfl) ?_
          refine o_iret hC hB dX2_foldedNumber_134 (Nat.le_of_ble_eq_true rfl) (Nat.le_of_ble_eq_true rfl) ?_
          exact ⟨by rw [he]; rfl, rfl, rfl⟩
        · refine o_tableIn (off := 30) (tgt := 135) hC dX2_foldedNumber_105 (by decide +kernel) (by decide +kernel) (by decide +kernel) (by decide) ?_
          refine o_iload hC dX2_foldedNumber_135 (by rfl) ?_
          refine o_iret hC hB dX2_foldedNumber_137 (Nat.le_of_ble_eq_true rfl) (Nat.le_of_ble_eq_true rfl) ?_
          exact ⟨by rw [he]; rfl, rfl, rfl⟩
        · refine o_tableIn (off := 33) (tgt := 138) hC dX2_foldedNumber_105 (by decide +kernel) (by decide +kernel) (by decide +kernel) (by decide) ?_
          refine o_iload hC dX2_foldedNumber_138 (by rfl) ?_
          refine o_iret hC hB dX2_foldedNumber_140 (Nat.le_of_ble_eq_true rfl) (Nat.le_of_ble_eq_true rfl) ?_
          exact ⟨by rw [he]; rfl, rfl, rfl⟩
        · refine o_tableOut (tgt := 141) hC dX2_foldedNumber_105 (by decide +kernel) (by decide) ?_
          refine o_iload hC dX2_foldedNumber_141 (by rfl) ?_
          refine o_iret hC hB dX2_foldedNumber_143 (Nat.le_of_ble_eq_true rfl) (Nat.le_of_ble_eq_true rfl) ?_
          exact ⟨by rw [he]; rfl, rfl, rfl⟩
      · exact absurd (nI_le (by omega) (by omega)) c_18
    | succ m ih =>
      intro j st o9v hm hst he
      obtain ⟨i, hi80, hgj, hgr⟩ := hg j (by omega) (by omega)
      obtain ⟨e1, e2, e3⟩ := hi.2.2.2.1 i hi80
      have ex : acg (ark g j) c5 = S1.1 i c5 := by
        show (ark g j).1.getD c5 0 = _
        rw [← hgr, rsg_get h5]
      refine o_iload hC dX2_foldedNumber_15 (by rfl) ?_
      refine o_iload_n hC dX2_foldedNumber_17 (by rfl) ?_
      refine o_icmp_ge (tgt := 101) hC dX2_foldedNumber_18 (by decide) (fun c_18 => ?_) (fun c_18 => ?_)
      · exact absurd c_18 (nI_ge (by omega) (by omega))
      · refine o_iload_n hC dX2_foldedNumber_21 (by rfl) ?_
        refine o_iload hC dX2_foldedNumber_22 (by rfl) ?_
        refine o_ishr hC dX2_foldedNumber_24 ?_
        refine o_iconst (v := nI 1) hC dX2_foldedNumber_25 (by decide +kernel) ?_
        refine o_iand hC dX2_foldedNumber_26 ?_
        refine o_if_eq (tgt := 95) hC dX2_foldedNumber_27 (by decide) (fun c_27 => ?_) (fun c_27 => ?_)
        · refine o_iinc hC dX2_foldedNumber_95 (by rfl) (rl_inc _) (Nat.le_of_ble_eq_true rfl) ?_
          refine o_goto (tgt := 15) hC dX2_foldedNumber_98 (by decide) ?_
          have hin : inS s j = false := by
            unfold inS
            rw [decide_eq_true (show fbt s j = 0 from c_27)]
            rfl
          exact ih (j + 1) st _ (by omega) (by omega) (by rw [he, ffn, hin]; rfl)
        · refine o_aload_n hC dX2_foldedNumber_30 (by rfl) ?_
          refine o_getf hC (fX2_31 hC rfl) dX2_foldedNumber_31 (by repeat (first | with_reducible assumption | (rw [rl_u_s]; done) | (rw [rl_u_s]; rfl) | rw [rl_u_n (by first | with_reducible assumption | omega)])) (by first | rfl | with_reducible assumption) ?_
          refine o_iload hC dX2_foldedNumber_34 (by rfl) ?_
          refine o_aaldN (t0 := 3) hC rfl dX2_foldedNumber_36 o8 (by omega) (by decide) ?_
          rw [hgj]
          show rl_G X _ _ _ (.ref _ :: _) _ _ _ _
          refine o_getf hC (fX2_109 hC rfl) dX2_foldedNumber_37 (by repeat (first | with_reducible assumption | (rw [rl_u_s]; done) | (rw [rl_u_s]; rfl) | rw [rl_u_n (by first | with_reducible assumption | omega)])) (by first | rfl | with_reducible assumption) ?_
          refine o_aload_n hC dX2_foldedNumber_40 (by rfl) ?_
          refine o_getf hC (fX2_122 hC rfl) dX2_foldedNumber_41 (by repeat (first | with_reducible assumption | (rw [rl_u_s]; done) | (rw [rl_u_s]; rfl) | rw [rl_u_n (by first | with_reducible assumption | omega)])) (by first | rfl | with_reducible assumption) ?_
          refine o_ialdN (t0 := 0) (k := c5) hC rfl dX2_foldedNumber_44 e2 (by omega) (by decide) ?_
          refine o_istore hC dX2_foldedNumber_45 (Nat.le_of_ble_eq_true rfl) ?_
          refine o_iload hC dX2_foldedNumber_47 (by rfl) ?_
          refine o_iload hC dX2_foldedNumber_49 (by rfl) ?_
          refine o_iadd hC dX2_foldedNumber_51 ?_
          refine o_istore hC dX2_foldedNumber_52 (Nat.le_of_ble_eq_true rfl) ?_
          refine o_iload hC dX2_foldedNumber_54 (by rfl) ?_
          refine o_if_ne (tgt := 64) hC dX2_foldedNumber_56 (by decide) (fun c_56 => ?_) (fun c_56 => ?_)
          · refine o_iload hC dX2_foldedNumber_64 (by rfl) ?_
            refine o_iload hC dX2_foldedNumber_66 (by rfl) ?_
            refine o_mmin hC (by exact hB.2.2.2.2.2) (rl_bw 491 (by decide +kernel) (by decide +kernel)) SJ9_min_7cf53 YJ9_min_7cf53.2.1 YJ9_min_7cf53.1 (by rw [hB.2.1]; first | exact Nat.le_of_ble_eq_true rfl | (dsimp only; omega)) (by rw [hB.2.1]; first | exact Nat.le_of_ble_eq_true rfl | (dsimp only; omega)) (by rw [hB.2.1]; first | exact Nat.le_of_ble_eq_true rfl | (dsimp only; omega)) (by rw [hB.2.1]; first | exact Nat.le_of_ble_eq_true rfl | (dsimp only; omega)) dX2_foldedNumber_68 ?_
            refine o_istore hC dX2_foldedNumber_71 (Nat.le_of_ble_eq_true rfl) ?_
            refine o_iload hC dX2_foldedNumber_73 (by rfl) ?_
            refine o_if_ne (tgt := 83) hC dX2_foldedNumber_75 (by decide) (fun c_75 => ?_) (fun c_75 => ?_)
            · refine o_iload hC dX2_foldedNumber_83 (by rfl) ?_
              refine o_iload hC dX2_foldedNumber_85 (by rfl) ?_
              refine o_mmax hC (by exact hB.2.2.2.2.2) (rl_bw 492 (by decide +kernel) (by decide +kernel)) SJ9_max_7cf53 YJ9_max_7cf53.2.1 YJ9_max_7cf53.1 (by rw [hB.2.1]; first | exact Nat.le_of_ble_eq_true rfl | (dsimp only; omega)) (by rw [hB.2.1]; first | exact Nat.le_of_ble_eq_true rfl | (dsimp only; omega)) (by rw [hB.2.1]; first | exact Nat.le_of_ble_eq_true rfl | (dsimp only; omega)) (by rw [hB.2.1]; first | exact Nat.le_of_ble_eq_true rfl | (dsimp only; omega)) dX2_foldedNumber_87 ?_
              refine o_istore hC dX2_foldedNumber_90 (Nat.le_of_ble_eq_true rfl) ?_
              refine o_iinc hC dX2_foldedNumber_92 (by rfl) (rl_inc _) (Nat.le_of_ble_eq_true rfl) ?_
              refine o_iinc hC dX2_foldedNumber_95 (by rfl) (rl_inc _) (Nat.le_of_ble_eq_true rfl) ?_
              refine o_goto (tgt := 15) hC dX2_foldedNumber_98 (by decide) ?_
              have hin : inS s j = true := by
                unfold inS
                rw [decide_eq_false (show ¬ fbt s j = 0 from c_27)]
                rfl
              first
              | exact absurd c_56 c_75
              | exact absurd c_75 c_56
              | (have h0 : st.1 = 0 := nI_inj2 (by omega) (by omega) (by first | exact c_56 | exact Classical.not_not.mp c_56); exact ih (j + 1) (st.1 + 1, st.2.1 + S1.1 i c5, S1.1 i c5, S1.1 i c5) _ (by omega) (by dsimp only; omega) (by rw [he, ffn, hin, ex]; unfold fstep; rw [if_pos rfl, if_pos h0, if_pos h0]))
              | (have h0 : st.1 ≠ 0 := fun e => c_56 (by rw [e]; rfl); exact ih (j + 1) (st.1 + 1, st.2.1 + S1.1 i c5, if S1.1 i c5 < st.2.2.1 then S1.1 i c5 else st.2.2.1, if st.2.2.2 < S1.1 i c5 then S1.1 i c5 else st.2.2.2) _ (by omega) (by dsimp only; omega) (by rw [he, ffn, hin, ex]; unfold fstep; rw [if_pos rfl, if_neg h0, if_neg h0]))
            · refine o_iload hC dX2_foldedNumber_78 (by rfl) ?_
              refine o_goto (tgt := 90) hC dX2_foldedNumber_80 (by decide) ?_
              refine o_istore hC dX2_foldedNumber_90 (Nat.le_of_ble_eq_true rfl) ?_
              refine o_iinc hC dX2_foldedNumber_92 (by rfl) (rl_inc _) (Nat.le_of_ble_eq_true rfl) ?_
              refine o_iinc hC dX2_foldedNumber_95 (by rfl) (rl_inc _) (Nat.le_of_ble_eq_true rfl) ?_
              refine o_goto (tgt := 15) hC dX2_foldedNumber_98 (by decide) ?_
              have hin : inS s j = true := by
                unfold inS
                rw [decide_eq_false (show ¬ fbt s j = 0 from c_27)]
                rfl
              first
              | exact absurd c_56 c_75
              | exact absurd c_75 c_56
              | (have h0 : st.1 = 0 := nI_inj2 (by omega) (by omega) (by first | exact c_56 | exact Classical.not_not.mp c_56); exact ih (j + 1) (st.1 + 1, st.2.1 + S1.1 i c5, S1.1 i c5, S1.1 i c5) _ (by omega) (by dsimp only; omega) (by rw [he, ffn, hin, ex]; unfold fstep; rw [if_pos rfl, if_pos h0, if_pos h0]))
              | (have h0 : st.1 ≠ 0 := fun e => c_56 (by rw [e]; rfl); exact ih (j + 1) (st.1 + 1, st.2.1 + S1.1 i c5, if S1.1 i c5 < st.2.2.1 then S1.1 i c5 else st.2.2.1, if st.2.2.2 < S1.1 i c5 then S1.1 i c5 else st.2.2.2) _ (by omega) (by dsimp only; omega) (by rw [he, ffn, hin, ex]; unfold fstep; rw [if_pos rfl, if_neg h0, if_neg h0]))
          · refine o_iload hC dX2_foldedNumber_59 (by rfl) ?_
            refine o_goto (tgt := 71) hC dX2_foldedNumber_61 (by decide) ?_
            refine o_istore hC dX2_foldedNumber_71 (Nat.le_of_ble_eq_true rfl) ?_
            refine o_iload hC dX2_foldedNumber_73 (by rfl) ?_
            refine o_if_ne (tgt := 83) hC dX2_foldedNumber_75 (by decide) (fun c_75 => ?_) (fun c_75 => ?_)
            · refine o_iload hC dX2_foldedNumber_83 (by rfl) ?_
              refine o_iload hC dX2_foldedNumber_85 (by rfl) ?_
              refine o_mmax hC (by exact hB.2.2.2.2.2) (rl_bw 492 (by decide +kernel) (by decide +kernel)) SJ9_max_7cf53 YJ9_max_7cf53.2.1 YJ9_max_7cf53.1 (by rw [hB.2.1]; first | exact Nat.le_of_ble_eq_true rfl | (dsimp only; omega)) (by rw [hB.2.1]; first | exact Nat.le_of_ble_eq_true rfl | (dsimp only; omega)) (by rw [hB.2.1]; first | exact Nat.le_of_ble_eq_true rfl | (dsimp only; omega)) (by rw [hB.2.1]; first | exact Nat.le_of_ble_eq_true rfl | (dsimp only; omega)) dX2_foldedNumber_87 ?_
              refine o_istore hC dX2_foldedNumber_90 (Nat.le_of_ble_eq_true rfl) ?_
              refine o_iinc hC dX2_foldedNumber_92 (by rfl) (rl_inc _) (Nat.le_of_ble_eq_true rfl) ?_
              refine o_iinc hC dX2_foldedNumber_95 (by rfl) (rl_inc _) (Nat.le_of_ble_eq_true rfl) ?_
              refine o_goto (tgt := 15) hC dX2_foldedNumber_98 (by decide) ?_
              have hin : inS s j = true := by
                unfold inS
                rw [decide_eq_false (show ¬ fbt s j = 0 from c_27)]
                rfl
              first
              | exact absurd c_56 c_75
              | exact absurd c_75 c_56
              | (have h0 : st.1 = 0 := nI_inj2 (by omega) (by omega) (by first | exact c_56 | exact Classical.not_not.mp c_56); exact ih (j + 1) (st.1 + 1, st.2.1 + S1.1 i c5, S1.1 i c5, S1.1 i c5) _ (by omega) (by dsimp only; omega) (by rw [he, ffn, hin, ex]; unfold fstep; rw [if_pos rfl, if_pos h0, if_pos h0]))
              | (have h0 : st.1 ≠ 0 := fun e => c_56 (by rw [e]; rfl); exact ih (j + 1) (st.1 + 1, st.2.1 + S1.1 i c5, if S1.1 i c5 < st.2.2.1 then S1.1 i c5 else st.2.2.1, if st.2.2.2 < S1.1 i c5 then S1.1 i c5 else st.2.2.2) _ (by omega) (by dsimp only; omega) (by rw [he, ffn, hin, ex]; unfold fstep; rw [if_pos rfl, if_neg h0, if_neg h0]))
            · refine o_iload hC dX2_foldedNumber_78 (by rfl) ?_
              refine o_goto (tgt := 90) hC dX2_foldedNumber_80 (by decide) ?_
              refine o_istore hC dX2_foldedNumber_90 (Nat.le_of_ble_eq_true rfl) ?_
              refine o_iinc hC dX2_foldedNumber_92 (by rfl) (rl_inc _) (Nat.le_of_ble_eq_true rfl) ?_
              refine o_iinc hC dX2_foldedNumber_95 (by rfl) (rl_inc _) (Nat.le_of_ble_eq_true rfl) ?_
              refine o_goto (tgt := 15) hC dX2_foldedNumber_98 (by decide) ?_
              have hin : inS s j = true := by
                unfold inS
                rw [decide_eq_false (show ¬ fbt s j = 0 from c_27)]
                rfl
              first
              | exact absurd c_56 c_75
              | exact absurd c_75 c_56
              | (have h0 : st.1 = 0 := nI_inj2 (by omega) (by omega) (by first | exact c_56 | exact Classical.not_not.mp c_56); exact ih (j + 1) (st.1 + 1, st.2.1 + S1.1 i c5, S1.1 i c5, S1.1 i c5) _ (by omega) (by dsimp only; omega) (by rw [he, ffn, hin, ex]; unfold fstep; rw [if_pos rfl, if_pos h0, if_pos h0]))
              | (have h0 : st.1 ≠ 0 := fun e => c_56 (by rw [e]; rfl); exact ih (j + 1) (st.1 + 1, st.2.1 + S1.1 i c5, if S1.1 i c5 < st.2.2.1 then S1.1 i c5 else st.2.2.1, if st.2.2.2 < S1.1 i c5 then S1.1 i c5 else st.2.2.2) _ (by omega) (by dsimp only; omega) (by rw [he, ffn, hin, ex]; unfold fstep; rw [if_pos rfl, if_neg h0, if_neg h0]))
  show rl_G X (rl_e D ids H0) 0 [some (.ref o), some (.ref nd), some (.int (nI s)), some (.int (nI g.length)), none, none, none, none, none, none] [] h n 0 0
  refine o_iconst (v := nI 0) hC dX2_foldedNumber_0 (by decide +kernel) ?_
  refine o_istore hC dX2_foldedNumber_1 (Nat.le_of_ble_eq_true rfl) ?_
  refine o_iconst (v := nI 0) hC dX2_foldedNumber_3 (by decide +kernel) ?_
  refine o_istore hC dX2_foldedNumber_4 (Nat.le_of_ble_eq_true rfl) ?_
  refine o_iconst (v := nI 0) hC dX2_foldedNumber_6 (by decide +kernel) ?_
  refine o_istore hC dX2_foldedNumber_7 (Nat.le_of_ble_eq_true rfl) ?_
  refine o_iconst (v := nI 0) hC dX2_foldedNumber_9 (by decide +kernel) ?_
  refine o_istore hC dX2_foldedNumber_10 (Nat.le_of_ble_eq_true rfl) ?_
  refine o_iconst (v := nI 0) hC dX2_foldedNumber_12 (by decide +kernel) ?_
  refine o_istore hC dX2_foldedNumber_13 (Nat.le_of_ble_eq_true rfl) ?_
  exact loop g.length 0 (0, 0, 0, 0) _ (by omega) (Nat.le_refl _) rfl
